section
-- ===== PART A: goes FIRST, ahead of the names: the tables' words, and 'selects' of the private methods out of them =====
/-- a private method of a class that the tables say can be made, by its rows of tables_1 -/
def lw_okq (q : MethodName × Nat) : Prop := (q.1.cls ≠ "java/lang/invoke/MethodHandle" ∧ q.1.cls ≠ "java/lang/invoke/VarHandle") ∧ Cond.instantiable q.1.cls q.2 ∈ tables_1 ∧ Cond.privateMethod q.1 ∈ tables_1 ∧ Cond.instanceMethod q.1 ∈ tables_1
theorem lw_p0 : lw_okq (⟨"ListWeave$UsedIds", "forgetAll", "()V"⟩, 2) := ⟨⟨by decide +kernel, by decide +kernel⟩, List.mem_of_getElem? (i := 21) (by decide +kernel), List.mem_of_getElem? (i := 99) (by decide +kernel), List.mem_of_getElem? (i := 100) (by decide +kernel)⟩
theorem lw_p1 : lw_okq (⟨"ListWeave", "elementOrBeginning", "(I)LListWeave$Element;"⟩, 5) := ⟨⟨by decide +kernel, by decide +kernel⟩, List.mem_of_getElem? (i := 13) (by decide +kernel), List.mem_of_getElem? (i := 107) (by decide +kernel), List.mem_of_getElem? (i := 108) (by decide +kernel)⟩
theorem lw_p2 : lw_okq (⟨"ListWeave", "elementOf", "(I)LListWeave$Element;"⟩, 5) := ⟨⟨by decide +kernel, by decide +kernel⟩, List.mem_of_getElem? (i := 13) (by decide +kernel), List.mem_of_getElem? (i := 111) (by decide +kernel), List.mem_of_getElem? (i := 112) (by decide +kernel)⟩
theorem lw_p3 : lw_okq (⟨"ListWeave", "rowOf", "(I)I"⟩, 5) := ⟨⟨by decide +kernel, by decide +kernel⟩, List.mem_of_getElem? (i := 13) (by decide +kernel), List.mem_of_getElem? (i := 115) (by decide +kernel), List.mem_of_getElem? (i := 116) (by decide +kernel)⟩
theorem lw_p4 : lw_okq (⟨"ListWeave", "isFree", "(I)Z"⟩, 5) := ⟨⟨by decide +kernel, by decide +kernel⟩, List.mem_of_getElem? (i := 13) (by decide +kernel), List.mem_of_getElem? (i := 119) (by decide +kernel), List.mem_of_getElem? (i := 120) (by decide +kernel)⟩
theorem lw_p5 : lw_okq (⟨"ListWeave$UsedIds", "has", "(I)Z"⟩, 2) := ⟨⟨by decide +kernel, by decide +kernel⟩, List.mem_of_getElem? (i := 21) (by decide +kernel), List.mem_of_getElem? (i := 124) (by decide +kernel), List.mem_of_getElem? (i := 125) (by decide +kernel)⟩
theorem lw_p6 : lw_okq (⟨"ListWeave$UsedIds", "firstNotBelow", "(I)I"⟩, 2) := ⟨⟨by decide +kernel, by decide +kernel⟩, List.mem_of_getElem? (i := 21) (by decide +kernel), List.mem_of_getElem? (i := 128) (by decide +kernel), List.mem_of_getElem? (i := 129) (by decide +kernel)⟩
theorem lw_p7 : lw_okq (⟨"ListWeave", "weave", "(ILListWeave$Element;II)LListWeave$Element;"⟩, 5) := ⟨⟨by decide +kernel, by decide +kernel⟩, List.mem_of_getElem? (i := 13) (by decide +kernel), List.mem_of_getElem? (i := 135) (by decide +kernel), List.mem_of_getElem? (i := 136) (by decide +kernel)⟩
theorem lw_p8 : lw_okq (⟨"ListWeave", "rowForNew", "(ILListWeave$Element;)I"⟩, 5) := ⟨⟨by decide +kernel, by decide +kernel⟩, List.mem_of_getElem? (i := 13) (by decide +kernel), List.mem_of_getElem? (i := 139) (by decide +kernel), List.mem_of_getElem? (i := 140) (by decide +kernel)⟩
theorem lw_p9 : lw_okq (⟨"ListWeave$Element", "offer", "(III)V"⟩, 9) := ⟨⟨by decide +kernel, by decide +kernel⟩, List.mem_of_getElem? (i := 35) (by decide +kernel), List.mem_of_getElem? (i := 143) (by decide +kernel), List.mem_of_getElem? (i := 144) (by decide +kernel)⟩
theorem lw_p10 : lw_okq (⟨"ListWeave$UsedIds", "note", "(I)V"⟩, 2) := ⟨⟨by decide +kernel, by decide +kernel⟩, List.mem_of_getElem? (i := 21) (by decide +kernel), List.mem_of_getElem? (i := 147) (by decide +kernel), List.mem_of_getElem? (i := 148) (by decide +kernel)⟩
theorem lw_p11 : lw_okq (⟨"ListWeave", "areFree", "(II)Z"⟩, 5) := ⟨⟨by decide +kernel, by decide +kernel⟩, List.mem_of_getElem? (i := 13) (by decide +kernel), List.mem_of_getElem? (i := 158) (by decide +kernel), List.mem_of_getElem? (i := 159) (by decide +kernel)⟩
theorem lw_p12 : lw_okq (⟨"ListWeave", "mayChange", "(II)Z"⟩, 5) := ⟨⟨by decide +kernel, by decide +kernel⟩, List.mem_of_getElem? (i := 13) (by decide +kernel), List.mem_of_getElem? (i := 170) (by decide +kernel), List.mem_of_getElem? (i := 171) (by decide +kernel)⟩
theorem lw_p13 : lw_okq (⟨"ListWeave", "countChange", "(I)V"⟩, 5) := ⟨⟨by decide +kernel, by decide +kernel⟩, List.mem_of_getElem? (i := 13) (by decide +kernel), List.mem_of_getElem? (i := 174) (by decide +kernel), List.mem_of_getElem? (i := 175) (by decide +kernel)⟩
theorem lw_p14 : lw_okq (⟨"ListWeave", "visibleUpTo", "(I)I"⟩, 5) := ⟨⟨by decide +kernel, by decide +kernel⟩, List.mem_of_getElem? (i := 13) (by decide +kernel), List.mem_of_getElem? (i := 186) (by decide +kernel), List.mem_of_getElem? (i := 187) (by decide +kernel)⟩
theorem lw_p15 : lw_okq (⟨"ListWeave$Element", "isVisible", "()Z"⟩, 9) := ⟨⟨by decide +kernel, by decide +kernel⟩, List.mem_of_getElem? (i := 35) (by decide +kernel), List.mem_of_getElem? (i := 190) (by decide +kernel), List.mem_of_getElem? (i := 191) (by decide +kernel)⟩
def lw_privs_1 : List (MethodName × Nat) := [(⟨"ListWeave$UsedIds", "forgetAll", "()V"⟩, 2), (⟨"ListWeave", "elementOrBeginning", "(I)LListWeave$Element;"⟩, 5), (⟨"ListWeave", "elementOf", "(I)LListWeave$Element;"⟩, 5), (⟨"ListWeave", "rowOf", "(I)I"⟩, 5), (⟨"ListWeave", "isFree", "(I)Z"⟩, 5), (⟨"ListWeave$UsedIds", "has", "(I)Z"⟩, 2), (⟨"ListWeave$UsedIds", "firstNotBelow", "(I)I"⟩, 2), (⟨"ListWeave", "weave", "(ILListWeave$Element;II)LListWeave$Element;"⟩, 5), (⟨"ListWeave", "rowForNew", "(ILListWeave$Element;)I"⟩, 5), (⟨"ListWeave$Element", "offer", "(III)V"⟩, 9), (⟨"ListWeave$UsedIds", "note", "(I)V"⟩, 2), (⟨"ListWeave", "areFree", "(II)Z"⟩, 5), (⟨"ListWeave", "mayChange", "(II)Z"⟩, 5), (⟨"ListWeave", "countChange", "(I)V"⟩, 5), (⟨"ListWeave", "visibleUpTo", "(I)I"⟩, 5), (⟨"ListWeave$Element", "isVisible", "()Z"⟩, 9)]
theorem lw_r1 : ∀ q ∈ lw_privs_1, lw_okq q := List.forall_mem_cons.mpr ⟨lw_p0, List.forall_mem_cons.mpr ⟨lw_p1, List.forall_mem_cons.mpr ⟨lw_p2, List.forall_mem_cons.mpr ⟨lw_p3, List.forall_mem_cons.mpr ⟨lw_p4, List.forall_mem_cons.mpr ⟨lw_p5, List.forall_mem_cons.mpr ⟨lw_p6, List.forall_mem_cons.mpr ⟨lw_p7, List.forall_mem_cons.mpr ⟨lw_p8, List.forall_mem_cons.mpr ⟨lw_p9, List.forall_mem_cons.mpr ⟨lw_p10, List.forall_mem_cons.mpr ⟨lw_p11, List.forall_mem_cons.mpr ⟨lw_p12, List.forall_mem_cons.mpr ⟨lw_p13, List.forall_mem_cons.mpr ⟨lw_p14, List.forall_mem_cons.mpr ⟨lw_p15, fun _ h => absurd h List.not_mem_nil⟩⟩⟩⟩⟩⟩⟩⟩⟩⟩⟩⟩⟩⟩⟩⟩
theorem lw_p16 : lw_okq (⟨"ListWeave$UsedIds", "greatest", "()I"⟩, 2) := ⟨⟨by decide +kernel, by decide +kernel⟩, List.mem_of_getElem? (i := 21) (by decide +kernel), List.mem_of_getElem? (i := 206) (by decide +kernel), List.mem_of_getElem? (i := 207) (by decide +kernel)⟩
theorem lw_p17 : lw_okq (⟨"ListWeave", "longestWay", "()I"⟩, 5) := ⟨⟨by decide +kernel, by decide +kernel⟩, List.mem_of_getElem? (i := 13) (by decide +kernel), List.mem_of_getElem? (i := 210) (by decide +kernel), List.mem_of_getElem? (i := 211) (by decide +kernel)⟩
theorem lw_p18 : lw_okq (⟨"ListWeave", "elementAt", "(I)LListWeave$Element;"⟩, 5) := ⟨⟨by decide +kernel, by decide +kernel⟩, List.mem_of_getElem? (i := 13) (by decide +kernel), List.mem_of_getElem? (i := 225) (by decide +kernel), List.mem_of_getElem? (i := 226) (by decide +kernel)⟩
theorem lw_p19 : lw_okq (⟨"java/lang/Throwable", "fillInStackTrace", "(I)Ljava/lang/Throwable;"⟩, 6) := ⟨⟨by decide +kernel, by decide +kernel⟩, List.mem_of_getElem? (i := 266) (by decide +kernel), List.mem_of_getElem? (i := 264) (by decide +kernel), List.mem_of_getElem? (i := 265) (by decide +kernel)⟩
theorem lw_p20 : lw_okq (⟨"ListWeaveModel", "canInsert", "(II)Z"⟩, 13) := ⟨⟨by decide +kernel, by decide +kernel⟩, List.mem_of_getElem? (i := 344) (by decide +kernel), List.mem_of_getElem? (i := 402) (by decide +kernel), List.mem_of_getElem? (i := 403) (by decide +kernel)⟩
theorem lw_p21 : lw_okq (⟨"ListWeaveModel", "isNew", "(I)Z"⟩, 13) := ⟨⟨by decide +kernel, by decide +kernel⟩, List.mem_of_getElem? (i := 344) (by decide +kernel), List.mem_of_getElem? (i := 406) (by decide +kernel), List.mem_of_getElem? (i := 407) (by decide +kernel)⟩
theorem lw_p22 : lw_okq (⟨"ListWeaveModel", "placeOf", "(I)I"⟩, 13) := ⟨⟨by decide +kernel, by decide +kernel⟩, List.mem_of_getElem? (i := 344) (by decide +kernel), List.mem_of_getElem? (i := 411) (by decide +kernel), List.mem_of_getElem? (i := 412) (by decide +kernel)⟩
theorem lw_p23 : lw_okq (⟨"ListWeaveModel", "keep", "(IIII)V"⟩, 13) := ⟨⟨by decide +kernel, by decide +kernel⟩, List.mem_of_getElem? (i := 344) (by decide +kernel), List.mem_of_getElem? (i := 418) (by decide +kernel), List.mem_of_getElem? (i := 419) (by decide +kernel)⟩
theorem lw_p24 : lw_okq (⟨"ListWeaveModel", "does", "(IIII)Z"⟩, 13) := ⟨⟨by decide +kernel, by decide +kernel⟩, List.mem_of_getElem? (i := 344) (by decide +kernel), List.mem_of_getElem? (i := 431) (by decide +kernel), List.mem_of_getElem? (i := 432) (by decide +kernel)⟩
theorem lw_p25 : lw_okq (⟨"ListWeaveModel", "sizeOf", "()I"⟩, 13) := ⟨⟨by decide +kernel, by decide +kernel⟩, List.mem_of_getElem? (i := 344) (by decide +kernel), List.mem_of_getElem? (i := 443) (by decide +kernel), List.mem_of_getElem? (i := 444) (by decide +kernel)⟩
theorem lw_p26 : lw_okq (⟨"ListWeaveModel", "isRemoved", "(I)Z"⟩, 13) := ⟨⟨by decide +kernel, by decide +kernel⟩, List.mem_of_getElem? (i := 344) (by decide +kernel), List.mem_of_getElem? (i := 447) (by decide +kernel), List.mem_of_getElem? (i := 448) (by decide +kernel)⟩
theorem lw_p27 : lw_okq (⟨"ListWeaveModel", "elementAt", "(I)I"⟩, 13) := ⟨⟨by decide +kernel, by decide +kernel⟩, List.mem_of_getElem? (i := 344) (by decide +kernel), List.mem_of_getElem? (i := 455) (by decide +kernel), List.mem_of_getElem? (i := 456) (by decide +kernel)⟩
theorem lw_p28 : lw_okq (⟨"ListWeaveModel", "weave", "()V"⟩, 13) := ⟨⟨by decide +kernel, by decide +kernel⟩, List.mem_of_getElem? (i := 344) (by decide +kernel), List.mem_of_getElem? (i := 459) (by decide +kernel), List.mem_of_getElem? (i := 460) (by decide +kernel)⟩
theorem lw_p29 : lw_okq (⟨"ListWeaveModel", "push", "(II)I"⟩, 13) := ⟨⟨by decide +kernel, by decide +kernel⟩, List.mem_of_getElem? (i := 344) (by decide +kernel), List.mem_of_getElem? (i := 463) (by decide +kernel), List.mem_of_getElem? (i := 464) (by decide +kernel)⟩
theorem lw_p30 : lw_okq (⟨"ListWeaveModel", "kindOf", "(I)I"⟩, 13) := ⟨⟨by decide +kernel, by decide +kernel⟩, List.mem_of_getElem? (i := 344) (by decide +kernel), List.mem_of_getElem? (i := 467) (by decide +kernel), List.mem_of_getElem? (i := 468) (by decide +kernel)⟩
theorem lw_p31 : lw_okq (⟨"ListWeaveModel", "standing", "(I)I"⟩, 13) := ⟨⟨by decide +kernel, by decide +kernel⟩, List.mem_of_getElem? (i := 344) (by decide +kernel), List.mem_of_getElem? (i := 471) (by decide +kernel), List.mem_of_getElem? (i := 472) (by decide +kernel)⟩
def lw_privs_2 : List (MethodName × Nat) := [(⟨"ListWeave$UsedIds", "greatest", "()I"⟩, 2), (⟨"ListWeave", "longestWay", "()I"⟩, 5), (⟨"ListWeave", "elementAt", "(I)LListWeave$Element;"⟩, 5), (⟨"java/lang/Throwable", "fillInStackTrace", "(I)Ljava/lang/Throwable;"⟩, 6), (⟨"ListWeaveModel", "canInsert", "(II)Z"⟩, 13), (⟨"ListWeaveModel", "isNew", "(I)Z"⟩, 13), (⟨"ListWeaveModel", "placeOf", "(I)I"⟩, 13), (⟨"ListWeaveModel", "keep", "(IIII)V"⟩, 13), (⟨"ListWeaveModel", "does", "(IIII)Z"⟩, 13), (⟨"ListWeaveModel", "sizeOf", "()I"⟩, 13), (⟨"ListWeaveModel", "isRemoved", "(I)Z"⟩, 13), (⟨"ListWeaveModel", "elementAt", "(I)I"⟩, 13), (⟨"ListWeaveModel", "weave", "()V"⟩, 13), (⟨"ListWeaveModel", "push", "(II)I"⟩, 13), (⟨"ListWeaveModel", "kindOf", "(I)I"⟩, 13), (⟨"ListWeaveModel", "standing", "(I)I"⟩, 13)]
theorem lw_r2 : ∀ q ∈ lw_privs_2, lw_okq q := List.forall_mem_cons.mpr ⟨lw_p16, List.forall_mem_cons.mpr ⟨lw_p17, List.forall_mem_cons.mpr ⟨lw_p18, List.forall_mem_cons.mpr ⟨lw_p19, List.forall_mem_cons.mpr ⟨lw_p20, List.forall_mem_cons.mpr ⟨lw_p21, List.forall_mem_cons.mpr ⟨lw_p22, List.forall_mem_cons.mpr ⟨lw_p23, List.forall_mem_cons.mpr ⟨lw_p24, List.forall_mem_cons.mpr ⟨lw_p25, List.forall_mem_cons.mpr ⟨lw_p26, List.forall_mem_cons.mpr ⟨lw_p27, List.forall_mem_cons.mpr ⟨lw_p28, List.forall_mem_cons.mpr ⟨lw_p29, List.forall_mem_cons.mpr ⟨lw_p30, List.forall_mem_cons.mpr ⟨lw_p31, fun _ h => absurd h List.not_mem_nil⟩⟩⟩⟩⟩⟩⟩⟩⟩⟩⟩⟩⟩⟩⟩⟩
theorem lw_p32 : lw_okq (⟨"ListWeaveModel", "valueOf", "(I)I"⟩, 13) := ⟨⟨by decide +kernel, by decide +kernel⟩, List.mem_of_getElem? (i := 344) (by decide +kernel), List.mem_of_getElem? (i := 475) (by decide +kernel), List.mem_of_getElem? (i := 476) (by decide +kernel)⟩
theorem lw_p33 : lw_okq (⟨"ListWeaveModel", "idStanding", "(I)I"⟩, 13) := ⟨⟨by decide +kernel, by decide +kernel⟩, List.mem_of_getElem? (i := 344) (by decide +kernel), List.mem_of_getElem? (i := 479) (by decide +kernel), List.mem_of_getElem? (i := 480) (by decide +kernel)⟩
theorem lw_p34 : lw_okq (⟨"ListWeaveModel", "aheadOf", "(I)I"⟩, 13) := ⟨⟨by decide +kernel, by decide +kernel⟩, List.mem_of_getElem? (i := 344) (by decide +kernel), List.mem_of_getElem? (i := 487) (by decide +kernel), List.mem_of_getElem? (i := 488) (by decide +kernel)⟩
theorem lw_p35 : lw_okq (⟨"ListWeaveModel", "rowOf", "(I)I"⟩, 13) := ⟨⟨by decide +kernel, by decide +kernel⟩, List.mem_of_getElem? (i := 344) (by decide +kernel), List.mem_of_getElem? (i := 499) (by decide +kernel), List.mem_of_getElem? (i := 500) (by decide +kernel)⟩
theorem lw_p36 : lw_okq (⟨"ListWeaveModel", "counted", "(II)I"⟩, 13) := ⟨⟨by decide +kernel, by decide +kernel⟩, List.mem_of_getElem? (i := 344) (by decide +kernel), List.mem_of_getElem? (i := 511) (by decide +kernel), List.mem_of_getElem? (i := 512) (by decide +kernel)⟩
theorem lw_p37 : lw_okq (⟨"ListWeaveModel", "greatest", "()I"⟩, 13) := ⟨⟨by decide +kernel, by decide +kernel⟩, List.mem_of_getElem? (i := 344) (by decide +kernel), List.mem_of_getElem? (i := 523) (by decide +kernel), List.mem_of_getElem? (i := 524) (by decide +kernel)⟩
theorem lw_p38 : lw_okq (⟨"ListWeaveModel", "deepest", "()I"⟩, 13) := ⟨⟨by decide +kernel, by decide +kernel⟩, List.mem_of_getElem? (i := 344) (by decide +kernel), List.mem_of_getElem? (i := 527) (by decide +kernel), List.mem_of_getElem? (i := 528) (by decide +kernel)⟩
def lw_privs_3 : List (MethodName × Nat) := [(⟨"ListWeaveModel", "valueOf", "(I)I"⟩, 13), (⟨"ListWeaveModel", "idStanding", "(I)I"⟩, 13), (⟨"ListWeaveModel", "aheadOf", "(I)I"⟩, 13), (⟨"ListWeaveModel", "rowOf", "(I)I"⟩, 13), (⟨"ListWeaveModel", "counted", "(II)I"⟩, 13), (⟨"ListWeaveModel", "greatest", "()I"⟩, 13), (⟨"ListWeaveModel", "deepest", "()I"⟩, 13)]
theorem lw_r3 : ∀ q ∈ lw_privs_3, lw_okq q := List.forall_mem_cons.mpr ⟨lw_p32, List.forall_mem_cons.mpr ⟨lw_p33, List.forall_mem_cons.mpr ⟨lw_p34, List.forall_mem_cons.mpr ⟨lw_p35, List.forall_mem_cons.mpr ⟨lw_p36, List.forall_mem_cons.mpr ⟨lw_p37, List.forall_mem_cons.mpr ⟨lw_p38, fun _ h => absurd h List.not_mem_nil⟩⟩⟩⟩⟩⟩⟩
def lw_privs : List (MethodName × Nat) := lw_privs_1 ++ (lw_privs_2 ++ (lw_privs_3))
def lw_tbl : List Cond := k2_sels lw_privs ++ tables_1
theorem lw_privs_ok : ∀ q ∈ lw_privs, lw_okq q := by
  show ∀ q ∈ lw_privs_1 ++ (lw_privs_2 ++ (lw_privs_3)), lw_okq q
  exact List.forall_mem_append.mpr ⟨lw_r1, List.forall_mem_append.mpr ⟨lw_r2, lw_r3⟩⟩
end
section
/-! ===== BEGIN words of one list among another's, by their places ===== -/
theorem goodIn_r {big : List Cond} (ws : List Cond) (ps : List Nat) (hp : ws = ps.filterMap (fun i => big[i]?)) (h : ws.all goodWord = true) : GoodIn big ws := by
  intro w hw
  have h1 := List.all_eq_true.mp h w hw
  rw [hp] at hw
  obtain ⟨i, -, hi⟩ := List.mem_filterMap.mp hw
  have hm : w ∈ big := by first | exact List.mem_of_getElem? hi | exact List.getElem?_mem hi
  exact ⟨hm, good_of_word h1⟩
theorem goodIn_app {big a b : List Cond} (ha : GoodIn big a) (hb : GoodIn big b) : GoodIn big (a ++ b) := fun w h => (List.mem_append.mp h).elim (ha w) (hb w)
theorem goodIn_ca {big a b : List Cond} {c : Cond} (ha : GoodIn big (c :: a)) (hb : GoodIn big b) : GoodIn big (c :: (a ++ b)) := fun w h => (List.mem_cons.mp h).elim (fun e => ha w (List.mem_cons.mpr (Or.inl e))) (fun h => (List.mem_append.mp h).elim (fun h => ha w (List.mem_cons.mpr (Or.inr h))) (hb w))
theorem goodIn_sub {big ws : List Cond} (hm : ∀ w ∈ ws, w ∈ big) (h : ws.all goodWord = true) : GoodIn big ws := fun w hw => ⟨hm w hw, good_of_word (List.all_eq_true.mp h w hw)⟩
/-! ===== END ===== -/

/-! ===== BEGIN exceptions that leave a method, and their catching by the caller (launches without stack traces) ===== -/
section VXA
/-! The laws vx_back, vx_callV, vx_callS, vx_callSW, vx_throw0, vx_throwS follow proofs of the library, with one case more: JvmDerived/Free/Laws.lean (Back.of_free), Shelf42/LK1.lean (callV, callS), Shelf/KitTraced.lean (throwNew0V, throwNewS). -/
/-- where a method has thrown q: the class by its name, the cell, what was written, the world -/
def vx_T (XC : String → State → State → Prop) (st : State) (q : Addr) (t : State) (mc ms : Nat) (free : Addr → Prop) : Prop :=
  ∃ (E : String) (ce : Cell) (L : List Loc), XC E st t ∧ t.heap[q]? = some ce ∧ ce.vm = .none ∧ st.vm.findClass E = some ce.cls ∧ st.WarmedH t.vm ∧ st.sameButNew ({ t with vm := st.vm } : State) L mc ms ∧ ∀ z ∈ L, free z.base
def vx_Q (Qc : Array Value → State → Outcome → State → Prop) (XC : String → State → State → Prop) (mc ms : Nat) (free : Addr → Prop) : Array Value → State → Outcome → State → Prop := fun a st o t =>
  (Qc a st o t ∧ ∃ L, FrameEnd st o t L mc ms ∧ ∀ q ∈ L, free q.base) ∨ ∃ q, o = .threw q ∧ vx_T XC st q t mc ms free
/-- a callee that returns or throws -/
def vx_Met (l : Launch) (y : MethodName) (ws : List Cond) (rm : Room) (Pc : Array Value → State → Prop) (Qc : Array Value → State → Outcome → State → Prop) (XC : String → State → State → Prop) (mc ms : Nat) (free : Addr → Prop) : Prop :=
  MetFree l y (headSpec ws rm) Pc (fun _ _ _ _ _ => True) (vx_Q Qc XC mc ms free)
def vx_Post (XC : String → State → State → Prop) (mc ms : Nat) (free : Addr → Prop) : Pt → Array Value → Addr → Pt → Prop := fun A a q B =>
  ∃ (g : JFrame) (mk : MethodId) (t : State) (L : List Loc) (E : String) (ce : Cell), B.U.heap = t.heap ∧ B.U.vm = t.vm ∧ XC E (A.U.calling g mk a) t ∧ t.heap[q]? = some ce ∧ ce.vm = .none ∧ A.U.vm.findClass E = some ce.cls ∧ B.locs = A.locs ++ L ∧ (∀ z ∈ L, free z.base) ∧ B.cells = A.cells + mc ∧ B.slots = A.slots + ms
def vx_Back (l : Launch) (R : Room) (p : Program) (e : Env) (below : List Frame) (s : State) (sargs : Array Value) (y : MethodName) (len W9 : Nat)
    (Pre : Pt → Array Value → Prop) (Post : Pt → Array Value → Option Value → Pt → Prop) (PostX : Pt → Array Value → Addr → Pt → Prop) : Prop :=
  ∀ (m : MethodId) (meth : Method) (c : Code) (A : Pt) (g : JFrame) (ig : Instr) (mk : MethodId) (a : Array Value),
    Stand p l e R s m sargs below meth c A.U A.locs A.cells A.slots → g.method = m → g.locals.size = c.maxLocals → decode c.code g.pc = .ok (ig, len) →
    2 * g.monitorRoom + (g.stack.map fun v => v.category).sum ≤ W9 → A.U.methodNamed? y = some mk → Pre A a →
    (∃ (v : Option Value) (B : Pt), Stand p l e R s m sargs below meth c B.U B.locs B.cells B.slots ∧ Post A a v B ∧
      Steps p.tables e below (doInvoke e (A.U.setTop g) [] mk a).1 (B.U.setTop { g with pc := g.pc + len, stack := v.toList ++ g.stack })) ∨
    (∃ (q : Addr) (B : Pt), Stand p l e R s m sargs below meth c B.U B.locs B.cells B.slots ∧ PostX A a q B ∧
      Steps p.tables e below (doInvoke e (A.U.setTop g) [] mk a).1 ((B.U.setTop g).pushFrame (.throwing q)))
section Payer
variable {l : Launch} {R : Room} {p : Program} {e : Env} {below : List Frame} {s : State} {sargs : Array Value} {y : MethodName} {len W9 : Nat}
theorem vx_back {ws : List Cond} {rm : Room} {Pc : Array Value → State → Prop} {Qc : Array Value → State → Outcome → State → Prop} {XC : String → State → State → Prop} {mc ms : Nat} {free : Addr → Prop} {bytes : ByteArray} {maxL : Nat} {ret : Option FieldType}
    (hM : vx_Met l y ws rm Pc Qc XC mc ms free) (hblind : FrameBlind Pc) (hrc : rm.cells = mc) (hrs : rm.slots = ms)
    (hframes : rm.frames + 1 ≤ R.frames) (hlocals : W9 + (maxL + 11) + rm.locals ≤ R.locals)
    (hws : ∀ w ∈ ws, ∀ a' U, s.WarmedH U.vm → w.before a' U = true) (hcode : Cond.code y bytes maxL ret ∈ ws) (hinit : ∀ a' U, s.WarmedH U.vm → (Cond.initialized y.cls).before a' U = true) :
    vx_Back l R p e below s sargs y len W9 (PreOf R mc ms Pc) (PostOf Qc mc ms free) (vx_Post XC mc ms free) := by
  intro m meth c A g ig mk a X hg hsize hdg hW hn hp
  have h1 : (headSpec ws rm).pre.before a A.U = true := atoms_intro fun w hw => hws w hw _ _ X.warmed
  have h2 : (Cond.code y bytes maxL ret).before a A.U = true := hws _ hcode _ _ X.warmed
  have h3 : (Cond.initialized y.cls).before a A.U = true := hinit _ _ X.warmed
  have h4 : A.cells + (headSpec ws rm).room.cells ≤ R.cells := by rw [show (headSpec ws rm).room.cells = mc from hrc]; exact hp.1
  have h5 : A.slots + (headSpec ws rm).room.slots ≤ R.slots := by rw [show (headSpec ws rm).room.slots = ms from hrs]; exact hp.2.1
  have hPc : Pc a (A.U.calling g mk a) := hblind _ _ _ _ hp.2.2
  obtain ⟨U, Ls, c0, s0⟩ := A
  dsimp only [Pt.U, Pt.locs, Pt.cells, Pt.slots] at h1 h2 h3 h4 h5 X hn hPc ⊢
  obtain ⟨methY, cY, hmY, hcY, -, hlY, -, -, -, -⟩ := Cond.code_spec hn h2
  obtain ⟨kY, hkY, -⟩ := className_of_methodNamed hn
  have hinitY : kY.init = .initialized := Cond.initialized_spec (findClass_of_methodNamed hn) hkY h3
  have h : At U g.method c below := by rw [hg]; exact X.here
  have hlocals9 : W9 + (maxL + 11) + (headSpec ws rm).room.locals ≤ R.locals := hlocals
  have happ : (headSpec ws rm).appliesLoose y e.platform (U.calling g mk a) = true :=
    Spec.appliesLoose_calling (g := g) h hdg hn hkY hinitY
      (X.room_calling (g := g) (R' := (headSpec ws rm).room) hsize hmY hcY hframes (by rw [hlY]; omega) h4 h5) h1
  obtain ⟨mid, hmid⟩ := h.above
  have hfr : (U.setTop g).frames = (.java g :: mid) ++ below := by rw [State.frames_setTop' g h.top, hmid]; rfl
  obtain ⟨o, s₂, hsteps, -, hend, hq⟩ := Steps.callFree hM p X.admits X.cas X.clock (acts := []) hfr happ hPc trivial
  have hq' : vx_Q Qc XC mc ms free a (U.calling g mk a) o s₂ := hq
  rw [State.frames_setTop' g h.top] at hend
  obtain ⟨g₀, hg0⟩ := Option.isSome_iff_exists.mp h.top
  obtain ⟨r, hr⟩ := State.topJava?_eq_some.mp hg0
  have hr' : (({ U with heap := s₂.heap, slotsUsed := s₂.slotsUsed } : State).setVm s₂.vm).frames = .java g₀ :: r := hr
  rcases hq' with ⟨hqc, L, hfe, hL⟩ | ⟨q, rfl, E, ce, L, hx, hce, hcv, hcl, hW₂, hsm, hL⟩
  · obtain ⟨⟨v, rfl⟩, hW₂, e2, q2, q3, q4, q5, q6⟩ := id hfe
    have e3 : s₂ = ({ (U.calling g mk a).setFrames s₂.frames with heap := s₂.heap, slotsUsed := s₂.slotsUsed } : State).setVm s₂.vm := by
      have : s₂ = ({ s₂ with vm := (U.calling g mk a).vm } : State).setVm s₂.vm := rfl
      rw [e2] at this
      exact this
    obtain ⟨c₂, i₂, len₂, hc₂, hd₂, hf₂⟩ := hend
    have hW' : U.WarmedH s₂.vm := hW₂
    have hcc : c₂ = c := by
      have h1 : s₂.code? g.method = U.code? g.method := by
        rw [State.code?_eq, State.code?_eq, hW'.alike.method?]
      exact Option.some.inj (hc₂.symm.trans (h1.trans h.code))
    subst hcc
    have hlen : len₂ = len := by rw [hdg] at hd₂; cases hd₂; rfl
    subst hlen
    have hs₂ : s₂ = (({ U with heap := s₂.heap, slotsUsed := s₂.slotsUsed } : State).setVm s₂.vm).setTop { g with pc := g.pc + len₂, stack := v.toList ++ g.stack } := by
      refine e3.trans ?_
      rw [hf₂, State.calling_eq h.top, State.setFrames_setFrames, State.setTop_of_frames _ hr', hr]
      rfl
    have hsame : U.sameButNew ({ U with heap := s₂.heap, slotsUsed := s₂.slotsUsed } : State) L mc ms := by
      refine ⟨?_, q2, q3, q4, q5, q6⟩
      obtain ⟨t, ht, -⟩ := State.frames_cons hr
      show ({ U with heap := s₂.heap, slotsUsed := s₂.slotsUsed } : State) = { U.setFrames U.frames with heap := s₂.heap, slotsUsed := s₂.slotsUsed }
      rw [State.setFrames_self ht]
    subst hg
    refine Or.inl ⟨v, ⟨(({ U with heap := s₂.heap, slotsUsed := s₂.slotsUsed } : State).setVm s₂.vm), Ls ++ L, c0 + mc, s0 + ms⟩,
      ⟨X.admits, X.cas, X.clock, X.frames, X.room, X.hears, X.method, X.code, (X.here.setHeapUsed s₂.heap s₂.slotsUsed).setVm hW'.alike, X.tail, State.WarmedH.trans X.warmed hW', X.limits, X.bytes, X.same.trans (hsame.setVm s.vm)⟩,
      ⟨g, mk, s₂, L, rfl, rfl, hqc, rfl, hL, rfl, rfl⟩, ?_⟩
    show Steps p.tables e below _ ((({ U with heap := s₂.heap, slotsUsed := s₂.slotsUsed } : State).setVm s₂.vm).setTop { g with pc := g.pc + len₂, stack := v.toList ++ g.stack })
    rw [← hs₂]
    exact hsteps
  · obtain ⟨e2, q2, q3, q4, q5, q6⟩ := id hsm
    have e3 : s₂ = ({ (U.calling g mk a).setFrames s₂.frames with heap := s₂.heap, slotsUsed := s₂.slotsUsed } : State).setVm s₂.vm := by
      have : s₂ = ({ s₂ with vm := (U.calling g mk a).vm } : State).setVm s₂.vm := rfl
      rw [e2] at this
      exact this
    have hf₂ : s₂.frames = .throwing q :: .java g :: U.frames.tail := hend
    have hW' : U.WarmedH s₂.vm := hW₂
    have hs₂ : s₂ = ((({ U with heap := s₂.heap, slotsUsed := s₂.slotsUsed } : State).setVm s₂.vm).setTop g).pushFrame (.throwing q) := by
      refine e3.trans ?_
      rw [hf₂, State.calling_eq h.top, State.setFrames_setFrames, State.pushFrame, State.frames_setTop _ hr', State.setTop_of_frames _ hr', State.setFrames_setFrames, hr]
      rfl
    have hsame : U.sameButNew ({ U with heap := s₂.heap, slotsUsed := s₂.slotsUsed } : State) L mc ms := by
      refine ⟨?_, q2, q3, q4, q5, q6⟩
      obtain ⟨t, ht, -⟩ := State.frames_cons hr
      show ({ U with heap := s₂.heap, slotsUsed := s₂.slotsUsed } : State) = { U.setFrames U.frames with heap := s₂.heap, slotsUsed := s₂.slotsUsed }
      rw [State.setFrames_self ht]
    subst hg
    refine Or.inr ⟨q, ⟨(({ U with heap := s₂.heap, slotsUsed := s₂.slotsUsed } : State).setVm s₂.vm), Ls ++ L, c0 + mc, s0 + ms⟩,
      ⟨X.admits, X.cas, X.clock, X.frames, X.room, X.hears, X.method, X.code, (X.here.setHeapUsed s₂.heap s₂.slotsUsed).setVm hW'.alike, X.tail, State.WarmedH.trans X.warmed hW', X.limits, X.bytes, X.same.trans (hsame.setVm s.vm)⟩,
      ⟨g, mk, s₂, L, E, ce, rfl, rfl, hx, hce, hcv, hcl, rfl, hL, rfl, rfl⟩, ?_⟩
    show Steps p.tables e below _ (((({ U with heap := s₂.heap, slotsUsed := s₂.slotsUsed } : State).setVm s₂.vm).setTop g).pushFrame (.throwing q))
    rw [← hs₂]
    exact hsteps
end Payer
section Calls
variable {p : Program} {l : Launch} {e : Env} {R : Room} {s : State} {m : MethodId} {args : Array Value} {below : List Frame} {meth : Method} {c : Code} {T : State} {locs : List Loc} {cells slots : Nat}
theorem vx_callV (X : Stand p l e R s m args below meth c T locs cells slots) (hexec : p.tables.exec = Jvm.exec) {own C : String} {index : Nat} {y : MethodName} {bytes : ByteArray} {maxL : Nat} {ret : Option FieldType}
    (hown : s.vm.findClass own = some m.cls) (hlink : (Cond.methodLink own index y).before args s = true) (hinst : (Cond.instanceMethod y).before args s = true) (hsel : (Cond.selects C y y).before args s = true)
    (hcode : (Cond.code y bytes maxL ret).before args s = true) (hy : y.cls ≠ "java/lang/invoke/MethodHandle" ∧ y.cls ≠ "java/lang/invoke/VarHandle")
    {W9 : Nat} {Pre : Pt → Array Value → Prop} {Post : Pt → Array Value → Option Value → Pt → Prop} {PostX : Pt → Array Value → Addr → Pt → Prop} (hK : vx_Back l R p e below s args y 3 W9 Pre Post PostX)
    {b : Addr} {cellB : Cell} (hcell : T.heap[b]? = some cellB) (hobj : cellB.vm.isStatics = false) (hcls : s.vm.findClass C = some cellB.cls)
    {g : JFrame} (hg : g.method = m) (hsize : g.locals.size = c.maxLocals) {argsL rest : List Value} (hlen : ∀ sig, parseMethodDescriptor y.desc = some sig → argsL.length = sig.parameters.length)
    (hstack : g.stack = argsL.reverse ++ .ref b :: rest) (hW : 2 * g.monitorRoom + (rest.map fun v => v.category).sum ≤ W9) (hdg : decode c.code g.pc = .ok (.invokevirtual index, 3))
    (hpre : ∀ vm₁, s.WarmedH vm₁ → Pre ⟨T.setVm vm₁, locs, cells, slots⟩ (Value.ref b :: argsL).toArray) :
    (∃ (v : Option Value) (vm₁ : Vm) (B : Pt), s.WarmedH vm₁ ∧ Stand p l e R s m args below meth c B.U B.locs B.cells B.slots ∧ Post ⟨T.setVm vm₁, locs, cells, slots⟩ (Value.ref b :: argsL).toArray v B ∧
      ∀ target, Steps p.tables e below (B.U.setTop { g with pc := g.pc + 3, stack := v.toList ++ rest }) target → Steps p.tables e below (T.setTop g) target) ∨
    (∃ (q : Addr) (vm₁ : Vm) (B : Pt), s.WarmedH vm₁ ∧ Stand p l e R s m args below meth c B.U B.locs B.cells B.slots ∧ PostX ⟨T.setVm vm₁, locs, cells, slots⟩ (Value.ref b :: argsL).toArray q B ∧
      Steps p.tables e below (T.setTop g) ((B.U.setTop { g with stack := rest }).pushFrame (.throwing q))) := by
  obtain ⟨mk, methM, hnamed, hmethM, hstM, habM⟩ := Cond.instanceMethod_spec hinst
  obtain ⟨methM', cM, hmethM', -, -, -, -, -, -, hsigM⟩ := Cond.code_spec hnamed hcode
  cases hmethM.symm.trans hmethM'
  obtain ⟨c2, r2, m2, q1, q2, q3, q4, kP, hkP, hkPi⟩ := Cond.selects_spec hsel
  cases hcls.symm.trans q1
  cases (State.methodFound?_of_named hnamed hy).symm.trans q2
  cases hnamed.symm.trans q3
  have hselP : selectMethod e.platform s.vm cellB.cls mk = .method mk := by rw [Launch.admits_selectMethod X.admits]; exact q4
  obtain ⟨vm₁, X₁, hstep₁⟩ := X.invokevirtual hexec hown hlink hnamed hmethM hstM hkP hkPi hy (a := b) (cell := cellB) hcell
    (fun z h => by rw [h] at hobj; cases hobj) hselP hmethM habM hkP hkPi (g := g) hg (argsL := argsL) (rest := rest) (hlen _ hsigM) hstack hdg
  rcases hK m meth c ⟨T.setVm vm₁, locs, cells, slots⟩ { g with stack := rest } (.invokevirtual index) mk (Value.ref b :: argsL).toArray X₁ hg hsize hdg hW (X₁.named hnamed) (hpre vm₁ X₁.warmed) with ⟨v, B, X', hpost, hsteps⟩ | ⟨q, B, X', hpost, hsteps⟩
  · exact Or.inl ⟨v, vm₁, B, X₁.warmed, X', hpost, fun target h => hstep₁ _ fun acts => by rw [doInvoke_state]; exact hsteps.trans h⟩
  · exact Or.inr ⟨q, vm₁, B, X₁.warmed, X', hpost, hstep₁ _ fun acts => by rw [doInvoke_state]; exact hsteps⟩
theorem vx_callS (X : Stand p l e R s m args below meth c T locs cells slots) (hexec : p.tables.exec = Jvm.exec) {own : String} {index : Nat} {y : MethodName} {bytes : ByteArray} {maxL : Nat} {ret : Option FieldType}
    (hown : s.vm.findClass own = some m.cls) (hlink : (Cond.methodLink own index y).before args s = true) (hstat : (Cond.static y).before args s = true) (hinit : (Cond.initialized y.cls).before args s = true)
    (hcode : (Cond.code y bytes maxL ret).before args s = true) (hy : y.cls ≠ "java/lang/invoke/MethodHandle" ∧ y.cls ≠ "java/lang/invoke/VarHandle")
    {W9 : Nat} {Pre : Pt → Array Value → Prop} {Post : Pt → Array Value → Option Value → Pt → Prop} {PostX : Pt → Array Value → Addr → Pt → Prop} (hK : vx_Back l R p e below s args y 3 W9 Pre Post PostX)
    {g : JFrame} (hg : g.method = m) (hsize : g.locals.size = c.maxLocals) {argsL rest : List Value} (hlen : ∀ sig, parseMethodDescriptor y.desc = some sig → argsL.length = sig.parameters.length)
    (hstack : g.stack = argsL.reverse ++ rest) (hW : 2 * g.monitorRoom + (rest.map fun v => v.category).sum ≤ W9) (hdg : decode c.code g.pc = .ok (.invokestatic index, 3))
    (hpre : ∀ vm₁, s.WarmedH vm₁ → Pre ⟨T.setVm vm₁, locs, cells, slots⟩ argsL.toArray) :
    (∃ (v : Option Value) (vm₁ : Vm) (B : Pt), s.WarmedH vm₁ ∧ Stand p l e R s m args below meth c B.U B.locs B.cells B.slots ∧ Post ⟨T.setVm vm₁, locs, cells, slots⟩ argsL.toArray v B ∧
      ∀ target, Steps p.tables e below (B.U.setTop { g with pc := g.pc + 3, stack := v.toList ++ rest }) target → Steps p.tables e below (T.setTop g) target) ∨
    (∃ (q : Addr) (vm₁ : Vm) (B : Pt), s.WarmedH vm₁ ∧ Stand p l e R s m args below meth c B.U B.locs B.cells B.slots ∧ PostX ⟨T.setVm vm₁, locs, cells, slots⟩ argsL.toArray q B ∧
      Steps p.tables e below (T.setTop g) ((B.U.setTop { g with stack := rest }).pushFrame (.throwing q))) := by
  obtain ⟨mk, hnamed⟩ := Cond.code_named hcode
  obtain ⟨methM, cM, hmethM, -, -, -, -, -, -, hsigM⟩ := Cond.code_spec hnamed hcode
  have hstatic : methM.isStatic = true := Cond.static_spec hnamed hmethM hstat
  obtain ⟨kP, hkP, -⟩ := className_of_methodNamed hnamed
  have hinitP : kP.init = .initialized := Cond.initialized_spec (findClass_of_methodNamed hnamed) hkP hinit
  obtain ⟨vm₁, X₁, hstep₁⟩ := X.invokestatic hexec hown hlink hnamed hmethM hstatic hkP hinitP hy (g := g) hg (argsL := argsL) (rest := rest) (hlen _ hsigM) hstack hdg
  rcases hK m meth c ⟨T.setVm vm₁, locs, cells, slots⟩ { g with stack := rest } (.invokestatic index) mk argsL.toArray X₁ hg hsize hdg hW (X₁.named hnamed) (hpre vm₁ X₁.warmed) with ⟨v, B, X', hpost, hsteps⟩ | ⟨q, B, X', hpost, hsteps⟩
  · exact Or.inl ⟨v, vm₁, B, X₁.warmed, X', hpost, fun target h => hstep₁ _ fun acts => by rw [doInvoke_state]; exact hsteps.trans h⟩
  · exact Or.inr ⟨q, vm₁, B, X₁.warmed, X', hpost, hstep₁ _ fun acts => by rw [doInvoke_state]; exact hsteps⟩
end Calls
theorem vx_cls {s : State} {T : State} {vm₁ : Vm} {E : String} {k : ClassId} (hW : s.WarmedH vm₁) (h : (T.setVm vm₁).vm.findClass E = some k) : s.vm.findClass E = some k := by
  have h1 : vm₁.findClass E = some k := h
  rw [hW.alike.findClass] at h1
  exact h1
/-- the method's frame g, with q thrown over it -/
def vx_W (p : Program) (l : Launch) (e : Env) (R : Room) (s : State) (m : MethodId) (args : Array Value) (below : List Frame) (meth : Method) (c : Code) (H : Heap) (locs : List Loc) (cells slots : Nat) (Q : State → Prop) (g : JFrame) (q : Addr) : Prop :=
  ∀ T : State, T.heap = H → Stand p l e R s m args below meth c T locs cells slots → ∃ t, Steps p.tables e below ((T.setTop g).pushFrame (.throwing q)) t ∧ Q t
def vx_Run (p : Program) (l : Launch) (e : Env) (R : Room) (s : State) (m : MethodId) (args : Array Value) (below : List Frame) (meth : Method) (c : Code) (H : Heap) (locs : List Loc) (cells slots mc ms : Nat) (g : JFrame) (rest : List Value) (Qa : State → Outcome → State → Prop) (XC : String → State → State → Prop) (free : Addr → Prop) : Prop :=
  ∀ T : State, T.heap = H → Stand p l e R s m args below meth c T locs cells slots →
    (∃ (v : Option Value) (st₀ t T' : State) (L : List Loc), st₀.heap = H ∧ Stand p l e R s m args below meth c T' (locs ++ L) (cells + mc) (slots + ms) ∧ (∀ q ∈ L, free q.base) ∧ T'.heap = t.heap ∧ T'.vm = t.vm ∧ Qa st₀ (.returned v) t ∧
      Goes p e below T g T' { g with pc := g.pc + 3, stack := v.toList ++ rest }) ∨
    (∃ (q : Addr) (st₀ t T' : State) (L : List Loc) (E : String) (ce : Cell), st₀.heap = H ∧ Stand p l e R s m args below meth c T' (locs ++ L) (cells + mc) (slots + ms) ∧ (∀ z ∈ L, free z.base) ∧ T'.heap = t.heap ∧ T'.vm = t.vm ∧ XC E st₀ t ∧ t.heap[q]? = some ce ∧ ce.vm = .none ∧ s.vm.findClass E = some ce.cls ∧
      Steps p.tables e below (T.setTop g) ((T'.setTop { g with stack := rest }).pushFrame (.throwing q)))
def vx_X {S : Type} (px : S → Prop) (B : String → S → State → Prop) (A : Nat → Prop) : String → State → State → Prop := fun E st t => ∃ u : S, px u ∧ B E u t ∧ va_F A st t
section Runs
variable {p : Program} {l : Launch} {e : Env} {R : Room} {s : State} {m : MethodId} {args : Array Value} {below : List Frame} {meth : Method} {c : Code} {H : Heap} {locs : List Loc} {cells slots : Nat}
variable {y : MethodName} {bytes cc : ByteArray} {maxL nL mc ms n index : Nat} {ret : Option FieldType} {ws : List Cond} {rm : Room} {Pc : Array Value → State → Prop} {Qc : Array Value → State → Outcome → State → Prop} {XC : String → State → State → Prop} {free : Addr → Prop} {Ts : List Cond} {own C : String} {b : Addr} {As rest : List Value} {g : JFrame}
theorem vx_callBack (cb : CallB R s args own index y bytes maxL ret ws rm mc ms n) (hM : vx_Met l y ws rm Pc Qc XC mc ms free) (hbl : FrameBlind Pc) : vx_Back l R p e below s args y 3 8 (PreOf R mc ms Pc) (PostOf Qc mc ms free) (vx_Post XC mc ms free) := by
  obtain ⟨hrc, hrs, hfr, hlo, hws, hcw, -, hini, -⟩ := cb
  exact vx_back (bytes := bytes) (maxL := maxL) (ret := ret) hM hbl hrc hrs hfr hlo hws hcw (fun a' U hW => word_at hW (Or.inl (by first | rfl | simp [Cond.onTables, Cond.keeps, Cond.steady])) hini)
theorem vx_runV (S : CallFix p m c cc nL s args Ts own) (hM : vx_Met l y ws rm Pc Qc XC mc ms free) (cw : CallW R s args own C index y bytes maxL ret ws rm mc ms n) (hp : PreV s H C b Pc As)
    (hg : g.method = m) (hn : As.length = n) (hsize : g.locals.size = nL) (hstack : g.stack = As.reverse ++ .ref b :: rest) (hW : 2 * g.monitorRoom + (rest.map fun v => v.category).sum ≤ 8) (hdg : decode cc g.pc = .ok (.invokevirtual index, 3)) (hf : cells + mc ≤ R.cells ∧ slots + ms ≤ R.slots) :
    vx_Run p l e R s m args below meth c H locs cells slots mc ms g rest (Qc (Value.ref b :: As).toArray) XC free := by
  have hK : vx_Back l R p e below s args y 3 8 (PreOf R mc ms Pc) (PostOf Qc mc ms free) (vx_Post XC mc ms free) := vx_callBack cw.1 hM hp.1
  obtain ⟨⟨-, -, -, -, -, -, hcode, -, hy, hlen, hl⟩, hin, hse⟩ := cw
  obtain ⟨hx, hb, hml, ho, -⟩ := S
  obtain ⟨-, ⟨cellB, hcB, hoB, hclB⟩, hPc⟩ := hp
  intro T hT X
  rcases vx_callV X hx (C := C) (bytes := bytes) (maxL := maxL) (ret := ret) ho hl hin hse hcode hy hK (by rw [hT]; exact hcB) hoB hclB hg (hsize.trans hml.symm) (argsL := As) (rest := rest) (fun sig h => hn.trans (hlen sig h)) hstack hW (by rw [hb]; exact hdg)
    (fun vm₁ hW₁ => ⟨hf.1, hf.2, hPc (T.setVm vm₁) hT hW₁⟩) with ⟨v, vm₁, ⟨U', l2, c2, s2⟩, hW₁, X', ⟨g', mk, t, L, e1, e2, hq, h1, hL, h2, h3⟩, st⟩ | ⟨q, vm₁, ⟨U', l2, c2, s2⟩, hW₁, X', ⟨g', mk, t, L, E, ce, e1, e2, hq, hce, hcv, hcl, h1, hL, h2, h3⟩, st⟩
  · dsimp only [Pt.U, Pt.locs, Pt.cells, Pt.slots] at X' e1 e2 h1 h2 h3 st
    subst h1; subst h2; subst h3
    exact Or.inl ⟨v, (T.setVm vm₁).calling g' mk (Value.ref b :: As).toArray, t, U', L, hT, X', hL, e1, e2, hq, st⟩
  · dsimp only [Pt.U, Pt.locs, Pt.cells, Pt.slots] at X' e1 e2 h1 h2 h3 st hcl
    subst h1; subst h2; subst h3
    exact Or.inr ⟨q, (T.setVm vm₁).calling g' mk (Value.ref b :: As).toArray, t, U', L, E, ce, hT, X', hL, e1, e2, hq, hce, hcv, vx_cls hW₁ hcl, st⟩
theorem vx_runS (S : CallFix p m c cc nL s args Ts own) (hM : vx_Met l y ws rm Pc Qc XC mc ms free) (cw : CallB R s args own index y bytes maxL ret ws rm mc ms n ∧ (Cond.static y).before args s = true) (hp : PreS s H Pc As)
    (hg : g.method = m) (hn : As.length = n) (hsize : g.locals.size = nL) (hstack : g.stack = As.reverse ++ rest) (hW : 2 * g.monitorRoom + (rest.map fun v => v.category).sum ≤ 8) (hdg : decode cc g.pc = .ok (.invokestatic index, 3)) (hf : cells + mc ≤ R.cells ∧ slots + ms ≤ R.slots) :
    vx_Run p l e R s m args below meth c H locs cells slots mc ms g rest (Qc As.toArray) XC free := by
  have hK : vx_Back l R p e below s args y 3 8 (PreOf R mc ms Pc) (PostOf Qc mc ms free) (vx_Post XC mc ms free) := vx_callBack cw.1 hM hp.1
  obtain ⟨⟨-, -, -, -, -, -, hcode, hini, hy, hlen, hl⟩, hstt⟩ := cw
  obtain ⟨hx, hb, hml, ho, -⟩ := S
  intro T hT X
  rcases vx_callS X hx (bytes := bytes) (maxL := maxL) (ret := ret) ho hl hstt hini hcode hy hK hg (hsize.trans hml.symm) (argsL := As) (rest := rest) (fun sig h => hn.trans (hlen sig h)) hstack hW (by rw [hb]; exact hdg)
    (fun vm₁ hW₁ => ⟨hf.1, hf.2, hp.2 (T.setVm vm₁) hT hW₁⟩) with ⟨v, vm₁, ⟨U', l2, c2, s2⟩, hW₁, X', ⟨g', mk, t, L, e1, e2, hq, h1, hL, h2, h3⟩, st⟩ | ⟨q, vm₁, ⟨U', l2, c2, s2⟩, hW₁, X', ⟨g', mk, t, L, E, ce, e1, e2, hq, hce, hcv, hcl, h1, hL, h2, h3⟩, st⟩
  · dsimp only [Pt.U, Pt.locs, Pt.cells, Pt.slots] at X' e1 e2 h1 h2 h3 st
    subst h1; subst h2; subst h3
    exact Or.inl ⟨v, (T.setVm vm₁).calling g' mk As.toArray, t, U', L, hT, X', hL, e1, e2, hq, st⟩
  · dsimp only [Pt.U, Pt.locs, Pt.cells, Pt.slots] at X' e1 e2 h1 h2 h3 st hcl
    subst h1; subst h2; subst h3
    exact Or.inr ⟨q, (T.setVm vm₁).calling g' mk As.toArray, t, U', L, E, ce, hT, X', hL, e1, e2, hq, hce, hcv, vx_cls hW₁ hcl, st⟩
end Runs
section Rows
variable {p : Program} {l : Launch} {e : Env} {R : Room} {s : State} {m : MethodId} {args : Array Value} {below : List Frame} {meth : Method} {c : Code} {H : Heap} {locs : List Loc} {cells slots : Nat} {Q : State → Prop}
variable {mc ms : Nat} {free : Addr → Prop} {A0 A1 : Nat → Prop} {H0 : Heap} {a : Array Value} {pc : Nat} {ls : Array Slot} {st0 rest : List Value}
theorem vx_keep {st₀ t T' : State} {L : List Loc} (h0 : st₀.heap = H) (e1 : T'.heap = t.heap) (hS : va_S A0 H0 H locs) (hA : ∀ q, q < H.size → A1 q → A0 q) (hf : ∀ q, free q → A0 q) (hL : ∀ q ∈ L, free q.base) (hF : va_F A1 st₀ t) :
    H.size ≤ T'.heap.size ∧ (∀ q : Nat, q < H.size → ¬ A1 q → T'.heap[q]? = H[q]?) ∧ va_S A0 H0 T'.heap (locs ++ L) := by
  obtain ⟨hz, hk⟩ := hF
  rw [h0] at hz hk
  exact ⟨by rw [e1]; exact hz, fun q h1 h2 => by rw [e1]; exact hk q h1 h2,
    ⟨Nat.le_trans hS.1 (by rw [e1]; exact hz), fun q h1 h2 => by rw [e1, hk q (Nat.lt_of_lt_of_le h1 hS.1) (fun z => h2 (hA q (Nat.lt_of_lt_of_le h1 hS.1) z))]; exact hS.2.1 q h1 h2, fun q hq => by
      rcases List.mem_append.mp hq with h | h
      · exact hS.2.2 q h
      · exact hf _ (hL q h)⟩⟩
theorem vx_calli {S SX : Type} {post : Int32 → S → Prop} {px : SX → Prop} {B : S → State → Prop} {BX : String → SX → State → Prop} {AX : Nat → Prop} (hr : vx_Run p l e R s m args below meth c H locs cells slots mc ms (F0 m pc ls st0) rest (va_Qi post B A1 a) (vx_X px BX AX) free) (hS : va_S A0 H0 H locs) (hA : ∀ q, q < H.size → A1 q → A0 q) (hf : ∀ q, free q → A0 q) (hAX : ∀ q, q < H.size → AX q → A0 q)
    (kx : ∀ (E : String) (ce : Cell) (q9 : Addr) (u : SX) (t : State) (H1 : Heap) (locs1 : List Loc), t.heap = H1 → s.vm.Alike t.vm → px u → BX E u t → H.size ≤ H1.size → (∀ q : Nat, q < H.size → ¬ AX q → H1[q]? = H[q]?) → va_S A0 H0 H1 locs1 → H1[q9]? = some ce → ce.vm = .none → s.vm.findClass E = some ce.cls → vx_W p l e R s m args below meth c H1 locs1 (cells + mc) (slots + ms) Q (F0 m pc ls rest) q9)
    (kk : ∀ (r : Int32) (u : S) (t : State) (H1 : Heap) (locs1 : List Loc), t.heap = H1 → s.vm.Alike t.vm → post r u → B u t → H.size ≤ H1.size → (∀ q : Nat, q < H.size → ¬ A1 q → H1[q]? = H[q]?) → va_S A0 H0 H1 locs1 → W p l e R s m args below meth c H1 locs1 (cells + mc) (slots + ms) Q (F0 m (pc + 3) ls (.int r :: rest))) : W p l e R s m args below meth c H locs cells slots Q (F0 m pc ls st0) := by
  intro T hT X
  rcases hr T hT X with ⟨v, st₀, t, T', L, h0, X', hL, e1, e2, ⟨⟨r, u, hv, hp, hb⟩, hF⟩, st⟩ | ⟨q, st₀, t, T', L, E, ce, h0, X', hL, e1, e2, ⟨u, hp, hb, hF⟩, hce, hcv, hcl, st⟩
  · cases hv
    obtain ⟨k1, k2, k3⟩ := vx_keep h0 e1 hS hA hf hL hF
    obtain ⟨t2, a1, b1⟩ := kk r u t T'.heap (locs ++ L) e1.symm (by rw [← e2]; exact X'.warmed.alike) hp hb k1 k2 k3 T' rfl X'
    exact ⟨t2, st t2 a1, b1⟩
  · obtain ⟨k1, k2, k3⟩ := vx_keep h0 e1 hS hAX hf hL hF
    obtain ⟨t2, a1, b1⟩ := kx E ce q u t T'.heap (locs ++ L) e1.symm (by rw [← e2]; exact X'.warmed.alike) hp hb k1 k2 k3 (by rw [e1]; exact hce) hcv hcl T' rfl X'
    exact ⟨t2, st.trans a1, b1⟩
theorem vx_calll {S SX : Type} {post : Int64 → S → Prop} {px : SX → Prop} {B : S → State → Prop} {BX : String → SX → State → Prop} {AX : Nat → Prop} (hr : vx_Run p l e R s m args below meth c H locs cells slots mc ms (F0 m pc ls st0) rest (va_Ql post B A1 a) (vx_X px BX AX) free) (hS : va_S A0 H0 H locs) (hA : ∀ q, q < H.size → A1 q → A0 q) (hf : ∀ q, free q → A0 q) (hAX : ∀ q, q < H.size → AX q → A0 q)
    (kx : ∀ (E : String) (ce : Cell) (q9 : Addr) (u : SX) (t : State) (H1 : Heap) (locs1 : List Loc), t.heap = H1 → s.vm.Alike t.vm → px u → BX E u t → H.size ≤ H1.size → (∀ q : Nat, q < H.size → ¬ AX q → H1[q]? = H[q]?) → va_S A0 H0 H1 locs1 → H1[q9]? = some ce → ce.vm = .none → s.vm.findClass E = some ce.cls → vx_W p l e R s m args below meth c H1 locs1 (cells + mc) (slots + ms) Q (F0 m pc ls rest) q9)
    (kk : ∀ (r : Int64) (u : S) (t : State) (H1 : Heap) (locs1 : List Loc), t.heap = H1 → s.vm.Alike t.vm → post r u → B u t → H.size ≤ H1.size → (∀ q : Nat, q < H.size → ¬ A1 q → H1[q]? = H[q]?) → va_S A0 H0 H1 locs1 → W p l e R s m args below meth c H1 locs1 (cells + mc) (slots + ms) Q (F0 m (pc + 3) ls (.long r :: rest))) : W p l e R s m args below meth c H locs cells slots Q (F0 m pc ls st0) := by
  intro T hT X
  rcases hr T hT X with ⟨v, st₀, t, T', L, h0, X', hL, e1, e2, ⟨⟨r, u, hv, hp, hb⟩, hF⟩, st⟩ | ⟨q, st₀, t, T', L, E, ce, h0, X', hL, e1, e2, ⟨u, hp, hb, hF⟩, hce, hcv, hcl, st⟩
  · cases hv
    obtain ⟨k1, k2, k3⟩ := vx_keep h0 e1 hS hA hf hL hF
    obtain ⟨t2, a1, b1⟩ := kk r u t T'.heap (locs ++ L) e1.symm (by rw [← e2]; exact X'.warmed.alike) hp hb k1 k2 k3 T' rfl X'
    exact ⟨t2, st t2 a1, b1⟩
  · obtain ⟨k1, k2, k3⟩ := vx_keep h0 e1 hS hAX hf hL hF
    obtain ⟨t2, a1, b1⟩ := kx E ce q u t T'.heap (locs ++ L) e1.symm (by rw [← e2]; exact X'.warmed.alike) hp hb k1 k2 k3 (by rw [e1]; exact hce) hcv hcl T' rfl X'
    exact ⟨t2, st.trans a1, b1⟩
theorem vx_callf {S SX : Type} {post : UInt32 → S → Prop} {px : SX → Prop} {B : S → State → Prop} {BX : String → SX → State → Prop} {AX : Nat → Prop} (hr : vx_Run p l e R s m args below meth c H locs cells slots mc ms (F0 m pc ls st0) rest (va_Qf post B A1 a) (vx_X px BX AX) free) (hS : va_S A0 H0 H locs) (hA : ∀ q, q < H.size → A1 q → A0 q) (hf : ∀ q, free q → A0 q) (hAX : ∀ q, q < H.size → AX q → A0 q)
    (kx : ∀ (E : String) (ce : Cell) (q9 : Addr) (u : SX) (t : State) (H1 : Heap) (locs1 : List Loc), t.heap = H1 → s.vm.Alike t.vm → px u → BX E u t → H.size ≤ H1.size → (∀ q : Nat, q < H.size → ¬ AX q → H1[q]? = H[q]?) → va_S A0 H0 H1 locs1 → H1[q9]? = some ce → ce.vm = .none → s.vm.findClass E = some ce.cls → vx_W p l e R s m args below meth c H1 locs1 (cells + mc) (slots + ms) Q (F0 m pc ls rest) q9)
    (kk : ∀ (r : UInt32) (u : S) (t : State) (H1 : Heap) (locs1 : List Loc), t.heap = H1 → s.vm.Alike t.vm → post r u → B u t → H.size ≤ H1.size → (∀ q : Nat, q < H.size → ¬ A1 q → H1[q]? = H[q]?) → va_S A0 H0 H1 locs1 → W p l e R s m args below meth c H1 locs1 (cells + mc) (slots + ms) Q (F0 m (pc + 3) ls (.float r :: rest))) : W p l e R s m args below meth c H locs cells slots Q (F0 m pc ls st0) := by
  intro T hT X
  rcases hr T hT X with ⟨v, st₀, t, T', L, h0, X', hL, e1, e2, ⟨⟨r, u, hv, hp, hb⟩, hF⟩, st⟩ | ⟨q, st₀, t, T', L, E, ce, h0, X', hL, e1, e2, ⟨u, hp, hb, hF⟩, hce, hcv, hcl, st⟩
  · cases hv
    obtain ⟨k1, k2, k3⟩ := vx_keep h0 e1 hS hA hf hL hF
    obtain ⟨t2, a1, b1⟩ := kk r u t T'.heap (locs ++ L) e1.symm (by rw [← e2]; exact X'.warmed.alike) hp hb k1 k2 k3 T' rfl X'
    exact ⟨t2, st t2 a1, b1⟩
  · obtain ⟨k1, k2, k3⟩ := vx_keep h0 e1 hS hAX hf hL hF
    obtain ⟨t2, a1, b1⟩ := kx E ce q u t T'.heap (locs ++ L) e1.symm (by rw [← e2]; exact X'.warmed.alike) hp hb k1 k2 k3 (by rw [e1]; exact hce) hcv hcl T' rfl X'
    exact ⟨t2, st.trans a1, b1⟩
theorem vx_calld {S SX : Type} {post : UInt64 → S → Prop} {px : SX → Prop} {B : S → State → Prop} {BX : String → SX → State → Prop} {AX : Nat → Prop} (hr : vx_Run p l e R s m args below meth c H locs cells slots mc ms (F0 m pc ls st0) rest (va_Qd post B A1 a) (vx_X px BX AX) free) (hS : va_S A0 H0 H locs) (hA : ∀ q, q < H.size → A1 q → A0 q) (hf : ∀ q, free q → A0 q) (hAX : ∀ q, q < H.size → AX q → A0 q)
    (kx : ∀ (E : String) (ce : Cell) (q9 : Addr) (u : SX) (t : State) (H1 : Heap) (locs1 : List Loc), t.heap = H1 → s.vm.Alike t.vm → px u → BX E u t → H.size ≤ H1.size → (∀ q : Nat, q < H.size → ¬ AX q → H1[q]? = H[q]?) → va_S A0 H0 H1 locs1 → H1[q9]? = some ce → ce.vm = .none → s.vm.findClass E = some ce.cls → vx_W p l e R s m args below meth c H1 locs1 (cells + mc) (slots + ms) Q (F0 m pc ls rest) q9)
    (kk : ∀ (r : UInt64) (u : S) (t : State) (H1 : Heap) (locs1 : List Loc), t.heap = H1 → s.vm.Alike t.vm → post r u → B u t → H.size ≤ H1.size → (∀ q : Nat, q < H.size → ¬ A1 q → H1[q]? = H[q]?) → va_S A0 H0 H1 locs1 → W p l e R s m args below meth c H1 locs1 (cells + mc) (slots + ms) Q (F0 m (pc + 3) ls (.double r :: rest))) : W p l e R s m args below meth c H locs cells slots Q (F0 m pc ls st0) := by
  intro T hT X
  rcases hr T hT X with ⟨v, st₀, t, T', L, h0, X', hL, e1, e2, ⟨⟨r, u, hv, hp, hb⟩, hF⟩, st⟩ | ⟨q, st₀, t, T', L, E, ce, h0, X', hL, e1, e2, ⟨u, hp, hb, hF⟩, hce, hcv, hcl, st⟩
  · cases hv
    obtain ⟨k1, k2, k3⟩ := vx_keep h0 e1 hS hA hf hL hF
    obtain ⟨t2, a1, b1⟩ := kk r u t T'.heap (locs ++ L) e1.symm (by rw [← e2]; exact X'.warmed.alike) hp hb k1 k2 k3 T' rfl X'
    exact ⟨t2, st t2 a1, b1⟩
  · obtain ⟨k1, k2, k3⟩ := vx_keep h0 e1 hS hAX hf hL hF
    obtain ⟨t2, a1, b1⟩ := kx E ce q u t T'.heap (locs ++ L) e1.symm (by rw [← e2]; exact X'.warmed.alike) hp hb k1 k2 k3 (by rw [e1]; exact hce) hcv hcl T' rfl X'
    exact ⟨t2, st.trans a1, b1⟩
theorem vx_callv {S SX : Type} {post : S → Prop} {px : SX → Prop} {B : S → State → Prop} {BX : String → SX → State → Prop} {AX : Nat → Prop} (hr : vx_Run p l e R s m args below meth c H locs cells slots mc ms (F0 m pc ls st0) rest (va_Qv post B A1 a) (vx_X px BX AX) free) (hS : va_S A0 H0 H locs) (hA : ∀ q, q < H.size → A1 q → A0 q) (hf : ∀ q, free q → A0 q) (hAX : ∀ q, q < H.size → AX q → A0 q)
    (kx : ∀ (E : String) (ce : Cell) (q9 : Addr) (u : SX) (t : State) (H1 : Heap) (locs1 : List Loc), t.heap = H1 → s.vm.Alike t.vm → px u → BX E u t → H.size ≤ H1.size → (∀ q : Nat, q < H.size → ¬ AX q → H1[q]? = H[q]?) → va_S A0 H0 H1 locs1 → H1[q9]? = some ce → ce.vm = .none → s.vm.findClass E = some ce.cls → vx_W p l e R s m args below meth c H1 locs1 (cells + mc) (slots + ms) Q (F0 m pc ls rest) q9)
    (kk : ∀ (u : S) (t : State) (H1 : Heap) (locs1 : List Loc), t.heap = H1 → s.vm.Alike t.vm → post u → B u t → H.size ≤ H1.size → (∀ q : Nat, q < H.size → ¬ A1 q → H1[q]? = H[q]?) → va_S A0 H0 H1 locs1 → W p l e R s m args below meth c H1 locs1 (cells + mc) (slots + ms) Q (F0 m (pc + 3) ls (rest))) : W p l e R s m args below meth c H locs cells slots Q (F0 m pc ls st0) := by
  intro T hT X
  rcases hr T hT X with ⟨v, st₀, t, T', L, h0, X', hL, e1, e2, ⟨⟨u, hv, hp, hb⟩, hF⟩, st⟩ | ⟨q, st₀, t, T', L, E, ce, h0, X', hL, e1, e2, ⟨u, hp, hb, hF⟩, hce, hcv, hcl, st⟩
  · cases hv
    obtain ⟨k1, k2, k3⟩ := vx_keep h0 e1 hS hA hf hL hF
    obtain ⟨t2, a1, b1⟩ := kk u t T'.heap (locs ++ L) e1.symm (by rw [← e2]; exact X'.warmed.alike) hp hb k1 k2 k3 T' rfl X'
    exact ⟨t2, st t2 a1, b1⟩
  · obtain ⟨k1, k2, k3⟩ := vx_keep h0 e1 hS hAX hf hL hF
    obtain ⟨t2, a1, b1⟩ := kx E ce q u t T'.heap (locs ++ L) e1.symm (by rw [← e2]; exact X'.warmed.alike) hp hb k1 k2 k3 (by rw [e1]; exact hce) hcv hcl T' rfl X'
    exact ⟨t2, st.trans a1, b1⟩
/-- caught by the row x of this method's table; the rows ahead don't take it -/
theorem vx_catch {own name : String} {E : String} {ce : Cell} {q : Addr} (hown : s.vm.findClass own = some m.cls) (pre : List ExceptionTableEntry) (x : ExceptionTableEntry) (suf : List ExceptionTableEntry) (hsplit : c.exceptionTable.toList = pre ++ x :: suf)
    (hpass : ∀ z ∈ pre, covers z pc = false ∨ (z.catchType ≠ 0 ∧ ∃ nm : String, (Cond.classLink own z.catchType nm).before args s = true ∧ va_Nc E nm s)) (hx : covers x pc = true) (h0 : x.catchType ≠ 0)
    (hlink : (Cond.classLink own x.catchType name).before args s = true) (hcast : (Cond.castable E name).before args s = true) (hcell : H[q]? = some ce) (hv : ce.vm = .none) (hcl : s.vm.findClass E = some ce.cls)
    (kk : W p l e R s m args below meth c H locs cells slots Q (F0 m x.handlerPc ls [.ref q])) : vx_W p l e R s m args below meth c H locs cells slots Q (F0 m pc ls rest) q := by
  intro T hT X
  have hpl : e.platform.magicAccessors = ({} : Platform).magicAccessors := by rw [X.admits.platform]
  obtain ⟨c3, c4, hc3, hc4, hasg⟩ := Cond.castable_spec hcast
  cases Option.some.inj (hc3.symm.trans hcl)
  obtain ⟨c5, hc5, hcl5⟩ := Cond.classLink_spec hown hlink e.platform hpl
  cases Option.some.inj (hc4.symm.trans hc5)
  obtain ⟨vm', X', st⟩ := X.thenCaughtThrough q (g := F0 m pc ls rest) rfl (Steps.refl _) (by rw [hT]; exact hcell) (by rw [hv]; rfl) (by obtain ⟨k9, h9, -⟩ := Vm.findClass_spec hcl; exact ⟨k9, h9⟩) pre x suf hsplit
    (fun z hz => by
      rcases hpass z hz with h | ⟨hz0, nm, hl1, hn1⟩
      · exact Or.inl h
      · obtain ⟨c6, hc6, hcl6⟩ := Cond.classLink_spec hown hl1 e.platform hpl
        obtain ⟨a8, b8, h1, h2, h3⟩ := hn1
        cases Option.some.inj (h1.symm.trans hcl)
        cases Option.some.inj (h2.symm.trans hc6)
        exact Or.inr ⟨hz0, _, hcl6, h3⟩) hx (Or.inr ⟨h0, c4, hcl5, hasg⟩)
  obtain ⟨t, a1, b1⟩ := kk (T.setVm vm') hT X'
  exact ⟨t, st.trans a1, b1⟩
end Rows
section Ends
variable {p : Program} {l : Launch} {e : Env} {R : Room} {s : State} {m : MethodId} {args : Array Value} {below : List Frame} {meth : Method} {c : Code} {H : Heap} {locs : List Loc} {cells slots : Nat} {Q : State → Prop}
variable {mc ms : Nat} {free : Addr → Prop} {A0 A1 : Nat → Prop} {H0 : Heap} {a : Array Value} {ls : Array Slot} {st0 rest : List Value}
variable {Qc : Array Value → State → Outcome → State → Prop} {XC : String → State → State → Prop}
/-- what a body that may throw owes at its end -/
def vx_MQ (below : List Frame) (Qc : Array Value → State → Outcome → State → Prop) (XC : String → State → State → Prop) (a : Array Value) (s : State) (mc ms : Nat) (free : Addr → Prop) : State → Prop := fun t =>
  ∃ o, t.status = .running ∧ Ended t below o ∧ vx_Q Qc XC mc ms free a s o t
theorem vx_ret {g : JFrame} {mc ms : Nat} (k : W p l e R s m args below meth c H locs cells slots (MQ below Qc args s mc ms free) g) : W p l e R s m args below meth c H locs cells slots (vx_MQ below Qc XC args s mc ms free) g := by
  intro T hT X
  obtain ⟨t, a1, o, b1, b2, b3, b4⟩ := k T hT X
  exact ⟨t, a1, o, b1, b2, Or.inl ⟨b3, b4⟩⟩
/-- not caught here: it goes on to the caller -/
theorem vx_widen {g : JFrame} {q : Addr} {k n : Nat} (h1 : cells ≤ k) (h2 : slots ≤ n) (kk : vx_W p l e R s m args below meth c H locs k n Q g q) : vx_W p l e R s m args below meth c H locs cells slots Q g q := fun T hT X => kk T hT (stand_widen X h1 h2)
theorem vx_out {pc : Nat} {E : String} {ce : Cell} {q : Addr} {mc ms : Nat} (hout : ∀ x ∈ c.exceptionTable.toList, covers x pc = false) (hlocks : meth.locks = false) (hcell : H[q]? = some ce) (hv : ce.vm = .none) (hcl : s.vm.findClass E = some ce.cls)
    (hx : ∀ t : State, t.heap = H → s.vm.Alike t.vm → XC E s t) (hf : ∀ z ∈ locs, free z.base) (hc : cells ≤ mc) (hs : slots ≤ ms) :
    vx_W p l e R s m args below meth c H locs cells slots (vx_MQ below Qc XC args s mc ms free) (F0 m pc ls rest) q := by
  intro T hT X
  obtain ⟨st1, hrun, hend, hW, hsm⟩ := X.leaveThrown q (g := F0 m pc ls rest) rfl rfl rfl hout hlocks
  have hcell9 : (T.setFrames (.throwing q :: below)).heap[q]? = some ce := by
    show T.heap[q]? = some ce
    rw [hT]; exact hcell
  exact ⟨_, st1, .threw q, hrun, hend, Or.inr ⟨q, rfl, E, ce, locs, hx _ hT hW.alike, hcell9, hv, hcl, hW, hsm.mono hc hs, hf⟩⟩
theorem vx_frame {U : State} {k n : Nat} (h : s.sameButNew ({ U with vm := s.vm } : State) locs k n) : s.heap.size ≤ U.heap.size ∧ ∀ q : Nat, q < s.heap.size → (∀ z ∈ locs, z.base ≠ q) → U.heap[q]? = s.heap[q]? := by
  obtain ⟨-, h2, -, -, -, h6⟩ := h
  refine ⟨h2, fun q hq hz => ?_⟩
  obtain ⟨c9, e1, e2, e3, e4⟩ := h6 q _ (Array.getElem?_eq_getElem hq)
  have hs : c9.slots = (s.heap[q]).slots := Array.ext_getElem? fun i => e4 i fun hm => hz _ hm rfl
  have h9 : c9 = s.heap[q] := by
    rw [hs] at e2
    exact e2
  have e5 : U.heap[q]? = some c9 := e1
  rw [e5, h9, Array.getElem?_eq_getElem hq]
/-- the words of a throw but the four that speak of the heap -/
def vx_no (w : Cond) : Bool := decide (w ≠ .isRef (.static Bundle.tN "UNASSIGNED_STACK" Bundle.steD)) && decide (w ≠ .isRef (.static Bundle.tN "SUPPRESSED_SENTINEL" Bundle.listD)) && decide (w ≠ .laysStatic Bundle.tN "UNASSIGNED_STACK" Bundle.steD) && decide (w ≠ .laysStatic Bundle.tN "SUPPRESSED_SENTINEL" Bundle.listD)
def vx_at0 (own : String) (ic : Nat) (X : String) (names : List String) : List Cond := (Bundle.ownAtoms0 own ic X names).filter vx_no
def vx_atS (own : String) (ic : Nat) (X : String) (names : List String) : List Cond := (Bundle.ownAtoms own ic X names).filter vx_no
/-- a word that the tables alone decide, or a good one -/
def vx_ot (w : Cond) : Bool := w.onTables || goodWord w
theorem vx_ot_at {args a' : Array Value} {s U : State} {w : Cond} (hW : s.WarmedH U.vm) (hvm : s.vm = U.vm) (hg : vx_ot w = true) (h : w.before args s = true) : w.before a' U = true := by
  simp only [vx_ot, Bool.or_eq_true] at hg
  rcases hg with hg | hg
  · exact va_tabs hg hvm h
  · exact word_at hW (good_of_word hg) h
/-- a list's words: the good ones out of the method's own list, the others by premises of their own -/
theorem vx_hat {args : Array Value} {s : State} {L B : List Cond} (h1 : ∀ w ∈ L.filter goodWord, w.before args s = true) (h2 : ∀ w ∈ L.filter (fun w => !goodWord w), w ∈ B) (h3 : ∀ w ∈ B, w.before args s = true) : ∀ w ∈ L, w.before args s = true := by
  intro w hw
  by_cases g : goodWord w = true
  · exact h1 w (List.mem_filter.mpr ⟨hw, g⟩)
  · refine h3 w (h2 w (List.mem_filter.mpr ⟨hw, ?_⟩))
    show (!goodWord w) = true
    cases hgw : goodWord w
    · rfl
    · exact absurd hgw g
theorem vx_c {args : Array Value} {s : State} {w : Cond} {B : List Cond} (h : w.before args s = true) (t : ∀ w ∈ B, w.before args s = true) : ∀ w' ∈ w :: B, w'.before args s = true := fun w' h' => (List.mem_cons.mp h').elim (fun e => by rw [e]; exact h) (t w')
theorem vx_n {args : Array Value} {s : State} : ∀ w ∈ ([] : List Cond), w.before args s = true := fun _ h => nomatch h
theorem vx_own {args : Array Value} {s : State} {L : List Cond} (h1 : ∀ w ∈ L.filter vx_no, w.before args s = true)
    (hU : (Cond.isRef (.static Bundle.tN "UNASSIGNED_STACK" Bundle.steD)).before args s = true) (hN : (Cond.isRef (.static Bundle.tN "SUPPRESSED_SENTINEL" Bundle.listD)).before args s = true)
    (lU : (Cond.laysStatic Bundle.tN "UNASSIGNED_STACK" Bundle.steD).before args s = true) (lN : (Cond.laysStatic Bundle.tN "SUPPRESSED_SENTINEL" Bundle.listD).before args s = true) : ∀ w ∈ L, w.before args s = true := by
  intro w hw
  by_cases e1 : w = .isRef (.static Bundle.tN "UNASSIGNED_STACK" Bundle.steD)
  · rw [e1]; exact hU
  · by_cases e2 : w = .isRef (.static Bundle.tN "SUPPRESSED_SENTINEL" Bundle.listD)
    · rw [e2]; exact hN
    · by_cases e3 : w = .laysStatic Bundle.tN "UNASSIGNED_STACK" Bundle.steD
      · rw [e3]; exact lU
      · by_cases e4 : w = .laysStatic Bundle.tN "SUPPRESSED_SENTINEL" Bundle.listD
        · rw [e4]; exact lN
        · exact h1 w (List.mem_filter.mpr ⟨hw, by unfold vx_no; rw [decide_eq_true e1, decide_eq_true e2, decide_eq_true e3, decide_eq_true e4]; rfl⟩)
/-- where a static field lies, its class's statics cell in H -/
def vx_L (C n d : String) (A : Nat → Prop) (U : State) (H : Heap) : Prop := ∃ (c : ClassId) (k : Class) (i : Nat) (f : Field) (a : Nat) (cell : Cell), U.vm.findClass C = some c ∧ U.fieldFound? C n d = some (c, k, i, f) ∧ f.isStatic = true ∧ k.statics = some a ∧ H[a]? = some cell ∧ cell.vm.isStatics = true ∧ cell.cls = c ∧ f.slot < cell.slots.size ∧ k.staticTypes[f.slot]? = some f.type ∧ ¬ A a
theorem vx_L.moved {C n d : String} {A : Nat → Prop} {u U : State} {H : Heap} (hvm : u.vm.Alike U.vm) (h : vx_L C n d A u H) : vx_L C n d A U H := by
  obtain ⟨c, k, i, f, a, cell, h1, h2, h3, h4, h5, h6, h7, h8, h9, h10⟩ := h
  obtain ⟨k', hi', he⟩ := State.fieldFound?_setVm hvm h2
  exact ⟨c, k', i, f, a, cell, by rw [hvm.findClass]; exact h1, hi', h3, by rw [he]; exact h4, h5, h6, h7, h8, by rw [he]; exact h9, h10⟩
theorem vx_L.kept {C n d : String} {A : Nat → Prop} {U : State} {H H1 : Heap} (h : vx_L C n d A U H) (hq : ∀ a : Nat, a < H.size → ¬ A a → H1[a]? = H[a]?) : vx_L C n d A U H1 := by
  obtain ⟨c, k, i, f, a, cell, h1, h2, h3, h4, h5, h6, h7, h8, h9, h10⟩ := h
  exact ⟨c, k, i, f, a, cell, h1, h2, h3, h4, by rw [hq a (Array.getElem?_eq_some_iff.mp h5).1 h10]; exact h5, h6, h7, h8, h9, h10⟩
theorem vx_L.narrow {C n d : String} {A B : Nat → Prop} {U : State} {H : Heap} (h : vx_L C n d A U H) (hAB : ∀ q, B q → A q) : vx_L C n d B U H := by
  obtain ⟨c, k, i, f, a, cell, h1, h2, h3, h4, h5, h6, h7, h8, h9, h10⟩ := h
  exact ⟨c, k, i, f, a, cell, h1, h2, h3, h4, h5, h6, h7, h8, h9, fun z => h10 (hAB _ z)⟩
theorem vx_L.word {C n d : String} {A : Nat → Prop} {s : State} {args : Array Value} (h : vx_L C n d A s s.heap) : (Cond.laysStatic C n d).before args s = true := by
  obtain ⟨c, k, i, f, a, cell, h1, h2, h3, h4, h5, h6, h7, h8, h9, -⟩ := h
  show (Cond.laysStatic C n d).holds args s none s [] = true
  exact Cond.laysStatic_of h1 h2 h3 h4 h5 h6 h7 h8 h9
/-- .. and what it holds: null or some reference -/
def vx_Zq (C n d : String) (A : Nat → Prop) (U : State) (H : Heap) : Prop := va_Zq C n d A U H ∧ vx_L C n d A U H
theorem vx_Zq.moved {C n d : String} {A : Nat → Prop} {u U : State} {H : Heap} (hvm : u.vm.Alike U.vm) (h : vx_Zq C n d A u H) : vx_Zq C n d A U H := ⟨va_Zq.moved hvm h.1, vx_L.moved hvm h.2⟩
theorem vx_Zq.kept {C n d : String} {A : Nat → Prop} {U : State} {H H1 : Heap} (h : vx_Zq C n d A U H) (hq : ∀ a : Nat, a < H.size → ¬ A a → H1[a]? = H[a]?) : vx_Zq C n d A U H1 := ⟨va_Zq.kept h.1 hq, vx_L.kept h.2 hq⟩
theorem vx_Zq.narrow {C n d : String} {A B : Nat → Prop} {U : State} {H : Heap} (h : vx_Zq C n d A U H) (hAB : ∀ q, B q → A q) : vx_Zq C n d B U H := ⟨va_Zq.narrow h.1 hAB, vx_L.narrow h.2 hAB⟩
theorem vx_Zqof {args : Array Value} {s : State} {C n d : String} {A : Nat → Prop} (hl : (Cond.laysStatic C n d).before args s = true) (hini : (Cond.initialized C).before args s = true) (h : (Cond.isRef (.static C n d)).before args s = true) (hA : ∀ a : Nat, a < s.heap.size → ¬ A a) : vx_Zq C n d A s s.heap := by
  refine ⟨va_Zqof hl hini h hA, ?_⟩
  obtain ⟨c, k, i, f, a, cell, h1, h2, h3, h4, h5, h6, h7, h8, h9⟩ := Cond.laysStatic_spec hl
  exact ⟨c, k, i, f, a, cell, h1, h2, h3, h4, h5, h6, h7, h8, h9, hA a (Array.getElem?_eq_some_iff.mp h5).1⟩
theorem vx_isRef {C n d : String} {v : Value} {A : Nat → Prop} {s : State} {args : Array Value} (h : va_Z C n d v A s s.heap) (hv : v.isRef = true) : (Cond.isRef (.static C n d)).before args s = true := by
  obtain ⟨cf, kf, fi, f, a, cell, h1, h2, h3, h4, h5, h6, h7, -⟩ := h
  have he : (Term.static C n d).eval args s none [] s = some v := by
    simp [Term.eval, State.fieldNamed?, h1, h2, h4, h5, h6, h7]
  simp only [Cond.before, Cond.holds, Cond.value, he]
  cases v <;> simp_all [Value.isRef]
theorem vx_isRefq {C n d : String} {A : Nat → Prop} {s : State} {args : Array Value} (h : va_Zq C n d A s s.heap) : (Cond.isRef (.static C n d)).before args s = true := by
  rcases h with h | ⟨t, h⟩
  · exact vx_isRef h rfl
  · exact vx_isRef h rfl
/-- the same frame, seen from here: as if the method were called anew in this heap -/
theorem vx_rebase {T : State} (X : Stand p l e R s m args below meth c T locs cells slots) {R' : Room} (hf : R'.frames ≤ R.frames) (hl : R'.locals ≤ R.locals) (hc : cells + R'.cells ≤ R.cells) (hs : slots + R'.slots ≤ R.slots) :
    Stand p l e R' ((T.setVm s.vm).setFrames (.invoking m args :: below)) m args below meth c T [] 0 0 := by
  have htop : (T.setVm s.vm).topJava?.isSome := X.here.top
  have hF : ((T.setVm s.vm).setFrames (.invoking m args :: below)).frames = .invoking m args :: below := State.frames_setFrames _ (State.cur_lt_of_top htop)
  obtain ⟨g₀, hg0⟩ := Option.isSome_iff_exists.mp htop
  obtain ⟨r, hr⟩ := State.topJava?_eq_some.mp hg0
  have hl9 : e.platform.stackLimits (T.setVm s.vm).me = e.platform.stackLimits s.me := X.limits
  have hb9 : (T.setVm s.vm).me.stackBytes = s.me.stackBytes := X.bytes
  refine ⟨X.admits, X.cas, X.clock, hF, ?_, X.hears, X.method, X.code, X.here, X.tail, X.warmed, ?_, ?_, ?_⟩
  · have h := X.room
    have hU : ((T.setVm s.vm).setFrames (.invoking m args :: below)).localsInUse = s.localsInUse := by
      rw [State.localsInUse_invoking hF (meth := meth) (c := c) X.method X.code, State.localsInUse_invoking X.frames X.method X.code]
    simp only [State.hasRoom, Bool.and_eq_true, decide_eq_true_eq] at h ⊢
    obtain ⟨⟨⟨⟨h1, h2, h3, h4, h5, h6⟩, h7⟩, h8⟩, h9⟩ := h
    rw [X.frames, List.length_cons] at h2 h3
    have q1 := X.heapSize
    have q2 := X.used
    simp only [hF, hU, List.length_cons, State.stackLimits_setFrames, State.stackBytes_setFrames, hl9, hb9]
    refine ⟨⟨⟨⟨by omega, by omega, by omega, by omega, by omega, h6⟩, ?_⟩, ?_⟩, X.book⟩
    · show T.heap.size + R'.cells ≤ e.platform.maxCells
      omega
    · show T.slotsUsed + R'.slots ≤ e.platform.maxSlots
      omega
  · rw [State.stackLimits_setFrames]; rfl
  · rw [State.stackBytes_setFrames]; rfl
  · refine ⟨?_, Nat.le_refl _, Nat.le_refl _, ?_, ?_, fun a c9 h9 => ⟨c9, h9, rfl, rfl, fun _ _ => rfl⟩⟩
    · obtain ⟨t, ht, -⟩ := State.frames_cons hr
      show T.setVm s.vm = { ((T.setVm s.vm).setFrames (.invoking m args :: below)).setFrames (T.setVm s.vm).frames with heap := T.heap, slotsUsed := T.slotsUsed }
      rw [State.setFrames_setFrames, State.setFrames_self ht]
      rfl
    · show T.slotsUsed = T.slotsUsed + ((T.heap.toList.drop T.heap.size).map (·.slots.size)).sum
      rw [List.drop_eq_nil_of_le (Nat.le_of_eq Array.length_toList)]
      rfl
    · show ((T.heap.toList.drop T.heap.size).map (·.slots.size)).sum ≤ 0
      rw [List.drop_eq_nil_of_le (Nat.le_of_eq Array.length_toList)]
      exact Nat.le_refl _
/-- 'throw new E()': new; dup; invokespecial; athrow -/
theorem vx_throw0 {cc : ByteArray} {pc : Nat} (hexec : p.tables.exec = Jvm.exec) (hb : c.code = cc) (hl : l.stackTraces = false) {own cls : String} {names : List String} {ik ic mc ms : Nat} {A : Nat → Prop}
    (hown : s.vm.findClass own = some m.cls) (hcls : Bundle.fit cls = true) (hnames : ∀ n ∈ names, Bundle.fit n = true)
    (hk : (Cond.classLink own ik cls).before args s = true) (hini : (Cond.initialized cls).before args s = true) (hat : ∀ w ∈ vx_at0 own ic cls names, w.before args s = true)
    (hgood : ∀ w ∈ Cond.classLink own ik cls :: Cond.initialized cls :: vx_at0 own ic cls names, vx_ot w = true)
    (hU : vx_Zq Bundle.tN "UNASSIGNED_STACK" Bundle.steD A s s.heap) (hN : vx_Zq Bundle.tN "SUPPRESSED_SENTINEL" Bundle.listD A s s.heap) (hS : va_S A s.heap H locs) (hsize : ls.size = c.maxLocals)
    (d0 : decode cc pc = .ok (.new ik, 3)) (d3 : decode cc (pc + 3) = .ok (.dup, 1)) (d4 : decode cc (pc + 4) = .ok (.invokespecial ic, 3)) (d7 : decode cc (pc + 7) = .ok (.athrow, 1))
    (hout : ∀ x ∈ c.exceptionTable.toList, covers x (pc + 7) = false)
    (hRframes : names.length + 3 < R.frames) (hRlocals : (rest.map fun v => v.category).sum + (13 * (names.length + 1) + 42) ≤ R.locals) (hRcells : cells + 1 ≤ R.cells) (hRslots : slots + 6 ≤ R.slots) (hlocks : meth.locks = false)
    (hx : ∀ t : State, s.vm.Alike t.vm → H.size ≤ t.heap.size → (∀ q : Nat, q < H.size → t.heap[q]? = H[q]?) → XC cls s t)
    (hf : ∀ z ∈ locs, free z.base) (hc : cells + 1 ≤ mc) (hs : slots + 6 ≤ ms) :
    W p l e R s m args below meth c H locs cells slots (vx_MQ below Qc XC args s mc ms free) (F0 m pc ls rest) := by
  intro T hT X
  have htr : e.platform.stackTraces = false := (show e.platform.stackTraces = l.stackTraces by rw [X.admits.platform]).trans hl
  have Y := vx_rebase X (R' := { frames := R.frames, locals := R.locals, cells := 1, slots := 6 }) (Nat.le_refl _) (Nat.le_refl _) hRcells hRslots
  obtain ⟨s', hA⟩ : ∃ z, z = (T.setVm s.vm).setFrames (.invoking m args :: below) := ⟨_, rfl⟩
  rw [← hA] at Y
  have hvm : s'.vm = s.vm := by rw [hA]; rfl
  have hhp : s'.heap = H := by rw [hA]; exact hT
  have hW0 : s.WarmedH s'.vm := by rw [hvm]; exact State.WarmedH.refl s
  have hat' : ∀ w ∈ vx_at0 own ic cls names, w.before args s' = true := fun w hw => vx_ot_at hW0 hvm.symm (hgood w (List.mem_cons_of_mem _ (List.mem_cons_of_mem _ hw))) (hat w hw)
  have hk' : (Cond.classLink own ik cls).before args s' = true := vx_ot_at hW0 hvm.symm (hgood _ List.mem_cons_self) hk
  have hini' : (Cond.initialized cls).before args s' = true := vx_ot_at hW0 hvm.symm (hgood _ (List.mem_cons_of_mem _ List.mem_cons_self)) hini
  have hU' : vx_Zq Bundle.tN "UNASSIGNED_STACK" Bundle.steD A s' s'.heap := by rw [hhp]; exact vx_Zq.moved hW0.alike (hU.kept hS.2.1)
  have hN' : vx_Zq Bundle.tN "SUPPRESSED_SENTINEL" Bundle.listD A s' s'.heap := by rw [hhp]; exact vx_Zq.moved hW0.alike (hN.kept hS.2.1)
  have h : ∀ w ∈ Bundle.ownAtoms0 own ic cls names, w.before args s' = true := vx_own hat' (vx_isRefq hU'.1) (vx_isRefq hN'.1) hU'.2.word hN'.2.word
  have hown' : s'.vm.findClass own = some m.cls := by rw [hvm]; exact hown
  have hins : (Cond.instantiable cls 6).before args s' = true := h _ (by simp [Bundle.ownAtoms0])
  obtain ⟨vm₁, cX, kX, hfX, hkX, -, -, X₁, st1⟩ := Y.newCold hexec (own := own) (C := cls) (index := ik) (n := 6) hown' hk' hins hini'
    (g := F0 m pc ls rest) rfl (by rw [hb]; exact d0) (Nat.le_refl _) (Nat.le_refl _)
  generalize hT1 : (T.setVm vm₁).pushCell { cls := cX, slots := kX.instanceTypes.map defaultValue, vm := .none } = T1 at X₁ st1
  have hcat : (Value.ref T.heap.size).category = 1 := rfl
  have hcellA : T1.heap[T.heap.size]? = some (freshCell cX kX) := by rw [← hT1]; exact State.heap_pushCell_size _ _
  have d3' : decode c.code (pc + 3) = .ok (.dup, 1) := by rw [hb]; exact d3
  obtain ⟨U, hsteps, hrun, hend, hW, hsame, ce, hce, hO⟩ := X₁.ctorThrow0 hexec htr (own := own) (cls := cls) (names := names) (ic := ic) hown' hcls hnames h (fun x hx => nomatch hx) hfX hkX hcellA (by rw [hhp, hT]; exact Nat.le_refl _)
    (g := { method := m, pc := pc + 4, locals := ls, stack := .ref T.heap.size :: .ref T.heap.size :: rest, locked := none }) rfl hsize rfl rfl (rest := rest) rfl
    (by rw [hb]; exact d4) (by rw [hb]; exact d7) hout hRframes (by simp only [List.map_cons, List.sum_cons, hcat]; omega) hlocks
  obtain ⟨f1, f2⟩ := vx_frame hsame
  rw [hhp] at f1 f2
  have hWs : s.WarmedH U.vm := State.WarmedH.trans hW0 hW
  have hcl : s.vm.findClass cls = some ce.cls := by
    have h9 := hO.cls
    rw [hvm] at h9
    exact h9
  have hall : s.sameButNew ({ U with vm := s.vm } : State) locs mc ms := by
    subst hA
    obtain ⟨e1, e2⟩ := hsame
    rw [State.setFrames_setFrames] at e1
    have h2 : (T.setVm s.vm).sameButNew ({ U with vm := s.vm } : State) [] (0 + 1) (0 + 6) := ⟨e1, e2⟩
    have h3 := X.same.trans h2
    rw [List.append_nil] at h3
    exact h3.mono hc hs
  refine ⟨U, ?_, .threw T.heap.size, hrun, hend, Or.inr ⟨T.heap.size, rfl, cls, ce, locs, hx U hWs.alike f1 (fun q hq => f2 q hq (fun z hz => nomatch hz)), hce, hO.vm, hcl, hWs, hall, hf⟩⟩
  refine st1 _ ?_
  show Steps p.tables e below (T1.setTop { method := m, pc := pc + 3, locals := ls, stack := .ref T.heap.size :: rest, locked := none }) _
  jvm_step X₁.here [X₁.here.top, hexec, d3', Value.category]
  exact hsteps
/-- 'throw new E("text")': new; dup; ldc; invokespecial; athrow -/
theorem vx_throwS {cc : ByteArray} {pc : Nat} (hexec : p.tables.exec = Jvm.exec) (hb : c.code = cc) (hl : l.stackTraces = false) {own cls text : String} {names : List String} {ik is ic mc ms sa : Nat} {A : Nat → Prop}
    (hown : s.vm.findClass own = some m.cls) (hcls : Bundle.fit cls = true) (hnames : ∀ n ∈ names, Bundle.fit n = true)
    (hk : (Cond.classLink own ik cls).before args s = true) (hini : (Cond.initialized cls).before args s = true) (hstr : vk_R own is text sa s) (hat : ∀ w ∈ vx_atS own ic cls names, w.before args s = true)
    (hgood : ∀ w ∈ Cond.classLink own ik cls :: Cond.initialized cls :: vx_atS own ic cls names, vx_ot w = true)
    (hU : vx_Zq Bundle.tN "UNASSIGNED_STACK" Bundle.steD A s s.heap) (hN : vx_Zq Bundle.tN "SUPPRESSED_SENTINEL" Bundle.listD A s s.heap) (hS : va_S A s.heap H locs) (hsize : ls.size = c.maxLocals)
    (d0 : decode cc pc = .ok (.new ik, 3)) (d3 : decode cc (pc + 3) = .ok (.dup, 1)) (d4 : decode cc (pc + 4) = .ok (.ldc is, 2)) (d6 : decode cc (pc + 6) = .ok (.invokespecial ic, 3)) (d9 : decode cc (pc + 9) = .ok (.athrow, 1))
    (hout : ∀ x ∈ c.exceptionTable.toList, covers x (pc + 9) = false)
    (hRframes : names.length + 3 < R.frames) (hRlocals : (rest.map fun v => v.category).sum + (13 * (names.length + 1) + 43) ≤ R.locals) (hRcells : cells + 1 ≤ R.cells) (hRslots : slots + 6 ≤ R.slots) (hlocks : meth.locks = false)
    (hx : ∀ t : State, s.vm.Alike t.vm → H.size ≤ t.heap.size → (∀ q : Nat, q < H.size → t.heap[q]? = H[q]?) → XC cls s t)
    (hf : ∀ z ∈ locs, free z.base) (hc : cells + 1 ≤ mc) (hs : slots + 6 ≤ ms) :
    W p l e R s m args below meth c H locs cells slots (vx_MQ below Qc XC args s mc ms free) (F0 m pc ls rest) := by
  intro T hT X
  have htr : e.platform.stackTraces = false := (show e.platform.stackTraces = l.stackTraces by rw [X.admits.platform]).trans hl
  have Y := vx_rebase X (R' := { frames := R.frames, locals := R.locals, cells := 1, slots := 6 }) (Nat.le_refl _) (Nat.le_refl _) hRcells hRslots
  obtain ⟨s', hA⟩ : ∃ z, z = (T.setVm s.vm).setFrames (.invoking m args :: below) := ⟨_, rfl⟩
  rw [← hA] at Y
  have hvm : s'.vm = s.vm := by rw [hA]; rfl
  have hhp : s'.heap = H := by rw [hA]; exact hT
  have hW0 : s.WarmedH s'.vm := by rw [hvm]; exact State.WarmedH.refl s
  have hat' : ∀ w ∈ vx_atS own ic cls names, w.before args s' = true := fun w hw => vx_ot_at hW0 hvm.symm (hgood w (List.mem_cons_of_mem _ (List.mem_cons_of_mem _ hw))) (hat w hw)
  have hk' : (Cond.classLink own ik cls).before args s' = true := vx_ot_at hW0 hvm.symm (hgood _ List.mem_cons_self) hk
  have hini' : (Cond.initialized cls).before args s' = true := vx_ot_at hW0 hvm.symm (hgood _ (List.mem_cons_of_mem _ List.mem_cons_self)) hini
  have hU' : vx_Zq Bundle.tN "UNASSIGNED_STACK" Bundle.steD A s' s'.heap := by rw [hhp]; exact vx_Zq.moved hW0.alike (hU.kept hS.2.1)
  have hN' : vx_Zq Bundle.tN "SUPPRESSED_SENTINEL" Bundle.listD A s' s'.heap := by rw [hhp]; exact vx_Zq.moved hW0.alike (hN.kept hS.2.1)
  have h : ∀ w ∈ Bundle.ownAtoms own ic cls names, w.before args s' = true := vx_own hat' (vx_isRefq hU'.1) (vx_isRefq hN'.1) hU'.2.word hN'.2.word
  have hown' : s'.vm.findClass own = some m.cls := by rw [hvm]; exact hown
  have hins : (Cond.instantiable cls 6).before args s' = true := h _ (by simp [Bundle.ownAtoms])
  obtain ⟨vm₁, cX, kX, hfX, hkX, -, -, X₁, st1⟩ := Y.newCold hexec (own := own) (C := cls) (index := ik) (n := 6) hown' hk' hins hini'
    (g := F0 m pc ls rest) rfl (by rw [hb]; exact d0) (Nat.le_refl _) (Nat.le_refl _)
  generalize hT1 : (T.setVm vm₁).pushCell { cls := cX, slots := kX.instanceTypes.map defaultValue, vm := .none } = T1 at X₁ st1
  have hcat : (Value.ref T.heap.size).category = 1 := rfl
  have hcellA : T1.heap[T.heap.size]? = some (freshCell cX kX) := by rw [← hT1]; exact State.heap_pushCell_size _ _
  have d3' : decode c.code (pc + 3) = .ok (.dup, 1) := by rw [hb]; exact d3
  have d4' : decode c.code (pc + 4) = .ok (.ldc is, 2) := by rw [hb]; exact d4
  have hstr' : vk_R own is text sa s' := vk_R.warm hW0 hstr
  obtain ⟨U, hsteps, hrun, hend, hW, hsame, ce, hce, hO⟩ := X₁.ctorThrowS hexec htr (own := own) (cls := cls) (names := names) (ic := ic) hown' hcls hnames h (fun x hx => nomatch hx) hfX hkX hcellA (by rw [hhp, hT]; exact Nat.le_refl _) (msg := .ref sa) rfl
    (g := { method := m, pc := pc + 6, locals := ls, stack := .ref sa :: .ref T.heap.size :: .ref T.heap.size :: rest, locked := none }) rfl hsize rfl rfl (rest := rest) rfl
    (by rw [hb]; exact d6) (by rw [hb]; exact d9) hout hRframes (by simp only [List.map_cons, List.sum_cons, hcat]; omega) hlocks
  obtain ⟨f1, f2⟩ := vx_frame hsame
  rw [hhp] at f1 f2
  have hWs : s.WarmedH U.vm := State.WarmedH.trans hW0 hW
  have hcl : s.vm.findClass cls = some ce.cls := by
    have h9 := hO.cls
    rw [hvm] at h9
    exact h9
  have hall : s.sameButNew ({ U with vm := s.vm } : State) locs mc ms := by
    subst hA
    obtain ⟨e1, e2⟩ := hsame
    rw [State.setFrames_setFrames] at e1
    have h2 : (T.setVm s.vm).sameButNew ({ U with vm := s.vm } : State) [] (0 + 1) (0 + 6) := ⟨e1, e2⟩
    have h3 := X.same.trans h2
    rw [List.append_nil] at h3
    exact h3.mono hc hs
  refine ⟨U, ?_, .threw T.heap.size, hrun, hend, Or.inr ⟨T.heap.size, rfl, cls, ce, locs, hx U hWs.alike f1 (fun q hq => f2 q hq (fun z hz => nomatch hz)), hce, hO.vm, hcl, hWs, hall, hf⟩⟩
  refine st1 _ ?_
  show Steps p.tables e below (T1.setTop { method := m, pc := pc + 3, locals := ls, stack := .ref T.heap.size :: rest, locked := none }) _
  jvm_step X₁.here [X₁.here.top, hexec, d3', Value.category]
  exact X₁.ldcString hexec (own := own) (text := text) (index := is) (a := sa) hown' hstr'.1 hstr'.2
    (g := { method := m, pc := pc + 4, locals := ls, stack := .ref T.heap.size :: .ref T.heap.size :: rest, locked := none }) rfl d4' _ hsteps
/-- 'throw new E("text")', the text by a wide index -/
theorem vx_throwSW {cc : ByteArray} {pc : Nat} (hexec : p.tables.exec = Jvm.exec) (hb : c.code = cc) (hl : l.stackTraces = false) {own cls text : String} {names : List String} {ik is ic mc ms sa : Nat} {A : Nat → Prop}
    (hown : s.vm.findClass own = some m.cls) (hcls : Bundle.fit cls = true) (hnames : ∀ n ∈ names, Bundle.fit n = true)
    (hk : (Cond.classLink own ik cls).before args s = true) (hini : (Cond.initialized cls).before args s = true) (hstr : vk_R own is text sa s) (hat : ∀ w ∈ vx_atS own ic cls names, w.before args s = true)
    (hgood : ∀ w ∈ Cond.classLink own ik cls :: Cond.initialized cls :: vx_atS own ic cls names, vx_ot w = true)
    (hU : vx_Zq Bundle.tN "UNASSIGNED_STACK" Bundle.steD A s s.heap) (hN : vx_Zq Bundle.tN "SUPPRESSED_SENTINEL" Bundle.listD A s s.heap) (hS : va_S A s.heap H locs) (hsize : ls.size = c.maxLocals)
    (d0 : decode cc pc = .ok (.new ik, 3)) (d3 : decode cc (pc + 3) = .ok (.dup, 1)) (d4 : decode cc (pc + 4) = .ok (.ldc_w is, 3)) (d7 : decode cc (pc + 7) = .ok (.invokespecial ic, 3)) (d10 : decode cc (pc + 10) = .ok (.athrow, 1))
    (hout : ∀ x ∈ c.exceptionTable.toList, covers x (pc + 10) = false)
    (hRframes : names.length + 3 < R.frames) (hRlocals : (rest.map fun v => v.category).sum + (13 * (names.length + 1) + 43) ≤ R.locals) (hRcells : cells + 1 ≤ R.cells) (hRslots : slots + 6 ≤ R.slots) (hlocks : meth.locks = false)
    (hx : ∀ t : State, s.vm.Alike t.vm → H.size ≤ t.heap.size → (∀ q : Nat, q < H.size → t.heap[q]? = H[q]?) → XC cls s t)
    (hf : ∀ z ∈ locs, free z.base) (hc : cells + 1 ≤ mc) (hs : slots + 6 ≤ ms) :
    W p l e R s m args below meth c H locs cells slots (vx_MQ below Qc XC args s mc ms free) (F0 m pc ls rest) := by
  intro T hT X
  have htr : e.platform.stackTraces = false := (show e.platform.stackTraces = l.stackTraces by rw [X.admits.platform]).trans hl
  have Y := vx_rebase X (R' := { frames := R.frames, locals := R.locals, cells := 1, slots := 6 }) (Nat.le_refl _) (Nat.le_refl _) hRcells hRslots
  obtain ⟨s', hA⟩ : ∃ z, z = (T.setVm s.vm).setFrames (.invoking m args :: below) := ⟨_, rfl⟩
  rw [← hA] at Y
  have hvm : s'.vm = s.vm := by rw [hA]; rfl
  have hhp : s'.heap = H := by rw [hA]; exact hT
  have hW0 : s.WarmedH s'.vm := by rw [hvm]; exact State.WarmedH.refl s
  have hat' : ∀ w ∈ vx_atS own ic cls names, w.before args s' = true := fun w hw => vx_ot_at hW0 hvm.symm (hgood w (List.mem_cons_of_mem _ (List.mem_cons_of_mem _ hw))) (hat w hw)
  have hk' : (Cond.classLink own ik cls).before args s' = true := vx_ot_at hW0 hvm.symm (hgood _ List.mem_cons_self) hk
  have hini' : (Cond.initialized cls).before args s' = true := vx_ot_at hW0 hvm.symm (hgood _ (List.mem_cons_of_mem _ List.mem_cons_self)) hini
  have hU' : vx_Zq Bundle.tN "UNASSIGNED_STACK" Bundle.steD A s' s'.heap := by rw [hhp]; exact vx_Zq.moved hW0.alike (hU.kept hS.2.1)
  have hN' : vx_Zq Bundle.tN "SUPPRESSED_SENTINEL" Bundle.listD A s' s'.heap := by rw [hhp]; exact vx_Zq.moved hW0.alike (hN.kept hS.2.1)
  have h : ∀ w ∈ Bundle.ownAtoms own ic cls names, w.before args s' = true := vx_own hat' (vx_isRefq hU'.1) (vx_isRefq hN'.1) hU'.2.word hN'.2.word
  have hown' : s'.vm.findClass own = some m.cls := by rw [hvm]; exact hown
  have hins : (Cond.instantiable cls 6).before args s' = true := h _ (by simp [Bundle.ownAtoms])
  obtain ⟨vm₁, cX, kX, hfX, hkX, -, -, X₁, st1⟩ := Y.newCold hexec (own := own) (C := cls) (index := ik) (n := 6) hown' hk' hins hini'
    (g := F0 m pc ls rest) rfl (by rw [hb]; exact d0) (Nat.le_refl _) (Nat.le_refl _)
  generalize hT1 : (T.setVm vm₁).pushCell { cls := cX, slots := kX.instanceTypes.map defaultValue, vm := .none } = T1 at X₁ st1
  have hcat : (Value.ref T.heap.size).category = 1 := rfl
  have hcellA : T1.heap[T.heap.size]? = some (freshCell cX kX) := by rw [← hT1]; exact State.heap_pushCell_size _ _
  have d3' : decode c.code (pc + 3) = .ok (.dup, 1) := by rw [hb]; exact d3
  have d4' : decode c.code (pc + 4) = .ok (.ldc_w is, 3) := by rw [hb]; exact d4
  have hstr' : vk_R own is text sa s' := vk_R.warm hW0 hstr
  obtain ⟨U, hsteps, hrun, hend, hW, hsame, ce, hce, hO⟩ := X₁.ctorThrowS hexec htr (own := own) (cls := cls) (names := names) (ic := ic) hown' hcls hnames h (fun x hx => nomatch hx) hfX hkX hcellA (by rw [hhp, hT]; exact Nat.le_refl _) (msg := .ref sa) rfl
    (g := { method := m, pc := pc + 7, locals := ls, stack := .ref sa :: .ref T.heap.size :: .ref T.heap.size :: rest, locked := none }) rfl hsize rfl rfl (rest := rest) rfl
    (by rw [hb]; exact d7) (by rw [hb]; exact d10) hout hRframes (by simp only [List.map_cons, List.sum_cons, hcat]; omega) hlocks
  obtain ⟨f1, f2⟩ := vx_frame hsame
  rw [hhp] at f1 f2
  have hWs : s.WarmedH U.vm := State.WarmedH.trans hW0 hW
  have hcl : s.vm.findClass cls = some ce.cls := by
    have h9 := hO.cls
    rw [hvm] at h9
    exact h9
  have hall : s.sameButNew ({ U with vm := s.vm } : State) locs mc ms := by
    subst hA
    obtain ⟨e1, e2⟩ := hsame
    rw [State.setFrames_setFrames] at e1
    have h2 : (T.setVm s.vm).sameButNew ({ U with vm := s.vm } : State) [] (0 + 1) (0 + 6) := ⟨e1, e2⟩
    have h3 := X.same.trans h2
    rw [List.append_nil] at h3
    exact h3.mono hc hs
  refine ⟨U, ?_, .threw T.heap.size, hrun, hend, Or.inr ⟨T.heap.size, rfl, cls, ce, locs, hx U hWs.alike f1 (fun q hq => f2 q hq (fun z hz => nomatch hz)), hce, hO.vm, hcl, hWs, hall, hf⟩⟩
  refine st1 _ ?_
  show Steps p.tables e below (T1.setTop { method := m, pc := pc + 3, locals := ls, stack := .ref T.heap.size :: rest, locked := none }) _
  jvm_step X₁.here [X₁.here.top, hexec, d3', Value.category]
  exact X₁.ldcStringW hexec (own := own) (text := text) (index := is) (a := sa) hown' hstr'.1 hstr'.2
    (g := { method := m, pc := pc + 4, locals := ls, stack := .ref T.heap.size :: .ref T.heap.size :: rest, locked := none }) rfl d4' _ hsteps
end Ends
section Bodies
variable {l : Launch}
theorem vx_ofW {y : MethodName} {ws ws' : List Cond} {rm : Room} {Pc : Array Value → State → Prop} {Qc : Array Value → State → Outcome → State → Prop} {XC : String → State → State → Prop} {mc ms : Nat} {free : Addr → Prop} {cc : ByteArray} {maxL : Nat} {ret : Option FieldType}
    (hy : plainName y.cls = true) (hw : ws = Cond.code y cc maxL ret :: ws')
    (body : ∀ p e s m args below meth c s₁, BodyLoose p l y (headSpec ws rm) cc maxL ret e s m args below meth c s₁ → c.maxLocals = maxL → (∀ x ∈ c.exceptionTable.toList, False) → Pc args s →
      W p l e (headSpec ws rm).room s m args below meth c s.heap [] 0 0 (vx_MQ below Qc XC args s mc ms free) (entryFrame m args maxL)) : vx_Met l y ws rm Pc Qc XC mc ms free := by
  refine MetFree.of_bodyS (code := cc) (maxLocals := maxL) (ret := ret) hy ?_ ?_
  · intro args s m h hn
    obtain ⟨meth, c, h1, h2, h3, h4, h5, h6, -, -⟩ := Cond.code_spec hn (atoms_spec (ws := ws) h _ (by rw [hw]; exact List.mem_cons_self))
    exact ⟨meth, c, h1, h2, h3, h4, h5, h6⟩
  · intro p e s m args below meth c s₁ B hml hP _
    have hh0 : s₁.heap = s.heap := by rw [B.state]; rfl
    have ht : ∀ x ∈ c.exceptionTable.toList, False := by
      obtain ⟨meth9, c9, h1, h2, -, -, -, -, h7, -⟩ := Cond.code_spec B.named (atoms_spec (ws := ws) B.pre _ (by rw [hw]; exact List.mem_cons_self))
      cases Option.some.inj (h1.symm.trans B.method)
      cases Option.some.inj (h2.symm.trans (Stand.of_body B).code)
      intro x hx
      rw [Array.isEmpty_iff.mp h7] at hx
      cases hx
    obtain ⟨t, a1, o, b1, b2, b3⟩ := body p e s m args below meth c s₁ B hml ht hP s₁ hh0 (Stand.of_body B)
    exact ⟨t, o, a1, b1, b2, b3⟩
/-- the table of a body with handlers -/
theorem vx_table {p : Program} {x y : MethodName} {S : Spec} {cc bytes : ByteArray} {maxL maxL' : Nat} {ret ret' : Option FieldType} {e : Env} {s s₁ : State} {m : MethodId} {args : Array Value} {below : List Frame} {meth : Method} {c : Code} {hh : List (Nat × Nat × Nat × Nat)}
    (B : BodyLoose p l y S cc maxL ret e s m args below meth c s₁) (h : (Cond.codeWith y bytes maxL' ret' hh).before args s = true) : c.exceptionTable.toList = tableOf hh := by
  obtain ⟨m9, meth9, c9, hn9, h1, h2, -, -, h6, -⟩ := Cond.codeWith_spec h
  cases Option.some.inj (hn9.symm.trans B.named)
  cases Option.some.inj (h1.symm.trans B.method)
  cases Option.some.inj (h2.symm.trans (Stand.of_body B).code)
  rw [← h6, table_eq]
end Bodies
end VXA
/-! ===== END ===== -/
/-! ===== BEGIN a static call of a method with an exception table ===== -/
section VXS
variable {p : Program} {l : Launch} {e : Env} {R : Room} {s : State} {m : MethodId} {args : Array Value} {below : List Frame} {meth : Method} {c : Code} {T : State} {H : Heap} {locs : List Loc} {cells slots : Nat}
abbrev vx_CSW (R : Room) (s : State) (args : Array Value) (own : String) (index : Nat) (y : MethodName) (bytes : ByteArray) (maxL : Nat) (ret : Option FieldType) (hh : List (Nat × Nat × Nat × Nat)) (ws : List Cond) (rm : Room) (mc ms n : Nat) : Prop :=
  (rm.cells = mc ∧ rm.slots = ms ∧ rm.frames + 1 ≤ R.frames ∧ 8 + (maxL + 11) + rm.locals ≤ R.locals ∧ (∀ w ∈ ws, ∀ (a' : Array Value) (U : State), s.WarmedH U.vm → w.before a' U = true) ∧ Cond.codeWith y bytes maxL ret hh ∈ ws) ∧
  (Cond.codeWith y bytes maxL ret hh).before args s = true ∧ (Cond.initialized y.cls).before args s = true ∧ (y.cls ≠ "java/lang/invoke/MethodHandle" ∧ y.cls ≠ "java/lang/invoke/VarHandle") ∧
  (∀ sig, parseMethodDescriptor y.desc = some sig → n = sig.parameters.length) ∧ (Cond.methodLink own index y).before args s = true ∧ (Cond.static y).before args s = true
theorem vx_cwSW {own : String} {index maxL mc ms : Nat} {y : MethodName} {bytes : ByteArray} {ret : Option FieldType} {hh : List (Nat × Nat × Nat × Nat)} {Ts ws ws' : List Cond} {rm : Room} (n : Nat) (ht : ∀ w ∈ Ts, w.before args s = true) (hT : GoodIn Ts (va_wsS own index y ws)) (hw : ws = Cond.codeWith y bytes maxL ret hh :: ws') (hrc : rm.cells = mc) (hrs : rm.slots = ms)
    (hd : y.cls ≠ "java/lang/invoke/MethodHandle" ∧ y.cls ≠ "java/lang/invoke/VarHandle" ∧ (parseMethodDescriptor y.desc).map (fun d => d.parameters.length) = some n) (hR : rm.frames + 1 ≤ R.frames ∧ 8 + (maxL + 11) + rm.locals ≤ R.locals) :
    vx_CSW R s args own index y bytes maxL ret hh ws rm mc ms n := by
  have ok : ∀ w ∈ va_wsS own index y ws, w.before args s = true := fun w h => ht w (hT w h).1
  have hG : GoodIn Ts ws := fun w h => hT w (by unfold va_wsS; exact List.mem_append_right _ h)
  have hc : Cond.codeWith y bytes maxL ret hh ∈ ws := by rw [hw]; exact List.mem_cons_self
  refine ⟨⟨hrc, hrs, hR.1, hR.2, pay_in ht hG, hc⟩, ht _ (hG _ hc).1, ok _ (by simp [va_wsS]), ⟨hd.1, hd.2.1⟩, fun sig h => ?_, ok _ (by simp [va_wsS]), ok _ (by simp [va_wsS])⟩
  have h2 := hd.2.2
  rw [h] at h2
  exact (Option.some.inj h2).symm
theorem vx_callSW (X : Stand p l e R s m args below meth c T locs cells slots) (hexec : p.tables.exec = Jvm.exec) {own : String} {index : Nat} {y : MethodName} {bytes : ByteArray} {maxL : Nat} {ret : Option FieldType} {hh : List (Nat × Nat × Nat × Nat)}
    (hown : s.vm.findClass own = some m.cls) (hlink : (Cond.methodLink own index y).before args s = true) (hstat : (Cond.static y).before args s = true) (hinit : (Cond.initialized y.cls).before args s = true)
    (hcode : (Cond.codeWith y bytes maxL ret hh).before args s = true) (hy : y.cls ≠ "java/lang/invoke/MethodHandle" ∧ y.cls ≠ "java/lang/invoke/VarHandle")
    {W9 : Nat} {Pre : Pt → Array Value → Prop} {Post : Pt → Array Value → Option Value → Pt → Prop} (hK : Back l R p e below s args y 3 W9 Pre Post)
    {g : JFrame} (hg : g.method = m) (hsize : g.locals.size = c.maxLocals) {argsL rest : List Value} (hlen : ∀ sig, parseMethodDescriptor y.desc = some sig → argsL.length = sig.parameters.length)
    (hstack : g.stack = argsL.reverse ++ rest) (hW : 2 * g.monitorRoom + (rest.map fun v => v.category).sum ≤ W9) (hdg : decode c.code g.pc = .ok (.invokestatic index, 3))
    (hpre : ∀ vm₁, s.WarmedH vm₁ → Pre ⟨T.setVm vm₁, locs, cells, slots⟩ argsL.toArray) :
    ∃ (v : Option Value) (vm₁ : Vm) (B : Pt), s.WarmedH vm₁ ∧ Stand p l e R s m args below meth c B.U B.locs B.cells B.slots ∧ Post ⟨T.setVm vm₁, locs, cells, slots⟩ argsL.toArray v B ∧
      ∀ target, Steps p.tables e below (B.U.setTop { g with pc := g.pc + 3, stack := v.toList ++ rest }) target → Steps p.tables e below (T.setTop g) target := by
  obtain ⟨mk, methM, cM, hnamed, hmethM, -, -, -, -, -, -, hsigM⟩ := Cond.codeWith_spec hcode
  have hstatic : methM.isStatic = true := Cond.static_spec hnamed hmethM hstat
  obtain ⟨kP, hkP, -⟩ := className_of_methodNamed hnamed
  have hinitP : kP.init = .initialized := Cond.initialized_spec (findClass_of_methodNamed hnamed) hkP hinit
  obtain ⟨vm₁, X₁, hstep₁⟩ := X.invokestatic hexec hown hlink hnamed hmethM hstatic hkP hinitP hy (g := g) hg (argsL := argsL) (rest := rest) (hlen _ hsigM) hstack hdg
  obtain ⟨v, B, X', hpost, hsteps⟩ := hK m meth c ⟨T.setVm vm₁, locs, cells, slots⟩ { g with stack := rest } (.invokestatic index) mk argsL.toArray X₁ hg hsize hdg hW (X₁.named hnamed) (hpre vm₁ X₁.warmed)
  exact ⟨v, vm₁, B, X₁.warmed, X', hpost, fun target h => hstep₁ _ fun acts => by rw [doInvoke_state]; exact hsteps.trans h⟩
theorem vx_runSW {y : MethodName} {bytes cc : ByteArray} {maxL nL mc ms n index : Nat} {ret : Option FieldType} {hh : List (Nat × Nat × Nat × Nat)} {ws : List Cond} {rm : Room} {Pc : Array Value → State → Prop} {Qc : Array Value → State → Outcome → State → Prop} {free : Addr → Prop} {Ts : List Cond} {own : String} {As rest : List Value} {g : JFrame}
    (S : CallFix p m c cc nL s args Ts own) (hM : Met l y ws rm Pc Qc mc ms free) (cw : vx_CSW R s args own index y bytes maxL ret hh ws rm mc ms n) (hp : PreS s H Pc As)
    (hg : g.method = m) (hn : As.length = n) (hsize : g.locals.size = nL) (hstack : g.stack = As.reverse ++ rest) (hW : 2 * g.monitorRoom + (rest.map fun v => v.category).sum ≤ 8) (hdg : decode cc g.pc = .ok (.invokestatic index, 3)) (hf : cells + mc ≤ R.cells ∧ slots + ms ≤ R.slots) :
    va_Run p l e R s m args below meth c H locs cells slots mc ms g rest (Qc As.toArray) (free) := by
  obtain ⟨⟨hrc, hrs, hfr, hlo, hws, hcw⟩, hcode, hini, hy, hlen, hl, hstt⟩ := cw
  have hK : Back l R p e below s args y 3 8 (PreOf R mc ms Pc) (PostOf Qc mc ms free) := va_backW (hh := hh) (bytes := bytes) (maxL := maxL) (ret := ret) hM hp.1 hrc hrs hfr hlo hws hcw (fun a' U hW => word_at hW (Or.inl (by first | rfl | simp [Cond.onTables, Cond.keeps, Cond.steady])) hini)
  obtain ⟨hx, hb, hml, ho, -⟩ := S
  intro T hT X
  obtain ⟨v, vm₁, ⟨U', l2, c2, s2⟩, hW₁, X', ⟨g', mk, t, L, e1, e2, hq, h1, hL, h2, h3⟩, st⟩ := vx_callSW X hx (hh := hh) (bytes := bytes) (maxL := maxL) (ret := ret) ho hl hstt hini hcode hy hK hg (hsize.trans hml.symm) (argsL := As) (rest := rest) (fun sig h => hn.trans (hlen sig h)) hstack hW (by rw [hb]; exact hdg)
    (fun vm₁ hW₁ => ⟨hf.1, hf.2, hp.2 (T.setVm vm₁) hT hW₁⟩)
  dsimp only [Pt.U, Pt.locs, Pt.cells, Pt.slots] at X' e1 e2 h1 h2 h3 st
  subst h1; subst h2; subst h3
  exact ⟨v, (T.setVm vm₁).calling g' mk As.toArray, t, U', L, hT, X', hL, e1, e2, hq, st⟩
/-- not caught here, past rows that name other classes: it goes on to the caller -/
theorem vx_outP {p : Program} {l : Launch} {e : Env} {R : Room} {s : State} {m : MethodId} {args : Array Value} {below : List Frame} {meth : Method} {c : Code} {H : Heap} {locs : List Loc} {cells slots : Nat} {free : Addr → Prop} {ls : Array Slot} {rest : List Value} {Qc : Array Value → State → Outcome → State → Prop} {XC : String → State → State → Prop}
    {pc : Nat} {own E : String} {ce : Cell} {q : Addr} {mc ms : Nat} (hown : s.vm.findClass own = some m.cls) (hlocks : meth.locks = false)
    (hpass : ∀ z ∈ c.exceptionTable.toList, covers z pc = false ∨ (z.catchType ≠ 0 ∧ ∃ nm : String, (Cond.classLink own z.catchType nm).before args s = true ∧ va_Nc E nm s)) (hcell : H[q]? = some ce) (hv : ce.vm = .none) (hcl : s.vm.findClass E = some ce.cls)
    (hx : ∀ t : State, t.heap = H → s.vm.Alike t.vm → XC E s t) (hf : ∀ z ∈ locs, free z.base) (hc : cells ≤ mc) (hs : slots ≤ ms) :
    vx_W p l e R s m args below meth c H locs cells slots (vx_MQ below Qc XC args s mc ms free) (F0 m pc ls rest) q := by
  intro T hT X
  have hpl : e.platform.magicAccessors = ({} : Platform).magicAccessors := by rw [X.admits.platform]
  obtain ⟨vm', hW', X', st⟩ := X.outThrough hlocks q (g := F0 m pc ls rest) rfl rfl rfl (cell := ce) (by rw [hT]; exact hcell) (by rw [hv]; rfl)
    (by obtain ⟨k9, h9, -⟩ := Vm.findClass_spec hcl; exact ⟨k9, h9⟩) (fun z hz => by
      rcases hpass z hz with h | ⟨hz0, nm, hl1, hn1⟩
      · exact Or.inl h
      · obtain ⟨c6, hc6, hcl6⟩ := Cond.classLink_spec hown hl1 e.platform hpl
        obtain ⟨a8, b8, h1, h2, h3⟩ := hn1
        cases Option.some.inj (h1.symm.trans hcl)
        cases Option.some.inj (h2.symm.trans hc6)
        exact Or.inr ⟨hz0, _, hcl6, h3⟩)
  obtain ⟨g₀, hfr⟩ := X'.frames_eq
  have hcell9 : ((T.setVm vm').setFrames (.throwing q :: below)).heap[q]? = some ce := by
    show T.heap[q]? = some ce
    rw [hT]; exact hcell
  have hend : Ended ((T.setVm vm').setFrames (.throwing q :: below)) below (.threw q) := State.frames_setFrames _ (State.cur_lt_of_frames hfr)
  refine ⟨(T.setVm vm').setFrames (.throwing q :: below), ?_, .threw q, X'.here.running, hend, Or.inr ⟨q, rfl, E, ce, locs, hx _ hT (X'.ends _).1.alike, hcell9, hv, hcl, (X'.ends _).1, (X'.ends _).2.mono hc hs, hf⟩⟩
  rw [X.pushThrowing_eq]
  exact st
/-- a thing of a world lies in the heap -/
theorem vx_lt {D : va_G} {cl : List vw_C} {ws : va_W} {H1 : Heap} (h : va_P D cl ws H1) {k : Nat} {q : Nat × va_E} (hk : ws[k]? = some q) : q.1 < H1.size := (h k q hk).lt
end VXS
/-! ===== END ===== -/
/-! ===== BEGIN methods with a table of their own: called by a name, returning or throwing ===== -/
section VXH
/-! vx_backW, vx_callVX, vx_callSX, vx_callVW, vx_runVW, vx_runVX, vx_runSX, vx_ofWH follow the same proofs as their sisters above (Free/Laws.lean, Shelf42/LK1.lean); vx_outP calls Shelf42/NT130.lean (outThrough). -/
section
variable {l : Launch} {R : Room} {p : Program} {e : Env} {below : List Frame} {s : State} {sargs : Array Value} {y : MethodName} {len W9 : Nat}
theorem vx_backW {ws : List Cond} {rm : Room} {Pc : Array Value → State → Prop} {Qc : Array Value → State → Outcome → State → Prop} {XC : String → State → State → Prop} {mc ms : Nat} {free : Addr → Prop} {bytes : ByteArray} {maxL : Nat} {ret : Option FieldType} {hh : List (Nat × Nat × Nat × Nat)}
    (hM : vx_Met l y ws rm Pc Qc XC mc ms free) (hblind : FrameBlind Pc) (hrc : rm.cells = mc) (hrs : rm.slots = ms)
    (hframes : rm.frames + 1 ≤ R.frames) (hlocals : W9 + (maxL + 11) + rm.locals ≤ R.locals)
    (hws : ∀ w ∈ ws, ∀ a' U, s.WarmedH U.vm → w.before a' U = true) (hcode : Cond.codeWith y bytes maxL ret hh ∈ ws) (hinit : ∀ a' U, s.WarmedH U.vm → (Cond.initialized y.cls).before a' U = true) :
    vx_Back l R p e below s sargs y len W9 (PreOf R mc ms Pc) (PostOf Qc mc ms free) (vx_Post XC mc ms free) := by
  intro m meth c A g ig mk a X hg hsize hdg hW hn hp
  have h1 : (headSpec ws rm).pre.before a A.U = true := atoms_intro fun w hw => hws w hw _ _ X.warmed
  have h2 : (Cond.codeWith y bytes maxL ret hh).before a A.U = true := hws _ hcode _ _ X.warmed
  have h3 : (Cond.initialized y.cls).before a A.U = true := hinit _ _ X.warmed
  have h4 : A.cells + (headSpec ws rm).room.cells ≤ R.cells := by rw [show (headSpec ws rm).room.cells = mc from hrc]; exact hp.1
  have h5 : A.slots + (headSpec ws rm).room.slots ≤ R.slots := by rw [show (headSpec ws rm).room.slots = ms from hrs]; exact hp.2.1
  have hPc : Pc a (A.U.calling g mk a) := hblind _ _ _ _ hp.2.2
  obtain ⟨U, Ls, c0, s0⟩ := A
  dsimp only [Pt.U, Pt.locs, Pt.cells, Pt.slots] at h1 h2 h3 h4 h5 X hn hPc ⊢
  obtain ⟨m9, methY, cY, hn9, hmY, hcY, -, hlY, -⟩ := Cond.codeWith_spec h2
  cases Option.some.inj (hn9.symm.trans hn)
  obtain ⟨kY, hkY, -⟩ := className_of_methodNamed hn
  have hinitY : kY.init = .initialized := Cond.initialized_spec (findClass_of_methodNamed hn) hkY h3
  have h : At U g.method c below := by rw [hg]; exact X.here
  have hlocals9 : W9 + (maxL + 11) + (headSpec ws rm).room.locals ≤ R.locals := hlocals
  have happ : (headSpec ws rm).appliesLoose y e.platform (U.calling g mk a) = true :=
    Spec.appliesLoose_calling (g := g) h hdg hn hkY hinitY
      (X.room_calling (g := g) (R' := (headSpec ws rm).room) hsize hmY hcY hframes (by rw [hlY]; omega) h4 h5) h1
  obtain ⟨mid, hmid⟩ := h.above
  have hfr : (U.setTop g).frames = (.java g :: mid) ++ below := by rw [State.frames_setTop' g h.top, hmid]; rfl
  obtain ⟨o, s₂, hsteps, -, hend, hq⟩ := Steps.callFree hM p X.admits X.cas X.clock (acts := []) hfr happ hPc trivial
  have hq' : vx_Q Qc XC mc ms free a (U.calling g mk a) o s₂ := hq
  rw [State.frames_setTop' g h.top] at hend
  obtain ⟨g₀, hg0⟩ := Option.isSome_iff_exists.mp h.top
  obtain ⟨r, hr⟩ := State.topJava?_eq_some.mp hg0
  have hr' : (({ U with heap := s₂.heap, slotsUsed := s₂.slotsUsed } : State).setVm s₂.vm).frames = .java g₀ :: r := hr
  rcases hq' with ⟨hqc, L, hfe, hL⟩ | ⟨q, rfl, E, ce, L, hx, hce, hcv, hcl, hW₂, hsm, hL⟩
  · obtain ⟨⟨v, rfl⟩, hW₂, e2, q2, q3, q4, q5, q6⟩ := id hfe
    have e3 : s₂ = ({ (U.calling g mk a).setFrames s₂.frames with heap := s₂.heap, slotsUsed := s₂.slotsUsed } : State).setVm s₂.vm := by
      have : s₂ = ({ s₂ with vm := (U.calling g mk a).vm } : State).setVm s₂.vm := rfl
      rw [e2] at this
      exact this
    obtain ⟨c₂, i₂, len₂, hc₂, hd₂, hf₂⟩ := hend
    have hW' : U.WarmedH s₂.vm := hW₂
    have hcc : c₂ = c := by
      have h1 : s₂.code? g.method = U.code? g.method := by
        rw [State.code?_eq, State.code?_eq, hW'.alike.method?]
      exact Option.some.inj (hc₂.symm.trans (h1.trans h.code))
    subst hcc
    have hlen : len₂ = len := by rw [hdg] at hd₂; cases hd₂; rfl
    subst hlen
    have hs₂ : s₂ = (({ U with heap := s₂.heap, slotsUsed := s₂.slotsUsed } : State).setVm s₂.vm).setTop { g with pc := g.pc + len₂, stack := v.toList ++ g.stack } := by
      refine e3.trans ?_
      rw [hf₂, State.calling_eq h.top, State.setFrames_setFrames, State.setTop_of_frames _ hr', hr]
      rfl
    have hsame : U.sameButNew ({ U with heap := s₂.heap, slotsUsed := s₂.slotsUsed } : State) L mc ms := by
      refine ⟨?_, q2, q3, q4, q5, q6⟩
      obtain ⟨t, ht, -⟩ := State.frames_cons hr
      show ({ U with heap := s₂.heap, slotsUsed := s₂.slotsUsed } : State) = { U.setFrames U.frames with heap := s₂.heap, slotsUsed := s₂.slotsUsed }
      rw [State.setFrames_self ht]
    subst hg
    refine Or.inl ⟨v, ⟨(({ U with heap := s₂.heap, slotsUsed := s₂.slotsUsed } : State).setVm s₂.vm), Ls ++ L, c0 + mc, s0 + ms⟩,
      ⟨X.admits, X.cas, X.clock, X.frames, X.room, X.hears, X.method, X.code, (X.here.setHeapUsed s₂.heap s₂.slotsUsed).setVm hW'.alike, X.tail, State.WarmedH.trans X.warmed hW', X.limits, X.bytes, X.same.trans (hsame.setVm s.vm)⟩,
      ⟨g, mk, s₂, L, rfl, rfl, hqc, rfl, hL, rfl, rfl⟩, ?_⟩
    show Steps p.tables e below _ ((({ U with heap := s₂.heap, slotsUsed := s₂.slotsUsed } : State).setVm s₂.vm).setTop { g with pc := g.pc + len₂, stack := v.toList ++ g.stack })
    rw [← hs₂]
    exact hsteps
  · obtain ⟨e2, q2, q3, q4, q5, q6⟩ := id hsm
    have e3 : s₂ = ({ (U.calling g mk a).setFrames s₂.frames with heap := s₂.heap, slotsUsed := s₂.slotsUsed } : State).setVm s₂.vm := by
      have : s₂ = ({ s₂ with vm := (U.calling g mk a).vm } : State).setVm s₂.vm := rfl
      rw [e2] at this
      exact this
    have hf₂ : s₂.frames = .throwing q :: .java g :: U.frames.tail := hend
    have hW' : U.WarmedH s₂.vm := hW₂
    have hs₂ : s₂ = ((({ U with heap := s₂.heap, slotsUsed := s₂.slotsUsed } : State).setVm s₂.vm).setTop g).pushFrame (.throwing q) := by
      refine e3.trans ?_
      rw [hf₂, State.calling_eq h.top, State.setFrames_setFrames, State.pushFrame, State.frames_setTop _ hr', State.setTop_of_frames _ hr', State.setFrames_setFrames, hr]
      rfl
    have hsame : U.sameButNew ({ U with heap := s₂.heap, slotsUsed := s₂.slotsUsed } : State) L mc ms := by
      refine ⟨?_, q2, q3, q4, q5, q6⟩
      obtain ⟨t, ht, -⟩ := State.frames_cons hr
      show ({ U with heap := s₂.heap, slotsUsed := s₂.slotsUsed } : State) = { U.setFrames U.frames with heap := s₂.heap, slotsUsed := s₂.slotsUsed }
      rw [State.setFrames_self ht]
    subst hg
    refine Or.inr ⟨q, ⟨(({ U with heap := s₂.heap, slotsUsed := s₂.slotsUsed } : State).setVm s₂.vm), Ls ++ L, c0 + mc, s0 + ms⟩,
      ⟨X.admits, X.cas, X.clock, X.frames, X.room, X.hears, X.method, X.code, (X.here.setHeapUsed s₂.heap s₂.slotsUsed).setVm hW'.alike, X.tail, State.WarmedH.trans X.warmed hW', X.limits, X.bytes, X.same.trans (hsame.setVm s.vm)⟩,
      ⟨g, mk, s₂, L, E, ce, rfl, rfl, hx, hce, hcv, hcl, rfl, hL, rfl, rfl⟩, ?_⟩
    show Steps p.tables e below _ (((({ U with heap := s₂.heap, slotsUsed := s₂.slotsUsed } : State).setVm s₂.vm).setTop g).pushFrame (.throwing q))
    rw [← hs₂]
    exact hsteps
end
variable {p : Program} {l : Launch} {e : Env} {R : Room} {s : State} {m : MethodId} {args : Array Value} {below : List Frame} {meth : Method} {c : Code} {T : State} {H : Heap} {locs : List Loc} {cells slots : Nat}
theorem vx_callVX (X : Stand p l e R s m args below meth c T locs cells slots) (hexec : p.tables.exec = Jvm.exec) {own C : String} {index : Nat} {y : MethodName} {bytes : ByteArray} {maxL : Nat} {ret : Option FieldType} {hh : List (Nat × Nat × Nat × Nat)}
    (hown : s.vm.findClass own = some m.cls) (hlink : (Cond.methodLink own index y).before args s = true) (hinst : (Cond.instanceMethod y).before args s = true) (hsel : (Cond.selects C y y).before args s = true)
    (hcode : (Cond.codeWith y bytes maxL ret hh).before args s = true) (hy : y.cls ≠ "java/lang/invoke/MethodHandle" ∧ y.cls ≠ "java/lang/invoke/VarHandle")
    {W9 : Nat} {Pre : Pt → Array Value → Prop} {Post : Pt → Array Value → Option Value → Pt → Prop} {PostX : Pt → Array Value → Addr → Pt → Prop} (hK : vx_Back l R p e below s args y 3 W9 Pre Post PostX)
    {b : Addr} {cellB : Cell} (hcell : T.heap[b]? = some cellB) (hobj : cellB.vm.isStatics = false) (hcls : s.vm.findClass C = some cellB.cls)
    {g : JFrame} (hg : g.method = m) (hsize : g.locals.size = c.maxLocals) {argsL rest : List Value} (hlen : ∀ sig, parseMethodDescriptor y.desc = some sig → argsL.length = sig.parameters.length)
    (hstack : g.stack = argsL.reverse ++ .ref b :: rest) (hW : 2 * g.monitorRoom + (rest.map fun v => v.category).sum ≤ W9) (hdg : decode c.code g.pc = .ok (.invokevirtual index, 3))
    (hpre : ∀ vm₁, s.WarmedH vm₁ → Pre ⟨T.setVm vm₁, locs, cells, slots⟩ (Value.ref b :: argsL).toArray) :
    (∃ (v : Option Value) (vm₁ : Vm) (B : Pt), s.WarmedH vm₁ ∧ Stand p l e R s m args below meth c B.U B.locs B.cells B.slots ∧ Post ⟨T.setVm vm₁, locs, cells, slots⟩ (Value.ref b :: argsL).toArray v B ∧
      ∀ target, Steps p.tables e below (B.U.setTop { g with pc := g.pc + 3, stack := v.toList ++ rest }) target → Steps p.tables e below (T.setTop g) target) ∨
    (∃ (q : Addr) (vm₁ : Vm) (B : Pt), s.WarmedH vm₁ ∧ Stand p l e R s m args below meth c B.U B.locs B.cells B.slots ∧ PostX ⟨T.setVm vm₁, locs, cells, slots⟩ (Value.ref b :: argsL).toArray q B ∧
      Steps p.tables e below (T.setTop g) ((B.U.setTop { g with stack := rest }).pushFrame (.throwing q))) := by
  obtain ⟨mk, methM, hnamed, hmethM, hstM, habM⟩ := Cond.instanceMethod_spec hinst
  obtain ⟨m8, methM', cM, hn8, hmethM', -, -, -, -, -, -, hsigM⟩ := Cond.codeWith_spec hcode
  cases Option.some.inj (hn8.symm.trans hnamed)
  cases hmethM.symm.trans hmethM'
  obtain ⟨c2, r2, m2, q1, q2, q3, q4, kP, hkP, hkPi⟩ := Cond.selects_spec hsel
  cases hcls.symm.trans q1
  cases (State.methodFound?_of_named hnamed hy).symm.trans q2
  cases hnamed.symm.trans q3
  have hselP : selectMethod e.platform s.vm cellB.cls mk = .method mk := by rw [Launch.admits_selectMethod X.admits]; exact q4
  obtain ⟨vm₁, X₁, hstep₁⟩ := X.invokevirtual hexec hown hlink hnamed hmethM hstM hkP hkPi hy (a := b) (cell := cellB) hcell
    (fun z h => by rw [h] at hobj; cases hobj) hselP hmethM habM hkP hkPi (g := g) hg (argsL := argsL) (rest := rest) (hlen _ hsigM) hstack hdg
  rcases hK m meth c ⟨T.setVm vm₁, locs, cells, slots⟩ { g with stack := rest } (.invokevirtual index) mk (Value.ref b :: argsL).toArray X₁ hg hsize hdg hW (X₁.named hnamed) (hpre vm₁ X₁.warmed) with ⟨v, B, X', hpost, hsteps⟩ | ⟨q, B, X', hpost, hsteps⟩
  · exact Or.inl ⟨v, vm₁, B, X₁.warmed, X', hpost, fun target h => hstep₁ _ fun acts => by rw [doInvoke_state]; exact hsteps.trans h⟩
  · exact Or.inr ⟨q, vm₁, B, X₁.warmed, X', hpost, hstep₁ _ fun acts => by rw [doInvoke_state]; exact hsteps⟩
theorem vx_callSX (X : Stand p l e R s m args below meth c T locs cells slots) (hexec : p.tables.exec = Jvm.exec) {own : String} {index : Nat} {y : MethodName} {bytes : ByteArray} {maxL : Nat} {ret : Option FieldType} {hh : List (Nat × Nat × Nat × Nat)}
    (hown : s.vm.findClass own = some m.cls) (hlink : (Cond.methodLink own index y).before args s = true) (hstat : (Cond.static y).before args s = true) (hinit : (Cond.initialized y.cls).before args s = true)
    (hcode : (Cond.codeWith y bytes maxL ret hh).before args s = true) (hy : y.cls ≠ "java/lang/invoke/MethodHandle" ∧ y.cls ≠ "java/lang/invoke/VarHandle")
    {W9 : Nat} {Pre : Pt → Array Value → Prop} {Post : Pt → Array Value → Option Value → Pt → Prop} {PostX : Pt → Array Value → Addr → Pt → Prop} (hK : vx_Back l R p e below s args y 3 W9 Pre Post PostX)
    {g : JFrame} (hg : g.method = m) (hsize : g.locals.size = c.maxLocals) {argsL rest : List Value} (hlen : ∀ sig, parseMethodDescriptor y.desc = some sig → argsL.length = sig.parameters.length)
    (hstack : g.stack = argsL.reverse ++ rest) (hW : 2 * g.monitorRoom + (rest.map fun v => v.category).sum ≤ W9) (hdg : decode c.code g.pc = .ok (.invokestatic index, 3))
    (hpre : ∀ vm₁, s.WarmedH vm₁ → Pre ⟨T.setVm vm₁, locs, cells, slots⟩ argsL.toArray) :
    (∃ (v : Option Value) (vm₁ : Vm) (B : Pt), s.WarmedH vm₁ ∧ Stand p l e R s m args below meth c B.U B.locs B.cells B.slots ∧ Post ⟨T.setVm vm₁, locs, cells, slots⟩ argsL.toArray v B ∧
      ∀ target, Steps p.tables e below (B.U.setTop { g with pc := g.pc + 3, stack := v.toList ++ rest }) target → Steps p.tables e below (T.setTop g) target) ∨
    (∃ (q : Addr) (vm₁ : Vm) (B : Pt), s.WarmedH vm₁ ∧ Stand p l e R s m args below meth c B.U B.locs B.cells B.slots ∧ PostX ⟨T.setVm vm₁, locs, cells, slots⟩ argsL.toArray q B ∧
      Steps p.tables e below (T.setTop g) ((B.U.setTop { g with stack := rest }).pushFrame (.throwing q))) := by
  obtain ⟨mk, methM, cM, hnamed, hmethM, -, -, -, -, -, -, hsigM⟩ := Cond.codeWith_spec hcode
  have hstatic : methM.isStatic = true := Cond.static_spec hnamed hmethM hstat
  obtain ⟨kP, hkP, -⟩ := className_of_methodNamed hnamed
  have hinitP : kP.init = .initialized := Cond.initialized_spec (findClass_of_methodNamed hnamed) hkP hinit
  obtain ⟨vm₁, X₁, hstep₁⟩ := X.invokestatic hexec hown hlink hnamed hmethM hstatic hkP hinitP hy (g := g) hg (argsL := argsL) (rest := rest) (hlen _ hsigM) hstack hdg
  rcases hK m meth c ⟨T.setVm vm₁, locs, cells, slots⟩ { g with stack := rest } (.invokestatic index) mk argsL.toArray X₁ hg hsize hdg hW (X₁.named hnamed) (hpre vm₁ X₁.warmed) with ⟨v, B, X', hpost, hsteps⟩ | ⟨q, B, X', hpost, hsteps⟩
  · exact Or.inl ⟨v, vm₁, B, X₁.warmed, X', hpost, fun target h => hstep₁ _ fun acts => by rw [doInvoke_state]; exact hsteps.trans h⟩
  · exact Or.inr ⟨q, vm₁, B, X₁.warmed, X', hpost, hstep₁ _ fun acts => by rw [doInvoke_state]; exact hsteps⟩
theorem vx_callVW (X : Stand p l e R s m args below meth c T locs cells slots) (hexec : p.tables.exec = Jvm.exec) {own C : String} {index : Nat} {y : MethodName} {bytes : ByteArray} {maxL : Nat} {ret : Option FieldType} {hh : List (Nat × Nat × Nat × Nat)}
    (hown : s.vm.findClass own = some m.cls) (hlink : (Cond.methodLink own index y).before args s = true) (hinst : (Cond.instanceMethod y).before args s = true) (hsel : (Cond.selects C y y).before args s = true)
    (hcode : (Cond.codeWith y bytes maxL ret hh).before args s = true) (hy : y.cls ≠ "java/lang/invoke/MethodHandle" ∧ y.cls ≠ "java/lang/invoke/VarHandle")
    {W9 : Nat} {Pre : Pt → Array Value → Prop} {Post : Pt → Array Value → Option Value → Pt → Prop} (hK : Back l R p e below s args y 3 W9 Pre Post)
    {b : Addr} {cellB : Cell} (hcell : T.heap[b]? = some cellB) (hobj : cellB.vm.isStatics = false) (hcls : s.vm.findClass C = some cellB.cls)
    {g : JFrame} (hg : g.method = m) (hsize : g.locals.size = c.maxLocals) {argsL rest : List Value} (hlen : ∀ sig, parseMethodDescriptor y.desc = some sig → argsL.length = sig.parameters.length)
    (hstack : g.stack = argsL.reverse ++ .ref b :: rest) (hW : 2 * g.monitorRoom + (rest.map fun v => v.category).sum ≤ W9) (hdg : decode c.code g.pc = .ok (.invokevirtual index, 3))
    (hpre : ∀ vm₁, s.WarmedH vm₁ → Pre ⟨T.setVm vm₁, locs, cells, slots⟩ (Value.ref b :: argsL).toArray) :
    ∃ (v : Option Value) (vm₁ : Vm) (B : Pt), s.WarmedH vm₁ ∧ Stand p l e R s m args below meth c B.U B.locs B.cells B.slots ∧ Post ⟨T.setVm vm₁, locs, cells, slots⟩ (Value.ref b :: argsL).toArray v B ∧
      ∀ target, Steps p.tables e below (B.U.setTop { g with pc := g.pc + 3, stack := v.toList ++ rest }) target → Steps p.tables e below (T.setTop g) target := by
  obtain ⟨mk, methM, hnamed, hmethM, hstM, habM⟩ := Cond.instanceMethod_spec hinst
  obtain ⟨m8, methM', cM, hn8, hmethM', -, -, -, -, -, -, hsigM⟩ := Cond.codeWith_spec hcode
  cases Option.some.inj (hn8.symm.trans hnamed)
  cases hmethM.symm.trans hmethM'
  obtain ⟨c2, r2, m2, q1, q2, q3, q4, kP, hkP, hkPi⟩ := Cond.selects_spec hsel
  cases hcls.symm.trans q1
  cases (State.methodFound?_of_named hnamed hy).symm.trans q2
  cases hnamed.symm.trans q3
  have hselP : selectMethod e.platform s.vm cellB.cls mk = .method mk := by rw [Launch.admits_selectMethod X.admits]; exact q4
  obtain ⟨vm₁, X₁, hstep₁⟩ := X.invokevirtual hexec hown hlink hnamed hmethM hstM hkP hkPi hy (a := b) (cell := cellB) hcell
    (fun z h => by rw [h] at hobj; cases hobj) hselP hmethM habM hkP hkPi (g := g) hg (argsL := argsL) (rest := rest) (hlen _ hsigM) hstack hdg
  obtain ⟨v, B, X', hpost, hsteps⟩ := hK m meth c ⟨T.setVm vm₁, locs, cells, slots⟩ { g with stack := rest } (.invokevirtual index) mk (Value.ref b :: argsL).toArray X₁ hg hsize hdg hW (X₁.named hnamed) (hpre vm₁ X₁.warmed)
  exact ⟨v, vm₁, B, X₁.warmed, X', hpost, fun target h => hstep₁ _ fun acts => by rw [doInvoke_state]; exact hsteps.trans h⟩
abbrev vx_CVW (R : Room) (s : State) (args : Array Value) (own C : String) (index : Nat) (y : MethodName) (bytes : ByteArray) (maxL : Nat) (ret : Option FieldType) (hh : List (Nat × Nat × Nat × Nat)) (ws : List Cond) (rm : Room) (mc ms n : Nat) : Prop :=
  (rm.cells = mc ∧ rm.slots = ms ∧ rm.frames + 1 ≤ R.frames ∧ 8 + (maxL + 11) + rm.locals ≤ R.locals ∧ (∀ w ∈ ws, ∀ (a' : Array Value) (U : State), s.WarmedH U.vm → w.before a' U = true) ∧ Cond.codeWith y bytes maxL ret hh ∈ ws) ∧
  (Cond.codeWith y bytes maxL ret hh).before args s = true ∧ (Cond.initialized y.cls).before args s = true ∧ (y.cls ≠ "java/lang/invoke/MethodHandle" ∧ y.cls ≠ "java/lang/invoke/VarHandle") ∧
  (∀ sig, parseMethodDescriptor y.desc = some sig → n = sig.parameters.length) ∧ (Cond.methodLink own index y).before args s = true ∧ (Cond.instanceMethod y).before args s = true ∧ (Cond.selects C y y).before args s = true
theorem vx_cwVW {own C : String} {index maxL mc ms : Nat} {y : MethodName} {bytes : ByteArray} {ret : Option FieldType} {hh : List (Nat × Nat × Nat × Nat)} {Ts ws ws' : List Cond} {rm : Room} (n : Nat) (ht : ∀ w ∈ Ts, w.before args s = true) (hT : GoodIn Ts (wsV own index C y ws)) (hw : ws = Cond.codeWith y bytes maxL ret hh :: ws') (hrc : rm.cells = mc) (hrs : rm.slots = ms)
    (hd : y.cls = C ∧ y.cls ≠ "java/lang/invoke/MethodHandle" ∧ y.cls ≠ "java/lang/invoke/VarHandle" ∧ (parseMethodDescriptor y.desc).map (fun d => d.parameters.length) = some n) (hR : rm.frames + 1 ≤ R.frames ∧ 8 + (maxL + 11) + rm.locals ≤ R.locals) :
    vx_CVW R s args own C index y bytes maxL ret hh ws rm mc ms n := by
  obtain ⟨hC, hd⟩ := hd
  subst hC
  have ok : ∀ w ∈ wsV own index y.cls y ws, w.before args s = true := fun w h => ht w (hT w h).1
  have hG : GoodIn Ts ws := fun w h => hT w (by unfold wsV; exact List.mem_append_right _ h)
  have hc : Cond.codeWith y bytes maxL ret hh ∈ ws := by rw [hw]; exact List.mem_cons_self
  refine ⟨⟨hrc, hrs, hR.1, hR.2, pay_in ht hG, hc⟩, ht _ (hG _ hc).1, ok _ (by simp [wsV]), ⟨hd.1, hd.2.1⟩, fun sig h => ?_, ok _ (by simp [wsV]), ok _ (by simp [wsV]), ok _ (by simp [wsV])⟩
  have h2 := hd.2.2
  rw [h] at h2
  exact (Option.some.inj h2).symm
theorem vx_runVW {y : MethodName} {bytes cc : ByteArray} {maxL nL mc ms n index : Nat} {ret : Option FieldType} {hh : List (Nat × Nat × Nat × Nat)} {ws : List Cond} {rm : Room} {Pc : Array Value → State → Prop} {Qc : Array Value → State → Outcome → State → Prop} {free : Addr → Prop} {Ts : List Cond} {own C : String} {b : Addr} {As rest : List Value} {g : JFrame}
    (S : CallFix p m c cc nL s args Ts own) (hM : Met l y ws rm Pc Qc mc ms free) (cw : vx_CVW R s args own C index y bytes maxL ret hh ws rm mc ms n) (hp : PreV s H C b Pc As)
    (hg : g.method = m) (hn : As.length = n) (hsize : g.locals.size = nL) (hstack : g.stack = As.reverse ++ .ref b :: rest) (hW : 2 * g.monitorRoom + (rest.map fun v => v.category).sum ≤ 8) (hdg : decode cc g.pc = .ok (.invokevirtual index, 3)) (hf : cells + mc ≤ R.cells ∧ slots + ms ≤ R.slots) :
    va_Run p l e R s m args below meth c H locs cells slots mc ms g rest (Qc (Value.ref b :: As).toArray) free := by
  obtain ⟨⟨hrc, hrs, hfr, hlo, hws, hcw⟩, hcode, hini, hy, hlen, hl, hin, hse⟩ := cw
  have hK : Back l R p e below s args y 3 8 (PreOf R mc ms Pc) (PostOf Qc mc ms free) := va_backW (hh := hh) (bytes := bytes) (maxL := maxL) (ret := ret) hM hp.1 hrc hrs hfr hlo hws hcw (fun a' U hW => word_at hW (Or.inl (by first | rfl | simp [Cond.onTables, Cond.keeps, Cond.steady])) hini)
  obtain ⟨hx, hb, hml, ho, -⟩ := S
  obtain ⟨-, ⟨cellB, hcB, hoB, hclB⟩, hPc⟩ := hp
  intro T hT X
  obtain ⟨v, vm₁, ⟨U', l2, c2, s2⟩, hW₁, X', ⟨g', mk, t, L, e1, e2, hq, h1, hL, h2, h3⟩, st⟩ := vx_callVW X hx (C := C) (hh := hh) (bytes := bytes) (maxL := maxL) (ret := ret) ho hl hin hse hcode hy hK (by rw [hT]; exact hcB) hoB hclB hg (hsize.trans hml.symm) (argsL := As) (rest := rest) (fun sig h => hn.trans (hlen sig h)) hstack hW (by rw [hb]; exact hdg)
    (fun vm₁ hW₁ => ⟨hf.1, hf.2, hPc (T.setVm vm₁) hT hW₁⟩)
  dsimp only [Pt.U, Pt.locs, Pt.cells, Pt.slots] at X' e1 e2 h1 h2 h3 st
  subst h1; subst h2; subst h3
  exact ⟨v, (T.setVm vm₁).calling g' mk (Value.ref b :: As).toArray, t, U', L, hT, X', hL, e1, e2, hq, st⟩
section
variable {y : MethodName} {bytes cc : ByteArray} {maxL nL mc ms n index : Nat} {ret : Option FieldType} {ws : List Cond} {rm : Room} {Pc : Array Value → State → Prop} {Qc : Array Value → State → Outcome → State → Prop} {XC : String → State → State → Prop} {free : Addr → Prop} {Ts : List Cond} {own C : String} {b : Addr} {As rest : List Value} {g : JFrame}
theorem vx_runVX {hh : List (Nat × Nat × Nat × Nat)} (S : CallFix p m c cc nL s args Ts own) (hM : vx_Met l y ws rm Pc Qc XC mc ms free) (cw : vx_CVW R s args own C index y bytes maxL ret hh ws rm mc ms n) (hp : PreV s H C b Pc As)
    (hg : g.method = m) (hn : As.length = n) (hsize : g.locals.size = nL) (hstack : g.stack = As.reverse ++ .ref b :: rest) (hW : 2 * g.monitorRoom + (rest.map fun v => v.category).sum ≤ 8) (hdg : decode cc g.pc = .ok (.invokevirtual index, 3)) (hf : cells + mc ≤ R.cells ∧ slots + ms ≤ R.slots) :
    vx_Run p l e R s m args below meth c H locs cells slots mc ms g rest (Qc (Value.ref b :: As).toArray) XC free := by
  obtain ⟨⟨hrc, hrs, hfr, hlo, hws, hcw⟩, hcode, hini, hy, hlen, hl, hin, hse⟩ := cw
  have hK : vx_Back l R p e below s args y 3 8 (PreOf R mc ms Pc) (PostOf Qc mc ms free) (vx_Post XC mc ms free) := vx_backW (hh := hh) (bytes := bytes) (maxL := maxL) (ret := ret) hM hp.1 hrc hrs hfr hlo hws hcw (fun a' U hW => word_at hW (Or.inl (by first | rfl | simp [Cond.onTables, Cond.keeps, Cond.steady])) hini)
  obtain ⟨hx, hb, hml, ho, -⟩ := S
  obtain ⟨-, ⟨cellB, hcB, hoB, hclB⟩, hPc⟩ := hp
  intro T hT X
  rcases vx_callVX X hx (C := C) (hh := hh) (bytes := bytes) (maxL := maxL) (ret := ret) ho hl hin hse hcode hy hK (by rw [hT]; exact hcB) hoB hclB hg (hsize.trans hml.symm) (argsL := As) (rest := rest) (fun sig h => hn.trans (hlen sig h)) hstack hW (by rw [hb]; exact hdg)
    (fun vm₁ hW₁ => ⟨hf.1, hf.2, hPc (T.setVm vm₁) hT hW₁⟩) with ⟨v, vm₁, ⟨U', l2, c2, s2⟩, hW₁, X', ⟨g', mk, t, L, e1, e2, hq, h1, hL, h2, h3⟩, st⟩ | ⟨q, vm₁, ⟨U', l2, c2, s2⟩, hW₁, X', ⟨g', mk, t, L, E, ce, e1, e2, hq, hce, hcv, hcl, h1, hL, h2, h3⟩, st⟩
  · dsimp only [Pt.U, Pt.locs, Pt.cells, Pt.slots] at X' e1 e2 h1 h2 h3 st
    subst h1; subst h2; subst h3
    exact Or.inl ⟨v, (T.setVm vm₁).calling g' mk (Value.ref b :: As).toArray, t, U', L, hT, X', hL, e1, e2, hq, st⟩
  · dsimp only [Pt.U, Pt.locs, Pt.cells, Pt.slots] at X' e1 e2 h1 h2 h3 st hcl
    subst h1; subst h2; subst h3
    exact Or.inr ⟨q, (T.setVm vm₁).calling g' mk (Value.ref b :: As).toArray, t, U', L, E, ce, hT, X', hL, e1, e2, hq, hce, hcv, vx_cls hW₁ hcl, st⟩
theorem vx_runSX {hh : List (Nat × Nat × Nat × Nat)} (S : CallFix p m c cc nL s args Ts own) (hM : vx_Met l y ws rm Pc Qc XC mc ms free) (cw : vx_CSW R s args own index y bytes maxL ret hh ws rm mc ms n) (hp : PreS s H Pc As)
    (hg : g.method = m) (hn : As.length = n) (hsize : g.locals.size = nL) (hstack : g.stack = As.reverse ++ rest) (hW : 2 * g.monitorRoom + (rest.map fun v => v.category).sum ≤ 8) (hdg : decode cc g.pc = .ok (.invokestatic index, 3)) (hf : cells + mc ≤ R.cells ∧ slots + ms ≤ R.slots) :
    vx_Run p l e R s m args below meth c H locs cells slots mc ms g rest (Qc As.toArray) XC free := by
  obtain ⟨⟨hrc, hrs, hfr, hlo, hws, hcw⟩, hcode, hini, hy, hlen, hl, hstt⟩ := cw
  have hK : vx_Back l R p e below s args y 3 8 (PreOf R mc ms Pc) (PostOf Qc mc ms free) (vx_Post XC mc ms free) := vx_backW (hh := hh) (bytes := bytes) (maxL := maxL) (ret := ret) hM hp.1 hrc hrs hfr hlo hws hcw (fun a' U hW => word_at hW (Or.inl (by first | rfl | simp [Cond.onTables, Cond.keeps, Cond.steady])) hini)
  obtain ⟨hx, hb, hml, ho, -⟩ := S
  intro T hT X
  rcases vx_callSX X hx (hh := hh) (bytes := bytes) (maxL := maxL) (ret := ret) ho hl hstt hini hcode hy hK hg (hsize.trans hml.symm) (argsL := As) (rest := rest) (fun sig h => hn.trans (hlen sig h)) hstack hW (by rw [hb]; exact hdg)
    (fun vm₁ hW₁ => ⟨hf.1, hf.2, hp.2 (T.setVm vm₁) hT hW₁⟩) with ⟨v, vm₁, ⟨U', l2, c2, s2⟩, hW₁, X', ⟨g', mk, t, L, e1, e2, hq, h1, hL, h2, h3⟩, st⟩ | ⟨q, vm₁, ⟨U', l2, c2, s2⟩, hW₁, X', ⟨g', mk, t, L, E, ce, e1, e2, hq, hce, hcv, hcl, h1, hL, h2, h3⟩, st⟩
  · dsimp only [Pt.U, Pt.locs, Pt.cells, Pt.slots] at X' e1 e2 h1 h2 h3 st
    subst h1; subst h2; subst h3
    exact Or.inl ⟨v, (T.setVm vm₁).calling g' mk As.toArray, t, U', L, hT, X', hL, e1, e2, hq, st⟩
  · dsimp only [Pt.U, Pt.locs, Pt.cells, Pt.slots] at X' e1 e2 h1 h2 h3 st hcl
    subst h1; subst h2; subst h3
    exact Or.inr ⟨q, (T.setVm vm₁).calling g' mk As.toArray, t, U', L, E, ce, hT, X', hL, e1, e2, hq, hce, hcv, vx_cls hW₁ hcl, st⟩
end
end VXH
theorem vx_ofWH {l : Launch} {y : MethodName} {ws ws' : List Cond} {rm : Room} {Pc : Array Value → State → Prop} {Qc : Array Value → State → Outcome → State → Prop} {XC : String → State → State → Prop} {mc ms : Nat} {free : Addr → Prop} {cc : ByteArray} {maxL : Nat} {ret : Option FieldType} {hh : List (Nat × Nat × Nat × Nat)}
    (hy : plainName y.cls = true) (hw : ws = Cond.codeWith y cc maxL ret hh :: ws')
    (body : ∀ p e s m args below meth c s₁, BodyLoose p l y (headSpec ws rm) cc maxL ret e s m args below meth c s₁ → c.maxLocals = maxL → Pc args s →
      W p l e (headSpec ws rm).room s m args below meth c s.heap [] 0 0 (vx_MQ below Qc XC args s mc ms free) (entryFrame m args maxL)) : vx_Met l y ws rm Pc Qc XC mc ms free := by
  refine MetFree.of_bodyS (code := cc) (maxLocals := maxL) (ret := ret) hy ?_ ?_
  · intro args s m h hn
    obtain ⟨m9, meth, c, hn9, h1, h2, h3, h4, -, h5, h6, -⟩ := Cond.codeWith_spec (atoms_spec (ws := ws) h _ (by rw [hw]; exact List.mem_cons_self))
    cases hn.symm.trans hn9
    exact ⟨meth, c, h1, h2, h3, h4, h5, h6⟩
  · intro p e s m args below meth c s₁ B hml hP _
    have hh0 : s₁.heap = s.heap := by rw [B.state]; rfl
    obtain ⟨t, a1, o, b1, b2, b3⟩ := body p e s m args below meth c s₁ B hml hP s₁ hh0 (Stand.of_body B)
    exact ⟨t, o, a1, b1, b2, b3⟩
/-! ===== END ===== -/
end
section
/-! names, words and decode rows, laid by wip/whole/names.py out of the tables and the listing -/
abbrev RX0 : String := "ListWeave$Element"
def TX0 : u_T := fun k => match k with
  | 0 => ("ListWeave$Element", "id", "I", true)
  | 1 => ("ListWeave$Element", "behind", "I", true)
  | 2 => ("ListWeave$Element", "way", "I", true)
  | 3 => ("ListWeave$Element", "followers", "I", false)
  | 4 => ("ListWeave$Element", "sets", "I", false)
  | 5 => ("ListWeave$Element", "removes", "I", false)
  | 6 => ("ListWeave$Element", "standing", "I", false)
  | 7 => ("ListWeave$Element", "kind", "I", false)
  | _ => ("ListWeave$Element", "value", "I", false)
def tyX0 : Nat → FieldType := fun k => match k with
  | 0 => .int
  | 1 => .int
  | 2 => .int
  | 3 => .int
  | 4 => .int
  | 5 => .int
  | 6 => .int
  | 7 => .int
  | _ => .int
theorem nmX0 : ∀ a, a < 9 → ∀ b, b < 9 → a ≠ b → (TX0 a).2.1 ≠ (TX0 b).2.1 := by decide +kernel
theorem tyX0_ok : ∀ k, k < 9 → parseFieldDescriptor (TX0 k).2.2.1 = some (tyX0 k) := by decide +kernel
abbrev RX1 : String := "ListWeave$UsedIds"
def TX1 : u_T := fun k => match k with
  | 0 => ("ListWeave$UsedIds", "ids", "[I", true)
  | _ => ("ListWeave$UsedIds", "count", "I", false)
def tyX1 : Nat → FieldType := fun k => match k with
  | 0 => .array .int
  | _ => .int
theorem nmX1 : ∀ a, a < 2 → ∀ b, b < 2 → a ≠ b → (TX1 a).2.1 ≠ (TX1 b).2.1 := by decide +kernel
theorem tyX1_ok : ∀ k, k < 2 → parseFieldDescriptor (TX1 k).2.2.1 = some (tyX1 k) := by decide +kernel
abbrev RX2 : String := "ListWeave"
def TX2 : u_T := fun k => match k with
  | 0 => ("ListWeave", "used", "LListWeave$UsedIds;", true)
  | 1 => ("ListWeave", "beginning", "LListWeave$Element;", true)
  | 2 => ("ListWeave", "woven", "[LListWeave$Element;", true)
  | 3 => ("ListWeave", "elements", "I", false)
  | _ => ("ListWeave", "changes", "I", false)
def tyX2 : Nat → FieldType := fun k => match k with
  | 0 => .object "ListWeave$UsedIds"
  | 1 => .object "ListWeave$Element"
  | 2 => .array (.object "ListWeave$Element")
  | 3 => .int
  | _ => .int
theorem nmX2 : ∀ a, a < 5 → ∀ b, b < 5 → a ≠ b → (TX2 a).2.1 ≠ (TX2 b).2.1 := by decide +kernel
theorem tyX2_ok : ∀ k, k < 5 → parseFieldDescriptor (TX2 k).2.2.1 = some (tyX2 k) := by decide +kernel
abbrev RX3 : String := "ListWeaveModel"
def TX3 : u_T := fun k => match k with
  | 0 => ("ListWeaveModel", "thrown", "I", false)
  | 1 => ("ListWeaveModel", "many", "I", false)
  | 2 => ("ListWeaveModel", "ids", "[I", true)
  | 3 => ("ListWeaveModel", "behinds", "[I", true)
  | 4 => ("ListWeaveModel", "kinds", "[I", true)
  | 5 => ("ListWeaveModel", "values", "[I", true)
  | 6 => ("ListWeaveModel", "done", "I", false)
  | 7 => ("ListWeaveModel", "doneIds", "[I", true)
  | 8 => ("ListWeaveModel", "doneOf", "[I", true)
  | 9 => ("ListWeaveModel", "doneKinds", "[I", true)
  | 10 => ("ListWeaveModel", "doneValues", "[I", true)
  | 11 => ("ListWeaveModel", "order", "[I", true)
  | _ => ("ListWeaveModel", "stack", "[I", true)
def tyX3 : Nat → FieldType := fun k => match k with
  | 0 => .int
  | 1 => .int
  | 2 => .array .int
  | 3 => .array .int
  | 4 => .array .int
  | 5 => .array .int
  | 6 => .int
  | 7 => .array .int
  | 8 => .array .int
  | 9 => .array .int
  | 10 => .array .int
  | 11 => .array .int
  | _ => .array .int
theorem nmX3 : ∀ a, a < 13 → ∀ b, b < 13 → a ≠ b → (TX3 a).2.1 ≠ (TX3 b).2.1 := by decide +kernel
theorem tyX3_ok : ∀ k, k < 13 → parseFieldDescriptor (TX3 k).2.2.1 = some (tyX3 k) := by decide +kernel
abbrev RL : String := "ListWeaveLaw"
abbrev cl_ : List vw_C := [(RX0, TX0, 9), (RX1, TX1, 2), (RX2, TX2, 5), (RX3, TX3, 13)]
abbrev cX2_init : ByteArray := prog_1_method_1_code
abbrev yX2_init : MethodName := ⟨"ListWeave", "<init>", "()V"⟩
abbrev cX2_clear : ByteArray := prog_1_method_2_code
abbrev yX2_clear : MethodName := ⟨"ListWeave", "clear", "()V"⟩
abbrev cX2_insert : ByteArray := prog_1_method_3_code
abbrev yX2_insert : MethodName := ⟨"ListWeave", "insert", "(IIII)Z"⟩
abbrev cX2_run : ByteArray := prog_1_method_4_code
abbrev yX2_run : MethodName := ⟨"ListWeave", "run", "(IIIJ)Z"⟩
abbrev cX2_set : ByteArray := prog_1_method_5_code
abbrev yX2_set : MethodName := ⟨"ListWeave", "set", "(IIII)Z"⟩
abbrev cX2_remove : ByteArray := prog_1_method_6_code
abbrev yX2_remove : MethodName := ⟨"ListWeave", "remove", "(II)Z"⟩
abbrev cX2_size : ByteArray := prog_1_method_7_code
abbrev yX2_size : MethodName := ⟨"ListWeave", "size", "()I"⟩
abbrev cX2_at : ByteArray := prog_1_method_8_code
abbrev yX2_at : MethodName := ⟨"ListWeave", "at", "(II)I"⟩
abbrev cX2_place : ByteArray := prog_1_method_9_code
abbrev yX2_place : MethodName := ⟨"ListWeave", "place", "(I)I"⟩
abbrev cX2_ahead : ByteArray := prog_1_method_10_code
abbrev yX2_ahead : MethodName := ⟨"ListWeave", "ahead", "(I)I"⟩
abbrev cX2_before : ByteArray := prog_1_method_11_code
abbrev yX2_before : MethodName := ⟨"ListWeave", "before", "(II)Z"⟩
abbrev cX2_row : ByteArray := prog_1_method_12_code
abbrev yX2_row : MethodName := ⟨"ListWeave", "row", "(I)I"⟩
abbrev cX2_of : ByteArray := prog_1_method_13_code
abbrev yX2_of : MethodName := ⟨"ListWeave", "of", "(II)I"⟩
abbrev cX2_sum : ByteArray := prog_1_method_14_code
abbrev yX2_sum : MethodName := ⟨"ListWeave", "sum", "(II)J"⟩
abbrev cX2_look : ByteArray := prog_1_method_15_code
abbrev yX2_look : MethodName := ⟨"ListWeave", "look", "(I)I"⟩
abbrev cX2_isFree : ByteArray := prog_1_method_16_code
abbrev yX2_isFree : MethodName := ⟨"ListWeave", "isFree", "(I)Z"⟩
abbrev cX2_areFree : ByteArray := prog_1_method_17_code
abbrev yX2_areFree : MethodName := ⟨"ListWeave", "areFree", "(II)Z"⟩
abbrev cX2_isKind : ByteArray := prog_1_method_18_code
abbrev yX2_isKind : MethodName := ⟨"ListWeave", "isKind", "(I)Z"⟩
abbrev cX2_mayChange : ByteArray := prog_1_method_19_code
abbrev yX2_mayChange : MethodName := ⟨"ListWeave", "mayChange", "(II)Z"⟩
abbrev cX2_countChange : ByteArray := prog_1_method_20_code
abbrev yX2_countChange : MethodName := ⟨"ListWeave", "countChange", "(I)V"⟩
abbrev cX2_byteOf : ByteArray := prog_1_method_21_code
abbrev yX2_byteOf : MethodName := ⟨"ListWeave", "byteOf", "(JI)I"⟩
abbrev cX2_weave : ByteArray := prog_1_method_22_code
abbrev yX2_weave : MethodName := ⟨"ListWeave", "weave", "(ILListWeave$Element;II)LListWeave$Element;"⟩
abbrev cX2_rowForNew : ByteArray := prog_1_method_23_code
abbrev yX2_rowForNew : MethodName := ⟨"ListWeave", "rowForNew", "(ILListWeave$Element;)I"⟩
abbrev cX2_rowOf : ByteArray := prog_1_method_24_code
abbrev yX2_rowOf : MethodName := ⟨"ListWeave", "rowOf", "(I)I"⟩
abbrev cX2_elementOf : ByteArray := prog_1_method_25_code
abbrev yX2_elementOf : MethodName := ⟨"ListWeave", "elementOf", "(I)LListWeave$Element;"⟩
abbrev cX2_elementOrBeginning : ByteArray := prog_1_method_26_code
abbrev yX2_elementOrBeginning : MethodName := ⟨"ListWeave", "elementOrBeginning", "(I)LListWeave$Element;"⟩
abbrev cX2_elementAt : ByteArray := prog_1_method_27_code
abbrev yX2_elementAt : MethodName := ⟨"ListWeave", "elementAt", "(I)LListWeave$Element;"⟩
abbrev cX2_visibleUpTo : ByteArray := prog_1_method_28_code
abbrev yX2_visibleUpTo : MethodName := ⟨"ListWeave", "visibleUpTo", "(I)I"⟩
abbrev cX2_longestWay : ByteArray := prog_1_method_29_code
abbrev yX2_longestWay : MethodName := ⟨"ListWeave", "longestWay", "()I"⟩
abbrev cX3_init : ByteArray := prog_5_method_1_code
abbrev yX3_init : MethodName := ⟨"ListWeaveModel", "<init>", "()V"⟩
abbrev cX3_thrown : ByteArray := prog_5_method_2_code
abbrev yX3_thrown : MethodName := ⟨"ListWeaveModel", "thrown", "()I"⟩
abbrev cX3_placeOf : ByteArray := prog_5_method_3_code
abbrev yX3_placeOf : MethodName := ⟨"ListWeaveModel", "placeOf", "(I)I"⟩
abbrev cX3_isNew : ByteArray := prog_5_method_4_code
abbrev yX3_isNew : MethodName := ⟨"ListWeaveModel", "isNew", "(I)Z"⟩
abbrev cX3_isKind : ByteArray := prog_5_method_5_code
abbrev yX3_isKind : MethodName := ⟨"ListWeaveModel", "isKind", "(I)Z"⟩
abbrev cX3_keep : ByteArray := prog_5_method_6_code
abbrev yX3_keep : MethodName := ⟨"ListWeaveModel", "keep", "(IIII)V"⟩
abbrev cX3_canInsert : ByteArray := prog_5_method_7_code
abbrev yX3_canInsert : MethodName := ⟨"ListWeaveModel", "canInsert", "(II)Z"⟩
abbrev cX3_clear : ByteArray := prog_5_method_8_code
abbrev yX3_clear : MethodName := ⟨"ListWeaveModel", "clear", "()V"⟩
abbrev cX3_insert : ByteArray := prog_5_method_9_code
abbrev yX3_insert : MethodName := ⟨"ListWeaveModel", "insert", "(IIII)Z"⟩
abbrev cX3_run : ByteArray := prog_5_method_10_code
abbrev yX3_run : MethodName := ⟨"ListWeaveModel", "run", "(IIIJ)Z"⟩
abbrev cX3_does : ByteArray := prog_5_method_11_code
abbrev yX3_does : MethodName := ⟨"ListWeaveModel", "does", "(IIII)Z"⟩
abbrev cX3_set : ByteArray := prog_5_method_12_code
abbrev yX3_set : MethodName := ⟨"ListWeaveModel", "set", "(IIII)Z"⟩
abbrev cX3_remove : ByteArray := prog_5_method_13_code
abbrev yX3_remove : MethodName := ⟨"ListWeaveModel", "remove", "(II)Z"⟩
abbrev cX3_isRemoved : ByteArray := prog_5_method_14_code
abbrev yX3_isRemoved : MethodName := ⟨"ListWeaveModel", "isRemoved", "(I)Z"⟩
abbrev cX3_standing : ByteArray := prog_5_method_15_code
abbrev yX3_standing : MethodName := ⟨"ListWeaveModel", "standing", "(I)I"⟩
abbrev cX3_kindOf : ByteArray := prog_5_method_16_code
abbrev yX3_kindOf : MethodName := ⟨"ListWeaveModel", "kindOf", "(I)I"⟩
abbrev cX3_valueOf : ByteArray := prog_5_method_17_code
abbrev yX3_valueOf : MethodName := ⟨"ListWeaveModel", "valueOf", "(I)I"⟩
abbrev cX3_push : ByteArray := prog_5_method_18_code
abbrev yX3_push : MethodName := ⟨"ListWeaveModel", "push", "(II)I"⟩
abbrev cX3_weave : ByteArray := prog_5_method_19_code
abbrev yX3_weave : MethodName := ⟨"ListWeaveModel", "weave", "()V"⟩
abbrev cX3_elementAt : ByteArray := prog_5_method_20_code
abbrev yX3_elementAt : MethodName := ⟨"ListWeaveModel", "elementAt", "(I)I"⟩
abbrev cX3_sizeOf : ByteArray := prog_5_method_21_code
abbrev yX3_sizeOf : MethodName := ⟨"ListWeaveModel", "sizeOf", "()I"⟩
abbrev cX3_size : ByteArray := prog_5_method_22_code
abbrev yX3_size : MethodName := ⟨"ListWeaveModel", "size", "()I"⟩
abbrev cX3_idStanding : ByteArray := prog_5_method_23_code
abbrev yX3_idStanding : MethodName := ⟨"ListWeaveModel", "idStanding", "(I)I"⟩
abbrev cX3_at : ByteArray := prog_5_method_24_code
abbrev yX3_at : MethodName := ⟨"ListWeaveModel", "at", "(II)I"⟩
abbrev cX3_aheadOf : ByteArray := prog_5_method_25_code
abbrev yX3_aheadOf : MethodName := ⟨"ListWeaveModel", "aheadOf", "(I)I"⟩
abbrev cX3_place : ByteArray := prog_5_method_26_code
abbrev yX3_place : MethodName := ⟨"ListWeaveModel", "place", "(I)I"⟩
abbrev cX3_ahead : ByteArray := prog_5_method_27_code
abbrev yX3_ahead : MethodName := ⟨"ListWeaveModel", "ahead", "(I)I"⟩
abbrev cX3_rowOf : ByteArray := prog_5_method_28_code
abbrev yX3_rowOf : MethodName := ⟨"ListWeaveModel", "rowOf", "(I)I"⟩
abbrev cX3_before : ByteArray := prog_5_method_29_code
abbrev yX3_before : MethodName := ⟨"ListWeaveModel", "before", "(II)Z"⟩
abbrev cX3_row : ByteArray := prog_5_method_30_code
abbrev yX3_row : MethodName := ⟨"ListWeaveModel", "row", "(I)I"⟩
abbrev cX3_counted : ByteArray := prog_5_method_31_code
abbrev yX3_counted : MethodName := ⟨"ListWeaveModel", "counted", "(II)I"⟩
abbrev cX3_of : ByteArray := prog_5_method_32_code
abbrev yX3_of : MethodName := ⟨"ListWeaveModel", "of", "(II)I"⟩
abbrev cX3_sum : ByteArray := prog_5_method_33_code
abbrev yX3_sum : MethodName := ⟨"ListWeaveModel", "sum", "(II)J"⟩
abbrev cX3_deepest : ByteArray := prog_5_method_34_code
abbrev yX3_deepest : MethodName := ⟨"ListWeaveModel", "deepest", "()I"⟩
abbrev cX3_greatest : ByteArray := prog_5_method_35_code
abbrev yX3_greatest : MethodName := ⟨"ListWeaveModel", "greatest", "()I"⟩
abbrev cX3_look : ByteArray := prog_5_method_36_code
abbrev yX3_look : MethodName := ⟨"ListWeaveModel", "look", "(I)I"⟩
abbrev cX0_init : ByteArray := prog_2_method_1_code
abbrev yX0_init : MethodName := ⟨"ListWeave$Element", "<init>", "(III)V"⟩
abbrev cX0_isVisible : ByteArray := prog_2_method_2_code
abbrev yX0_isVisible : MethodName := ⟨"ListWeave$Element", "isVisible", "()Z"⟩
abbrev cX0_offer : ByteArray := prog_2_method_3_code
abbrev yX0_offer : MethodName := ⟨"ListWeave$Element", "offer", "(III)V"⟩
abbrev cX1_init : ByteArray := prog_3_method_1_code
abbrev yX1_init : MethodName := ⟨"ListWeave$UsedIds", "<init>", "()V"⟩
abbrev cX1_forgetAll : ByteArray := prog_3_method_2_code
abbrev yX1_forgetAll : MethodName := ⟨"ListWeave$UsedIds", "forgetAll", "()V"⟩
abbrev cX1_has : ByteArray := prog_3_method_3_code
abbrev yX1_has : MethodName := ⟨"ListWeave$UsedIds", "has", "(I)Z"⟩
abbrev cX1_note : ByteArray := prog_3_method_4_code
abbrev yX1_note : MethodName := ⟨"ListWeave$UsedIds", "note", "(I)V"⟩
abbrev cX1_greatest : ByteArray := prog_3_method_5_code
abbrev yX1_greatest : MethodName := ⟨"ListWeave$UsedIds", "greatest", "()I"⟩
abbrev cX1_firstNotBelow : ByteArray := prog_3_method_6_code
abbrev yX1_firstNotBelow : MethodName := ⟨"ListWeave$UsedIds", "firstNotBelow", "(I)I"⟩
abbrev cL_at : ByteArray := method_3_code
abbrev yL_at : MethodName := ⟨"ListWeaveLaw", "at", "(LListWeave;II[J)I"⟩
abbrev cL_ahead : ByteArray := method_4_code
abbrev yL_ahead : MethodName := ⟨"ListWeaveLaw", "ahead", "(LListWeave;I[J)I"⟩
abbrev cL_before : ByteArray := method_5_code
abbrev yL_before : MethodName := ⟨"ListWeaveLaw", "before", "(LListWeave;II[J)I"⟩
abbrev cL_row : ByteArray := method_6_code
abbrev yL_row : MethodName := ⟨"ListWeaveLaw", "row", "(LListWeave;I[J)I"⟩
abbrev cL_of : ByteArray := method_7_code
abbrev yL_of : MethodName := ⟨"ListWeaveLaw", "of", "(LListWeave;II[J)I"⟩
abbrev cL_law : ByteArray := code
abbrev yL_law : MethodName := ⟨"ListWeaveLaw", "law", "([I)Z"⟩
/-- the good words of the tables: one list for every method -/
def gw : List Cond := lw_tbl.filter goodWord
theorem gw_of {i : Nat} {w : Cond} (h : tables_1[i]? = some w) (hg : goodWord w = true) : w ∈ gw := List.mem_filter.mpr ⟨List.mem_append_right _ (List.mem_of_getElem? h), hg⟩
theorem gw_pr {i : Nat} {q : MethodName × Nat} (h : lw_privs[i]? = some q) : Cond.selects q.1.cls q.1 q.1 ∈ gw := List.mem_filter.mpr ⟨List.mem_append_left _ (List.mem_map.mpr ⟨q, List.mem_of_getElem? h, rfl⟩), rfl⟩
theorem gw_in : ∀ w ∈ gw, w ∈ lw_tbl := fun _ h => (List.mem_filter.mp h).1
theorem gw_good : ∀ w ∈ gw, goodWord w = true := fun _ h => (List.mem_filter.mp h).2
theorem wk_0 : (Jvm.Cond.initialized "ListWeaveLaw") ∈ gw := gw_of (i := 0) (by decide +kernel) (by decide +kernel)
theorem wk_1 : (Jvm.Cond.initialized "ListWeave") ∈ gw := gw_of (i := 1) (by decide +kernel) (by decide +kernel)
theorem wk_2 : (Jvm.Cond.initialized "ListWeave$UsedIds") ∈ gw := gw_of (i := 2) (by decide +kernel) (by decide +kernel)
theorem wk_3 : (Jvm.Cond.initialized "ListWeave$Element") ∈ gw := gw_of (i := 3) (by decide +kernel) (by decide +kernel)
theorem wk_4 : (Jvm.Cond.initialized "ListWeaveModel") ∈ gw := gw_of (i := 4) (by decide +kernel) (by decide +kernel)
theorem wk_5 : (Jvm.Cond.initialized "java/lang/System") ∈ gw := gw_of (i := 5) (by decide +kernel) (by decide +kernel)
theorem wk_6 : (Jvm.Cond.initialized "java/lang/Throwable") ∈ gw := gw_of (i := 6) (by decide +kernel) (by decide +kernel)
theorem wk_7 : (Jvm.Cond.initialized "java/lang/Exception") ∈ gw := gw_of (i := 7) (by decide +kernel) (by decide +kernel)
theorem wk_8 : (Jvm.Cond.initialized "java/lang/RuntimeException") ∈ gw := gw_of (i := 8) (by decide +kernel) (by decide +kernel)
theorem wk_9 : (Jvm.Cond.initialized "java/lang/IndexOutOfBoundsException") ∈ gw := gw_of (i := 9) (by decide +kernel) (by decide +kernel)
theorem wk_10 : (Jvm.Cond.initialized "java/lang/IllegalArgumentException") ∈ gw := gw_of (i := 10) (by decide +kernel) (by decide +kernel)
theorem wk_11 : (Jvm.Cond.initialized "java/lang/Math") ∈ gw := gw_of (i := 11) (by decide +kernel) (by decide +kernel)
theorem wk_12 : (Jvm.Cond.classLink "ListWeaveLaw" (8 : Nat) "ListWeave") ∈ gw := gw_of (i := 12) (by decide +kernel) (by decide +kernel)
theorem wk_13 : (Jvm.Cond.instantiable "ListWeave" (5 : Nat)) ∈ gw := gw_of (i := 13) (by decide +kernel) (by decide +kernel)
theorem wk_14 : (Jvm.Cond.methodLink "ListWeaveLaw" (31 : Nat) ({ cls := "ListWeave", name := "<init>", desc := "()V" } : Jvm.MethodName)) ∈ gw := gw_of (i := 14) (by decide +kernel) (by decide +kernel)
theorem wk_15 : (Jvm.Cond.instanceMethod ({ cls := "ListWeave", name := "<init>", desc := "()V" } : Jvm.MethodName)) ∈ gw := gw_of (i := 15) (by decide +kernel) (by decide +kernel)
theorem wk_16 : (Jvm.Cond.code ({ cls := "ListWeave", name := "<init>", desc := "()V" } : Jvm.MethodName) prog_1_method_1_code (1 : Nat) (Option.none : Option Jvm.ClassFile.FieldType)) ∈ gw := gw_of (i := 16) (by decide +kernel) (by decide +kernel)
theorem wk_17 : (Jvm.Cond.methodLink "ListWeave" (1 : Nat) ({ cls := "java/lang/Object", name := "<init>", desc := "()V" } : Jvm.MethodName)) ∈ gw := gw_of (i := 17) (by decide +kernel) (by decide +kernel)
theorem wk_18 : (Jvm.Cond.instanceMethod ({ cls := "java/lang/Object", name := "<init>", desc := "()V" } : Jvm.MethodName)) ∈ gw := gw_of (i := 18) (by decide +kernel) (by decide +kernel)
theorem wk_19 : (Jvm.Cond.code ({ cls := "java/lang/Object", name := "<init>", desc := "()V" } : Jvm.MethodName) object_method_1_code (1 : Nat) (Option.none : Option Jvm.ClassFile.FieldType)) ∈ gw := gw_of (i := 19) (by decide +kernel) (by decide +kernel)
theorem wk_20 : (Jvm.Cond.classLink "ListWeave" (7 : Nat) "ListWeave$UsedIds") ∈ gw := gw_of (i := 20) (by decide +kernel) (by decide +kernel)
theorem wk_21 : (Jvm.Cond.instantiable "ListWeave$UsedIds" (2 : Nat)) ∈ gw := gw_of (i := 21) (by decide +kernel) (by decide +kernel)
theorem wk_23 : (Jvm.Cond.instanceMethod ({ cls := "ListWeave$UsedIds", name := "<init>", desc := "()V" } : Jvm.MethodName)) ∈ gw := gw_of (i := 23) (by decide +kernel) (by decide +kernel)
theorem wk_24 : (Jvm.Cond.code ({ cls := "ListWeave$UsedIds", name := "<init>", desc := "()V" } : Jvm.MethodName) prog_3_method_1_code (1 : Nat) (Option.none : Option Jvm.ClassFile.FieldType)) ∈ gw := gw_of (i := 24) (by decide +kernel) (by decide +kernel)
theorem wk_25 : (Jvm.Cond.methodLink "ListWeave$UsedIds" (3 : Nat) ({ cls := "java/lang/Object", name := "<init>", desc := "()V" } : Jvm.MethodName)) ∈ gw := gw_of (i := 25) (by decide +kernel) (by decide +kernel)
theorem wk_26 : (Jvm.Cond.fieldLink "ListWeave$UsedIds" (9 : Nat) "ListWeave$UsedIds" "ids" "[I") ∈ gw := gw_of (i := 26) (by decide +kernel) (by decide +kernel)
theorem wk_27 : (Jvm.Cond.fieldLink "ListWeave$UsedIds" (15 : Nat) "ListWeave$UsedIds" "count" "I") ∈ gw := gw_of (i := 27) (by decide +kernel) (by decide +kernel)
theorem wk_28 : (Jvm.Cond.laysFinal "ListWeave$UsedIds" "ListWeave$UsedIds" "ids" "[I") ∈ gw := gw_of (i := 28) (by decide +kernel) (by decide +kernel)
theorem wk_30 : (Jvm.Cond.lays "ListWeave$UsedIds" "ListWeave$UsedIds" "count" "I") ∈ gw := gw_of (i := 30) (by decide +kernel) (by decide +kernel)
theorem wk_33 : (Jvm.Cond.arrayClass Jvm.ClassFile.FieldType.int) ∈ gw := gw_of (i := 33) (by decide +kernel) (by decide +kernel)
theorem wk_34 : (Jvm.Cond.classLink "ListWeave" (16 : Nat) "ListWeave$Element") ∈ gw := gw_of (i := 34) (by decide +kernel) (by decide +kernel)
theorem wk_35 : (Jvm.Cond.instantiable "ListWeave$Element" (9 : Nat)) ∈ gw := gw_of (i := 35) (by decide +kernel) (by decide +kernel)
theorem wk_37 : (Jvm.Cond.instanceMethod ({ cls := "ListWeave$Element", name := "<init>", desc := "(III)V" } : Jvm.MethodName)) ∈ gw := gw_of (i := 37) (by decide +kernel) (by decide +kernel)
theorem wk_38 : (Jvm.Cond.code ({ cls := "ListWeave$Element", name := "<init>", desc := "(III)V" } : Jvm.MethodName) prog_2_method_1_code (4 : Nat) (Option.none : Option Jvm.ClassFile.FieldType)) ∈ gw := gw_of (i := 38) (by decide +kernel) (by decide +kernel)
theorem wk_39 : (Jvm.Cond.methodLink "ListWeave$Element" (3 : Nat) ({ cls := "java/lang/Object", name := "<init>", desc := "()V" } : Jvm.MethodName)) ∈ gw := gw_of (i := 39) (by decide +kernel) (by decide +kernel)
theorem wk_40 : (Jvm.Cond.fieldLink "ListWeave$Element" (9 : Nat) "ListWeave$Element" "id" "I") ∈ gw := gw_of (i := 40) (by decide +kernel) (by decide +kernel)
theorem wk_42 : (Jvm.Cond.fieldLink "ListWeave$Element" (15 : Nat) "ListWeave$Element" "behind" "I") ∈ gw := gw_of (i := 42) (by decide +kernel) (by decide +kernel)
theorem wk_44 : (Jvm.Cond.fieldLink "ListWeave$Element" (18 : Nat) "ListWeave$Element" "way" "I") ∈ gw := gw_of (i := 44) (by decide +kernel) (by decide +kernel)
theorem wk_46 : (Jvm.Cond.fieldLink "ListWeave$Element" (21 : Nat) "ListWeave$Element" "followers" "I") ∈ gw := gw_of (i := 46) (by decide +kernel) (by decide +kernel)
theorem wk_48 : (Jvm.Cond.fieldLink "ListWeave$Element" (24 : Nat) "ListWeave$Element" "sets" "I") ∈ gw := gw_of (i := 48) (by decide +kernel) (by decide +kernel)
theorem wk_50 : (Jvm.Cond.fieldLink "ListWeave$Element" (27 : Nat) "ListWeave$Element" "removes" "I") ∈ gw := gw_of (i := 50) (by decide +kernel) (by decide +kernel)
theorem wk_52 : (Jvm.Cond.fieldLink "ListWeave$Element" (30 : Nat) "ListWeave$Element" "standing" "I") ∈ gw := gw_of (i := 52) (by decide +kernel) (by decide +kernel)
theorem wk_54 : (Jvm.Cond.fieldLink "ListWeave$Element" (33 : Nat) "ListWeave$Element" "kind" "I") ∈ gw := gw_of (i := 54) (by decide +kernel) (by decide +kernel)
theorem wk_56 : (Jvm.Cond.fieldLink "ListWeave$Element" (36 : Nat) "ListWeave$Element" "value" "I") ∈ gw := gw_of (i := 56) (by decide +kernel) (by decide +kernel)
theorem wk_58 : (Jvm.Cond.laysFinal "ListWeave$Element" "ListWeave$Element" "id" "I") ∈ gw := gw_of (i := 58) (by decide +kernel) (by decide +kernel)
theorem wk_60 : (Jvm.Cond.laysFinal "ListWeave$Element" "ListWeave$Element" "behind" "I") ∈ gw := gw_of (i := 60) (by decide +kernel) (by decide +kernel)
theorem wk_62 : (Jvm.Cond.laysFinal "ListWeave$Element" "ListWeave$Element" "way" "I") ∈ gw := gw_of (i := 62) (by decide +kernel) (by decide +kernel)
theorem wk_64 : (Jvm.Cond.lays "ListWeave$Element" "ListWeave$Element" "followers" "I") ∈ gw := gw_of (i := 64) (by decide +kernel) (by decide +kernel)
theorem wk_66 : (Jvm.Cond.lays "ListWeave$Element" "ListWeave$Element" "sets" "I") ∈ gw := gw_of (i := 66) (by decide +kernel) (by decide +kernel)
theorem wk_68 : (Jvm.Cond.lays "ListWeave$Element" "ListWeave$Element" "removes" "I") ∈ gw := gw_of (i := 68) (by decide +kernel) (by decide +kernel)
theorem wk_70 : (Jvm.Cond.lays "ListWeave$Element" "ListWeave$Element" "standing" "I") ∈ gw := gw_of (i := 70) (by decide +kernel) (by decide +kernel)
theorem wk_72 : (Jvm.Cond.lays "ListWeave$Element" "ListWeave$Element" "kind" "I") ∈ gw := gw_of (i := 72) (by decide +kernel) (by decide +kernel)
theorem wk_74 : (Jvm.Cond.lays "ListWeave$Element" "ListWeave$Element" "value" "I") ∈ gw := gw_of (i := 74) (by decide +kernel) (by decide +kernel)
theorem wk_78 : (Jvm.Cond.fieldLink "ListWeave" (10 : Nat) "ListWeave" "used" "LListWeave$UsedIds;") ∈ gw := gw_of (i := 78) (by decide +kernel) (by decide +kernel)
theorem wk_79 : (Jvm.Cond.fieldLink "ListWeave" (21 : Nat) "ListWeave" "beginning" "LListWeave$Element;") ∈ gw := gw_of (i := 79) (by decide +kernel) (by decide +kernel)
theorem wk_80 : (Jvm.Cond.fieldLink "ListWeave" (25 : Nat) "ListWeave" "woven" "[LListWeave$Element;") ∈ gw := gw_of (i := 80) (by decide +kernel) (by decide +kernel)
theorem wk_81 : (Jvm.Cond.fieldLink "ListWeave" (29 : Nat) "ListWeave" "elements" "I") ∈ gw := gw_of (i := 81) (by decide +kernel) (by decide +kernel)
theorem wk_82 : (Jvm.Cond.fieldLink "ListWeave" (33 : Nat) "ListWeave" "changes" "I") ∈ gw := gw_of (i := 82) (by decide +kernel) (by decide +kernel)
theorem wk_83 : (Jvm.Cond.laysFinal "ListWeave" "ListWeave" "used" "LListWeave$UsedIds;") ∈ gw := gw_of (i := 83) (by decide +kernel) (by decide +kernel)
theorem wk_85 : (Jvm.Cond.laysFinal "ListWeave" "ListWeave" "beginning" "LListWeave$Element;") ∈ gw := gw_of (i := 85) (by decide +kernel) (by decide +kernel)
theorem wk_87 : (Jvm.Cond.laysFinal "ListWeave" "ListWeave" "woven" "[LListWeave$Element;") ∈ gw := gw_of (i := 87) (by decide +kernel) (by decide +kernel)
theorem wk_89 : (Jvm.Cond.lays "ListWeave" "ListWeave" "elements" "I") ∈ gw := gw_of (i := 89) (by decide +kernel) (by decide +kernel)
theorem wk_91 : (Jvm.Cond.lays "ListWeave" "ListWeave" "changes" "I") ∈ gw := gw_of (i := 91) (by decide +kernel) (by decide +kernel)
theorem wk_94 : (Jvm.Cond.methodLink "ListWeaveLaw" (35 : Nat) ({ cls := "ListWeave", name := "clear", desc := "()V" } : Jvm.MethodName)) ∈ gw := gw_of (i := 94) (by decide +kernel) (by decide +kernel)
theorem wk_95 : (Jvm.Cond.instanceMethod ({ cls := "ListWeave", name := "clear", desc := "()V" } : Jvm.MethodName)) ∈ gw := gw_of (i := 95) (by decide +kernel) (by decide +kernel)
theorem wk_96 : (Jvm.Cond.selects "ListWeave" ({ cls := "ListWeave", name := "clear", desc := "()V" } : Jvm.MethodName) ({ cls := "ListWeave", name := "clear", desc := "()V" } : Jvm.MethodName)) ∈ gw := gw_of (i := 96) (by decide +kernel) (by decide +kernel)
theorem wk_97 : (Jvm.Cond.code ({ cls := "ListWeave", name := "clear", desc := "()V" } : Jvm.MethodName) prog_1_method_2_code (1 : Nat) (Option.none : Option Jvm.ClassFile.FieldType)) ∈ gw := gw_of (i := 97) (by decide +kernel) (by decide +kernel)
theorem wk_100 : (Jvm.Cond.instanceMethod ({ cls := "ListWeave$UsedIds", name := "forgetAll", desc := "()V" } : Jvm.MethodName)) ∈ gw := gw_of (i := 100) (by decide +kernel) (by decide +kernel)
theorem wk_101 : (Jvm.Cond.code ({ cls := "ListWeave$UsedIds", name := "forgetAll", desc := "()V" } : Jvm.MethodName) prog_3_method_2_code (1 : Nat) (Option.none : Option Jvm.ClassFile.FieldType)) ∈ gw := gw_of (i := 101) (by decide +kernel) (by decide +kernel)
theorem wk_102 : (Jvm.Cond.methodLink "ListWeaveLaw" (39 : Nat) ({ cls := "ListWeave", name := "insert", desc := "(IIII)Z" } : Jvm.MethodName)) ∈ gw := gw_of (i := 102) (by decide +kernel) (by decide +kernel)
theorem wk_103 : (Jvm.Cond.instanceMethod ({ cls := "ListWeave", name := "insert", desc := "(IIII)Z" } : Jvm.MethodName)) ∈ gw := gw_of (i := 103) (by decide +kernel) (by decide +kernel)
theorem wk_104 : (Jvm.Cond.selects "ListWeave" ({ cls := "ListWeave", name := "insert", desc := "(IIII)Z" } : Jvm.MethodName) ({ cls := "ListWeave", name := "insert", desc := "(IIII)Z" } : Jvm.MethodName)) ∈ gw := gw_of (i := 104) (by decide +kernel) (by decide +kernel)
theorem wk_105 : (Jvm.Cond.code ({ cls := "ListWeave", name := "insert", desc := "(IIII)Z" } : Jvm.MethodName) prog_1_method_3_code (6 : Nat) (Option.some Jvm.ClassFile.FieldType.boolean)) ∈ gw := gw_of (i := 105) (by decide +kernel) (by decide +kernel)
theorem wk_106 : (Jvm.Cond.methodLink "ListWeave" (42 : Nat) ({ cls := "ListWeave", name := "elementOrBeginning", desc := "(I)LListWeave$Element;" } : Jvm.MethodName)) ∈ gw := gw_of (i := 106) (by decide +kernel) (by decide +kernel)
theorem wk_108 : (Jvm.Cond.instanceMethod ({ cls := "ListWeave", name := "elementOrBeginning", desc := "(I)LListWeave$Element;" } : Jvm.MethodName)) ∈ gw := gw_of (i := 108) (by decide +kernel) (by decide +kernel)
theorem wk_109 : (Jvm.Cond.code ({ cls := "ListWeave", name := "elementOrBeginning", desc := "(I)LListWeave$Element;" } : Jvm.MethodName) prog_1_method_26_code (2 : Nat) (Option.some (Jvm.ClassFile.FieldType.object "ListWeave$Element"))) ∈ gw := gw_of (i := 109) (by decide +kernel) (by decide +kernel)
theorem wk_110 : (Jvm.Cond.methodLink "ListWeave" (65 : Nat) ({ cls := "ListWeave", name := "elementOf", desc := "(I)LListWeave$Element;" } : Jvm.MethodName)) ∈ gw := gw_of (i := 110) (by decide +kernel) (by decide +kernel)
theorem wk_112 : (Jvm.Cond.instanceMethod ({ cls := "ListWeave", name := "elementOf", desc := "(I)LListWeave$Element;" } : Jvm.MethodName)) ∈ gw := gw_of (i := 112) (by decide +kernel) (by decide +kernel)
theorem wk_113 : (Jvm.Cond.code ({ cls := "ListWeave", name := "elementOf", desc := "(I)LListWeave$Element;" } : Jvm.MethodName) prog_1_method_25_code (3 : Nat) (Option.some (Jvm.ClassFile.FieldType.object "ListWeave$Element"))) ∈ gw := gw_of (i := 113) (by decide +kernel) (by decide +kernel)
theorem wk_114 : (Jvm.Cond.methodLink "ListWeave" (112 : Nat) ({ cls := "ListWeave", name := "rowOf", desc := "(I)I" } : Jvm.MethodName)) ∈ gw := gw_of (i := 114) (by decide +kernel) (by decide +kernel)
theorem wk_116 : (Jvm.Cond.instanceMethod ({ cls := "ListWeave", name := "rowOf", desc := "(I)I" } : Jvm.MethodName)) ∈ gw := gw_of (i := 116) (by decide +kernel) (by decide +kernel)
theorem wk_117 : (Jvm.Cond.code ({ cls := "ListWeave", name := "rowOf", desc := "(I)I" } : Jvm.MethodName) prog_1_method_24_code (3 : Nat) (Option.some Jvm.ClassFile.FieldType.int)) ∈ gw := gw_of (i := 117) (by decide +kernel) (by decide +kernel)
theorem wk_118 : (Jvm.Cond.methodLink "ListWeave" (46 : Nat) ({ cls := "ListWeave", name := "isFree", desc := "(I)Z" } : Jvm.MethodName)) ∈ gw := gw_of (i := 118) (by decide +kernel) (by decide +kernel)
theorem wk_120 : (Jvm.Cond.instanceMethod ({ cls := "ListWeave", name := "isFree", desc := "(I)Z" } : Jvm.MethodName)) ∈ gw := gw_of (i := 120) (by decide +kernel) (by decide +kernel)
theorem wk_121 : (Jvm.Cond.code ({ cls := "ListWeave", name := "isFree", desc := "(I)Z" } : Jvm.MethodName) prog_1_method_16_code (2 : Nat) (Option.some Jvm.ClassFile.FieldType.boolean)) ∈ gw := gw_of (i := 121) (by decide +kernel) (by decide +kernel)
theorem wk_122 : (Jvm.Cond.constant "ListWeave" (138 : Nat) (800007 : Int32)) ∈ gw := gw_of (i := 122) (by decide +kernel) (by decide +kernel)
theorem wk_125 : (Jvm.Cond.instanceMethod ({ cls := "ListWeave$UsedIds", name := "has", desc := "(I)Z" } : Jvm.MethodName)) ∈ gw := gw_of (i := 125) (by decide +kernel) (by decide +kernel)
theorem wk_126 : (Jvm.Cond.code ({ cls := "ListWeave$UsedIds", name := "has", desc := "(I)Z" } : Jvm.MethodName) prog_3_method_3_code (3 : Nat) (Option.some Jvm.ClassFile.FieldType.boolean)) ∈ gw := gw_of (i := 126) (by decide +kernel) (by decide +kernel)
theorem wk_127 : (Jvm.Cond.methodLink "ListWeave$UsedIds" (19 : Nat) ({ cls := "ListWeave$UsedIds", name := "firstNotBelow", desc := "(I)I" } : Jvm.MethodName)) ∈ gw := gw_of (i := 127) (by decide +kernel) (by decide +kernel)
theorem wk_129 : (Jvm.Cond.instanceMethod ({ cls := "ListWeave$UsedIds", name := "firstNotBelow", desc := "(I)I" } : Jvm.MethodName)) ∈ gw := gw_of (i := 129) (by decide +kernel) (by decide +kernel)
theorem wk_130 : (Jvm.Cond.code ({ cls := "ListWeave$UsedIds", name := "firstNotBelow", desc := "(I)I" } : Jvm.MethodName) prog_3_method_6_code (5 : Nat) (Option.some Jvm.ClassFile.FieldType.int)) ∈ gw := gw_of (i := 130) (by decide +kernel) (by decide +kernel)
theorem wk_131 : (Jvm.Cond.methodLink "ListWeave" (50 : Nat) ({ cls := "ListWeave", name := "isKind", desc := "(I)Z" } : Jvm.MethodName)) ∈ gw := gw_of (i := 131) (by decide +kernel) (by decide +kernel)
theorem wk_132 : (Jvm.Cond.static ({ cls := "ListWeave", name := "isKind", desc := "(I)Z" } : Jvm.MethodName)) ∈ gw := gw_of (i := 132) (by decide +kernel) (by decide +kernel)
theorem wk_133 : (Jvm.Cond.code ({ cls := "ListWeave", name := "isKind", desc := "(I)Z" } : Jvm.MethodName) prog_1_method_18_code (1 : Nat) (Option.some Jvm.ClassFile.FieldType.boolean)) ∈ gw := gw_of (i := 133) (by decide +kernel) (by decide +kernel)
theorem wk_134 : (Jvm.Cond.methodLink "ListWeave" (53 : Nat) ({ cls := "ListWeave", name := "weave", desc := "(ILListWeave$Element;II)LListWeave$Element;" } : Jvm.MethodName)) ∈ gw := gw_of (i := 134) (by decide +kernel) (by decide +kernel)
theorem wk_136 : (Jvm.Cond.instanceMethod ({ cls := "ListWeave", name := "weave", desc := "(ILListWeave$Element;II)LListWeave$Element;" } : Jvm.MethodName)) ∈ gw := gw_of (i := 136) (by decide +kernel) (by decide +kernel)
theorem wk_137 : (Jvm.Cond.code ({ cls := "ListWeave", name := "weave", desc := "(ILListWeave$Element;II)LListWeave$Element;" } : Jvm.MethodName) prog_1_method_22_code (7 : Nat) (Option.some (Jvm.ClassFile.FieldType.object "ListWeave$Element"))) ∈ gw := gw_of (i := 137) (by decide +kernel) (by decide +kernel)
theorem wk_138 : (Jvm.Cond.methodLink "ListWeave" (147 : Nat) ({ cls := "ListWeave", name := "rowForNew", desc := "(ILListWeave$Element;)I" } : Jvm.MethodName)) ∈ gw := gw_of (i := 138) (by decide +kernel) (by decide +kernel)
theorem wk_140 : (Jvm.Cond.instanceMethod ({ cls := "ListWeave", name := "rowForNew", desc := "(ILListWeave$Element;)I" } : Jvm.MethodName)) ∈ gw := gw_of (i := 140) (by decide +kernel) (by decide +kernel)
theorem wk_141 : (Jvm.Cond.code ({ cls := "ListWeave", name := "rowForNew", desc := "(ILListWeave$Element;)I" } : Jvm.MethodName) prog_1_method_23_code (4 : Nat) (Option.some Jvm.ClassFile.FieldType.int)) ∈ gw := gw_of (i := 141) (by decide +kernel) (by decide +kernel)
theorem wk_144 : (Jvm.Cond.instanceMethod ({ cls := "ListWeave$Element", name := "offer", desc := "(III)V" } : Jvm.MethodName)) ∈ gw := gw_of (i := 144) (by decide +kernel) (by decide +kernel)
theorem wk_145 : (Jvm.Cond.code ({ cls := "ListWeave$Element", name := "offer", desc := "(III)V" } : Jvm.MethodName) prog_2_method_3_code (4 : Nat) (Option.none : Option Jvm.ClassFile.FieldType)) ∈ gw := gw_of (i := 145) (by decide +kernel) (by decide +kernel)
theorem wk_148 : (Jvm.Cond.instanceMethod ({ cls := "ListWeave$UsedIds", name := "note", desc := "(I)V" } : Jvm.MethodName)) ∈ gw := gw_of (i := 148) (by decide +kernel) (by decide +kernel)
theorem wk_149 : (Jvm.Cond.code ({ cls := "ListWeave$UsedIds", name := "note", desc := "(I)V" } : Jvm.MethodName) prog_3_method_4_code (3 : Nat) (Option.none : Option Jvm.ClassFile.FieldType)) ∈ gw := gw_of (i := 149) (by decide +kernel) (by decide +kernel)
theorem wk_150 : (Jvm.Cond.methodLink "ListWeave$UsedIds" (23 : Nat) ({ cls := "java/lang/System", name := "arraycopy", desc := "(Ljava/lang/Object;ILjava/lang/Object;II)V" } : Jvm.MethodName)) ∈ gw := gw_of (i := 150) (by decide +kernel) (by decide +kernel)
theorem wk_151 : (Jvm.Cond.static ({ cls := "java/lang/System", name := "arraycopy", desc := "(Ljava/lang/Object;ILjava/lang/Object;II)V" } : Jvm.MethodName)) ∈ gw := gw_of (i := 151) (by decide +kernel) (by decide +kernel)
theorem wk_152 : (Jvm.Cond.native ({ cls := "java/lang/System", name := "arraycopy", desc := "(Ljava/lang/Object;ILjava/lang/Object;II)V" } : Jvm.MethodName)) ∈ gw := gw_of (i := 152) (by decide +kernel) (by decide +kernel)
theorem wk_153 : (Jvm.Cond.methodLink "ListWeaveLaw" (46 : Nat) ({ cls := "ListWeave", name := "run", desc := "(IIIJ)Z" } : Jvm.MethodName)) ∈ gw := gw_of (i := 153) (by decide +kernel) (by decide +kernel)
theorem wk_154 : (Jvm.Cond.instanceMethod ({ cls := "ListWeave", name := "run", desc := "(IIIJ)Z" } : Jvm.MethodName)) ∈ gw := gw_of (i := 154) (by decide +kernel) (by decide +kernel)
theorem wk_155 : (Jvm.Cond.selects "ListWeave" ({ cls := "ListWeave", name := "run", desc := "(IIIJ)Z" } : Jvm.MethodName) ({ cls := "ListWeave", name := "run", desc := "(IIIJ)Z" } : Jvm.MethodName)) ∈ gw := gw_of (i := 155) (by decide +kernel) (by decide +kernel)
theorem wk_156 : (Jvm.Cond.code ({ cls := "ListWeave", name := "run", desc := "(IIIJ)Z" } : Jvm.MethodName) prog_1_method_4_code (8 : Nat) (Option.some Jvm.ClassFile.FieldType.boolean)) ∈ gw := gw_of (i := 156) (by decide +kernel) (by decide +kernel)
theorem wk_157 : (Jvm.Cond.methodLink "ListWeave" (57 : Nat) ({ cls := "ListWeave", name := "areFree", desc := "(II)Z" } : Jvm.MethodName)) ∈ gw := gw_of (i := 157) (by decide +kernel) (by decide +kernel)
theorem wk_159 : (Jvm.Cond.instanceMethod ({ cls := "ListWeave", name := "areFree", desc := "(II)Z" } : Jvm.MethodName)) ∈ gw := gw_of (i := 159) (by decide +kernel) (by decide +kernel)
theorem wk_160 : (Jvm.Cond.code ({ cls := "ListWeave", name := "areFree", desc := "(II)Z" } : Jvm.MethodName) prog_1_method_17_code (4 : Nat) (Option.some Jvm.ClassFile.FieldType.boolean)) ∈ gw := gw_of (i := 160) (by decide +kernel) (by decide +kernel)
theorem wk_161 : (Jvm.Cond.methodLink "ListWeave" (61 : Nat) ({ cls := "ListWeave", name := "byteOf", desc := "(JI)I" } : Jvm.MethodName)) ∈ gw := gw_of (i := 161) (by decide +kernel) (by decide +kernel)
theorem wk_162 : (Jvm.Cond.static ({ cls := "ListWeave", name := "byteOf", desc := "(JI)I" } : Jvm.MethodName)) ∈ gw := gw_of (i := 162) (by decide +kernel) (by decide +kernel)
theorem wk_163 : (Jvm.Cond.code ({ cls := "ListWeave", name := "byteOf", desc := "(JI)I" } : Jvm.MethodName) prog_1_method_21_code (3 : Nat) (Option.some Jvm.ClassFile.FieldType.int)) ∈ gw := gw_of (i := 163) (by decide +kernel) (by decide +kernel)
theorem wk_164 : (Jvm.Cond.constantLong "ListWeave" (145 : Nat) (255 : Int64)) ∈ gw := gw_of (i := 164) (by decide +kernel) (by decide +kernel)
theorem wk_165 : (Jvm.Cond.methodLink "ListWeaveLaw" (51 : Nat) ({ cls := "ListWeave", name := "set", desc := "(IIII)Z" } : Jvm.MethodName)) ∈ gw := gw_of (i := 165) (by decide +kernel) (by decide +kernel)
theorem wk_166 : (Jvm.Cond.instanceMethod ({ cls := "ListWeave", name := "set", desc := "(IIII)Z" } : Jvm.MethodName)) ∈ gw := gw_of (i := 166) (by decide +kernel) (by decide +kernel)
theorem wk_167 : (Jvm.Cond.selects "ListWeave" ({ cls := "ListWeave", name := "set", desc := "(IIII)Z" } : Jvm.MethodName) ({ cls := "ListWeave", name := "set", desc := "(IIII)Z" } : Jvm.MethodName)) ∈ gw := gw_of (i := 167) (by decide +kernel) (by decide +kernel)
theorem wk_168 : (Jvm.Cond.code ({ cls := "ListWeave", name := "set", desc := "(IIII)Z" } : Jvm.MethodName) prog_1_method_5_code (6 : Nat) (Option.some Jvm.ClassFile.FieldType.boolean)) ∈ gw := gw_of (i := 168) (by decide +kernel) (by decide +kernel)
theorem wk_169 : (Jvm.Cond.methodLink "ListWeave" (68 : Nat) ({ cls := "ListWeave", name := "mayChange", desc := "(II)Z" } : Jvm.MethodName)) ∈ gw := gw_of (i := 169) (by decide +kernel) (by decide +kernel)
theorem wk_171 : (Jvm.Cond.instanceMethod ({ cls := "ListWeave", name := "mayChange", desc := "(II)Z" } : Jvm.MethodName)) ∈ gw := gw_of (i := 171) (by decide +kernel) (by decide +kernel)
theorem wk_172 : (Jvm.Cond.code ({ cls := "ListWeave", name := "mayChange", desc := "(II)Z" } : Jvm.MethodName) prog_1_method_19_code (3 : Nat) (Option.some Jvm.ClassFile.FieldType.boolean)) ∈ gw := gw_of (i := 172) (by decide +kernel) (by decide +kernel)
theorem wk_173 : (Jvm.Cond.methodLink "ListWeave" (71 : Nat) ({ cls := "ListWeave", name := "countChange", desc := "(I)V" } : Jvm.MethodName)) ∈ gw := gw_of (i := 173) (by decide +kernel) (by decide +kernel)
theorem wk_175 : (Jvm.Cond.instanceMethod ({ cls := "ListWeave", name := "countChange", desc := "(I)V" } : Jvm.MethodName)) ∈ gw := gw_of (i := 175) (by decide +kernel) (by decide +kernel)
theorem wk_176 : (Jvm.Cond.code ({ cls := "ListWeave", name := "countChange", desc := "(I)V" } : Jvm.MethodName) prog_1_method_20_code (2 : Nat) (Option.none : Option Jvm.ClassFile.FieldType)) ∈ gw := gw_of (i := 176) (by decide +kernel) (by decide +kernel)
theorem wk_177 : (Jvm.Cond.methodLink "ListWeaveLaw" (55 : Nat) ({ cls := "ListWeave", name := "remove", desc := "(II)Z" } : Jvm.MethodName)) ∈ gw := gw_of (i := 177) (by decide +kernel) (by decide +kernel)
theorem wk_178 : (Jvm.Cond.instanceMethod ({ cls := "ListWeave", name := "remove", desc := "(II)Z" } : Jvm.MethodName)) ∈ gw := gw_of (i := 178) (by decide +kernel) (by decide +kernel)
theorem wk_179 : (Jvm.Cond.selects "ListWeave" ({ cls := "ListWeave", name := "remove", desc := "(II)Z" } : Jvm.MethodName) ({ cls := "ListWeave", name := "remove", desc := "(II)Z" } : Jvm.MethodName)) ∈ gw := gw_of (i := 179) (by decide +kernel) (by decide +kernel)
theorem wk_180 : (Jvm.Cond.code ({ cls := "ListWeave", name := "remove", desc := "(II)Z" } : Jvm.MethodName) prog_1_method_6_code (4 : Nat) (Option.some Jvm.ClassFile.FieldType.boolean)) ∈ gw := gw_of (i := 180) (by decide +kernel) (by decide +kernel)
theorem wk_181 : (Jvm.Cond.methodLink "ListWeaveLaw" (59 : Nat) ({ cls := "ListWeave", name := "size", desc := "()I" } : Jvm.MethodName)) ∈ gw := gw_of (i := 181) (by decide +kernel) (by decide +kernel)
theorem wk_182 : (Jvm.Cond.instanceMethod ({ cls := "ListWeave", name := "size", desc := "()I" } : Jvm.MethodName)) ∈ gw := gw_of (i := 182) (by decide +kernel) (by decide +kernel)
theorem wk_183 : (Jvm.Cond.selects "ListWeave" ({ cls := "ListWeave", name := "size", desc := "()I" } : Jvm.MethodName) ({ cls := "ListWeave", name := "size", desc := "()I" } : Jvm.MethodName)) ∈ gw := gw_of (i := 183) (by decide +kernel) (by decide +kernel)
theorem wk_184 : (Jvm.Cond.code ({ cls := "ListWeave", name := "size", desc := "()I" } : Jvm.MethodName) prog_1_method_7_code (1 : Nat) (Option.some Jvm.ClassFile.FieldType.int)) ∈ gw := gw_of (i := 184) (by decide +kernel) (by decide +kernel)
theorem wk_185 : (Jvm.Cond.methodLink "ListWeave" (84 : Nat) ({ cls := "ListWeave", name := "visibleUpTo", desc := "(I)I" } : Jvm.MethodName)) ∈ gw := gw_of (i := 185) (by decide +kernel) (by decide +kernel)
theorem wk_187 : (Jvm.Cond.instanceMethod ({ cls := "ListWeave", name := "visibleUpTo", desc := "(I)I" } : Jvm.MethodName)) ∈ gw := gw_of (i := 187) (by decide +kernel) (by decide +kernel)
theorem wk_188 : (Jvm.Cond.code ({ cls := "ListWeave", name := "visibleUpTo", desc := "(I)I" } : Jvm.MethodName) prog_1_method_28_code (4 : Nat) (Option.some Jvm.ClassFile.FieldType.int)) ∈ gw := gw_of (i := 188) (by decide +kernel) (by decide +kernel)
theorem wk_191 : (Jvm.Cond.instanceMethod ({ cls := "ListWeave$Element", name := "isVisible", desc := "()Z" } : Jvm.MethodName)) ∈ gw := gw_of (i := 191) (by decide +kernel) (by decide +kernel)
theorem wk_192 : (Jvm.Cond.code ({ cls := "ListWeave$Element", name := "isVisible", desc := "()Z" } : Jvm.MethodName) prog_2_method_2_code (1 : Nat) (Option.some Jvm.ClassFile.FieldType.boolean)) ∈ gw := gw_of (i := 192) (by decide +kernel) (by decide +kernel)
theorem wk_193 : (Jvm.Cond.methodLink "ListWeaveLaw" (73 : Nat) ({ cls := "ListWeave", name := "place", desc := "(I)I" } : Jvm.MethodName)) ∈ gw := gw_of (i := 193) (by decide +kernel) (by decide +kernel)
theorem wk_194 : (Jvm.Cond.instanceMethod ({ cls := "ListWeave", name := "place", desc := "(I)I" } : Jvm.MethodName)) ∈ gw := gw_of (i := 194) (by decide +kernel) (by decide +kernel)
theorem wk_195 : (Jvm.Cond.selects "ListWeave" ({ cls := "ListWeave", name := "place", desc := "(I)I" } : Jvm.MethodName) ({ cls := "ListWeave", name := "place", desc := "(I)I" } : Jvm.MethodName)) ∈ gw := gw_of (i := 195) (by decide +kernel) (by decide +kernel)
theorem wk_196 : (Jvm.Cond.code ({ cls := "ListWeave", name := "place", desc := "(I)I" } : Jvm.MethodName) prog_1_method_9_code (3 : Nat) (Option.some Jvm.ClassFile.FieldType.int)) ∈ gw := gw_of (i := 196) (by decide +kernel) (by decide +kernel)
theorem wk_197 : (Jvm.Cond.methodLink "ListWeaveLaw" (90 : Nat) ({ cls := "ListWeave", name := "sum", desc := "(II)J" } : Jvm.MethodName)) ∈ gw := gw_of (i := 197) (by decide +kernel) (by decide +kernel)
theorem wk_198 : (Jvm.Cond.instanceMethod ({ cls := "ListWeave", name := "sum", desc := "(II)J" } : Jvm.MethodName)) ∈ gw := gw_of (i := 198) (by decide +kernel) (by decide +kernel)
theorem wk_199 : (Jvm.Cond.selects "ListWeave" ({ cls := "ListWeave", name := "sum", desc := "(II)J" } : Jvm.MethodName) ({ cls := "ListWeave", name := "sum", desc := "(II)J" } : Jvm.MethodName)) ∈ gw := gw_of (i := 199) (by decide +kernel) (by decide +kernel)
theorem wk_200 : (Jvm.Cond.code ({ cls := "ListWeave", name := "sum", desc := "(II)J" } : Jvm.MethodName) prog_1_method_14_code (8 : Nat) (Option.some Jvm.ClassFile.FieldType.long)) ∈ gw := gw_of (i := 200) (by decide +kernel) (by decide +kernel)
theorem wk_201 : (Jvm.Cond.methodLink "ListWeaveLaw" (95 : Nat) ({ cls := "ListWeave", name := "look", desc := "(I)I" } : Jvm.MethodName)) ∈ gw := gw_of (i := 201) (by decide +kernel) (by decide +kernel)
theorem wk_202 : (Jvm.Cond.instanceMethod ({ cls := "ListWeave", name := "look", desc := "(I)I" } : Jvm.MethodName)) ∈ gw := gw_of (i := 202) (by decide +kernel) (by decide +kernel)
theorem wk_203 : (Jvm.Cond.selects "ListWeave" ({ cls := "ListWeave", name := "look", desc := "(I)I" } : Jvm.MethodName) ({ cls := "ListWeave", name := "look", desc := "(I)I" } : Jvm.MethodName)) ∈ gw := gw_of (i := 203) (by decide +kernel) (by decide +kernel)
theorem wk_204 : (Jvm.Cond.code ({ cls := "ListWeave", name := "look", desc := "(I)I" } : Jvm.MethodName) prog_1_method_15_code (2 : Nat) (Option.some Jvm.ClassFile.FieldType.int)) ∈ gw := gw_of (i := 204) (by decide +kernel) (by decide +kernel)
theorem wk_207 : (Jvm.Cond.instanceMethod ({ cls := "ListWeave$UsedIds", name := "greatest", desc := "()I" } : Jvm.MethodName)) ∈ gw := gw_of (i := 207) (by decide +kernel) (by decide +kernel)
theorem wk_208 : (Jvm.Cond.code ({ cls := "ListWeave$UsedIds", name := "greatest", desc := "()I" } : Jvm.MethodName) prog_3_method_5_code (1 : Nat) (Option.some Jvm.ClassFile.FieldType.int)) ∈ gw := gw_of (i := 208) (by decide +kernel) (by decide +kernel)
theorem wk_209 : (Jvm.Cond.methodLink "ListWeave" (135 : Nat) ({ cls := "ListWeave", name := "longestWay", desc := "()I" } : Jvm.MethodName)) ∈ gw := gw_of (i := 209) (by decide +kernel) (by decide +kernel)
theorem wk_211 : (Jvm.Cond.instanceMethod ({ cls := "ListWeave", name := "longestWay", desc := "()I" } : Jvm.MethodName)) ∈ gw := gw_of (i := 211) (by decide +kernel) (by decide +kernel)
theorem wk_212 : (Jvm.Cond.code ({ cls := "ListWeave", name := "longestWay", desc := "()I" } : Jvm.MethodName) prog_1_method_29_code (3 : Nat) (Option.some Jvm.ClassFile.FieldType.int)) ∈ gw := gw_of (i := 212) (by decide +kernel) (by decide +kernel)
theorem wk_213 : (Jvm.Cond.methodLink "ListWeave" (154 : Nat) ({ cls := "java/lang/Math", name := "max", desc := "(II)I" } : Jvm.MethodName)) ∈ gw := gw_of (i := 213) (by decide +kernel) (by decide +kernel)
theorem wk_214 : (Jvm.Cond.static ({ cls := "java/lang/Math", name := "max", desc := "(II)I" } : Jvm.MethodName)) ∈ gw := gw_of (i := 214) (by decide +kernel) (by decide +kernel)
theorem wk_215 : (Jvm.Cond.code ({ cls := "java/lang/Math", name := "max", desc := "(II)I" } : Jvm.MethodName) prog_9_method_65_code (2 : Nat) (Option.some Jvm.ClassFile.FieldType.int)) ∈ gw := gw_of (i := 215) (by decide +kernel) (by decide +kernel)
theorem wk_216 : (Jvm.Cond.methodLink "ListWeaveLaw" (64 : Nat) ({ cls := "ListWeaveLaw", name := "at", desc := "(LListWeave;II[J)I" } : Jvm.MethodName)) ∈ gw := gw_of (i := 216) (by decide +kernel) (by decide +kernel)
theorem wk_217 : (Jvm.Cond.static ({ cls := "ListWeaveLaw", name := "at", desc := "(LListWeave;II[J)I" } : Jvm.MethodName)) ∈ gw := gw_of (i := 217) (by decide +kernel) (by decide +kernel)
theorem wk_218 : (Jvm.Cond.codeWith ({ cls := "ListWeaveLaw", name := "at", desc := "(LListWeave;II[J)I" } : Jvm.MethodName) method_3_code (5 : Nat) (Option.some Jvm.ClassFile.FieldType.int) [((0 : Nat), (10 : Nat), (13 : Nat), (13 : Nat))]) ∈ gw := gw_of (i := 218) (by decide +kernel) (by decide +kernel)
theorem wk_219 : (Jvm.Cond.classLink "ListWeaveLaw" (13 : Nat) "java/lang/IndexOutOfBoundsException") ∈ gw := gw_of (i := 219) (by decide +kernel) (by decide +kernel)
theorem wk_220 : (Jvm.Cond.methodLink "ListWeaveLaw" (7 : Nat) ({ cls := "ListWeave", name := "at", desc := "(II)I" } : Jvm.MethodName)) ∈ gw := gw_of (i := 220) (by decide +kernel) (by decide +kernel)
theorem wk_221 : (Jvm.Cond.instanceMethod ({ cls := "ListWeave", name := "at", desc := "(II)I" } : Jvm.MethodName)) ∈ gw := gw_of (i := 221) (by decide +kernel) (by decide +kernel)
theorem wk_222 : (Jvm.Cond.selects "ListWeave" ({ cls := "ListWeave", name := "at", desc := "(II)I" } : Jvm.MethodName) ({ cls := "ListWeave", name := "at", desc := "(II)I" } : Jvm.MethodName)) ∈ gw := gw_of (i := 222) (by decide +kernel) (by decide +kernel)
theorem wk_223 : (Jvm.Cond.code ({ cls := "ListWeave", name := "at", desc := "(II)I" } : Jvm.MethodName) prog_1_method_8_code (4 : Nat) (Option.some Jvm.ClassFile.FieldType.int)) ∈ gw := gw_of (i := 223) (by decide +kernel) (by decide +kernel)
theorem wk_224 : (Jvm.Cond.methodLink "ListWeave" (88 : Nat) ({ cls := "ListWeave", name := "elementAt", desc := "(I)LListWeave$Element;" } : Jvm.MethodName)) ∈ gw := gw_of (i := 224) (by decide +kernel) (by decide +kernel)
theorem wk_226 : (Jvm.Cond.instanceMethod ({ cls := "ListWeave", name := "elementAt", desc := "(I)LListWeave$Element;" } : Jvm.MethodName)) ∈ gw := gw_of (i := 226) (by decide +kernel) (by decide +kernel)
theorem wk_227 : (Jvm.Cond.code ({ cls := "ListWeave", name := "elementAt", desc := "(I)LListWeave$Element;" } : Jvm.MethodName) prog_1_method_27_code (4 : Nat) (Option.some (Jvm.ClassFile.FieldType.object "ListWeave$Element"))) ∈ gw := gw_of (i := 227) (by decide +kernel) (by decide +kernel)
theorem wk_228 : (Jvm.Cond.classLink "ListWeave" (91 : Nat) "java/lang/IndexOutOfBoundsException") ∈ gw := gw_of (i := 228) (by decide +kernel) (by decide +kernel)
theorem wk_229 : (Jvm.Cond.instantiable "java/lang/IndexOutOfBoundsException" (6 : Nat)) ∈ gw := gw_of (i := 229) (by decide +kernel) (by decide +kernel)
theorem wk_237 : (Jvm.Cond.selects "java/lang/IndexOutOfBoundsException" ({ cls := "java/lang/Throwable", name := "fillInStackTrace", desc := "(I)Ljava/lang/Throwable;" } : Jvm.MethodName) ({ cls := "java/lang/Throwable", name := "fillInStackTrace", desc := "(I)Ljava/lang/Throwable;" } : Jvm.MethodName)) ∈ gw := gw_of (i := 237) (by decide +kernel) (by decide +kernel)
theorem wk_238 : (Jvm.Cond.selects "java/lang/IndexOutOfBoundsException" ({ cls := "java/lang/Throwable", name := "fillInStackTrace", desc := "()Ljava/lang/Throwable;" } : Jvm.MethodName) ({ cls := "java/lang/Throwable", name := "fillInStackTrace", desc := "()Ljava/lang/Throwable;" } : Jvm.MethodName)) ∈ gw := gw_of (i := 238) (by decide +kernel) (by decide +kernel)
theorem wk_239 : (Jvm.Cond.lays "java/lang/IndexOutOfBoundsException" "java/lang/Throwable" "cause" "Ljava/lang/Throwable;") ∈ gw := gw_of (i := 239) (by decide +kernel) (by decide +kernel)
theorem wk_240 : (Jvm.Cond.lays "java/lang/Throwable" "java/lang/Throwable" "cause" "Ljava/lang/Throwable;") ∈ gw := gw_of (i := 240) (by decide +kernel) (by decide +kernel)
theorem wk_241 : (Jvm.Cond.lays "java/lang/IndexOutOfBoundsException" "java/lang/Throwable" "stackTrace" "[Ljava/lang/StackTraceElement;") ∈ gw := gw_of (i := 241) (by decide +kernel) (by decide +kernel)
theorem wk_242 : (Jvm.Cond.lays "java/lang/Throwable" "java/lang/Throwable" "stackTrace" "[Ljava/lang/StackTraceElement;") ∈ gw := gw_of (i := 242) (by decide +kernel) (by decide +kernel)
theorem wk_243 : (Jvm.Cond.lays "java/lang/IndexOutOfBoundsException" "java/lang/Throwable" "suppressedExceptions" "Ljava/util/List;") ∈ gw := gw_of (i := 243) (by decide +kernel) (by decide +kernel)
theorem wk_244 : (Jvm.Cond.lays "java/lang/Throwable" "java/lang/Throwable" "suppressedExceptions" "Ljava/util/List;") ∈ gw := gw_of (i := 244) (by decide +kernel) (by decide +kernel)
theorem wk_245 : (Jvm.Cond.lays "java/lang/IndexOutOfBoundsException" "java/lang/Throwable" "detailMessage" "Ljava/lang/String;") ∈ gw := gw_of (i := 245) (by decide +kernel) (by decide +kernel)
theorem wk_246 : (Jvm.Cond.lays "java/lang/Throwable" "java/lang/Throwable" "detailMessage" "Ljava/lang/String;") ∈ gw := gw_of (i := 246) (by decide +kernel) (by decide +kernel)
theorem wk_247 : (Jvm.Cond.lays "java/lang/IndexOutOfBoundsException" "java/lang/Throwable" "backtrace" "Ljava/lang/Object;") ∈ gw := gw_of (i := 247) (by decide +kernel) (by decide +kernel)
theorem wk_248 : (Jvm.Cond.lays "java/lang/Throwable" "java/lang/Throwable" "backtrace" "Ljava/lang/Object;") ∈ gw := gw_of (i := 248) (by decide +kernel) (by decide +kernel)
theorem wk_249 : (Jvm.Cond.fieldLink "java/lang/Throwable" (198 : Nat) "java/lang/Throwable" "backtrace" "Ljava/lang/Object;") ∈ gw := gw_of (i := 249) (by decide +kernel) (by decide +kernel)
theorem wk_251 : (Jvm.Cond.instanceMethod ({ cls := "java/lang/Throwable", name := "<init>", desc := "()V" } : Jvm.MethodName)) ∈ gw := gw_of (i := 251) (by decide +kernel) (by decide +kernel)
theorem wk_252 : (Jvm.Cond.code ({ cls := "java/lang/Throwable", name := "<init>", desc := "()V" } : Jvm.MethodName) prog_13_method_1_code (1 : Nat) (Option.none : Option Jvm.ClassFile.FieldType)) ∈ gw := gw_of (i := 252) (by decide +kernel) (by decide +kernel)
theorem wk_253 : (Jvm.Cond.methodLink "java/lang/Throwable" (1 : Nat) ({ cls := "java/lang/Object", name := "<init>", desc := "()V" } : Jvm.MethodName)) ∈ gw := gw_of (i := 253) (by decide +kernel) (by decide +kernel)
theorem wk_254 : (Jvm.Cond.fieldLink "java/lang/Throwable" (13 : Nat) "java/lang/Throwable" "UNASSIGNED_STACK" "[Ljava/lang/StackTraceElement;") ∈ gw := gw_of (i := 254) (by decide +kernel) (by decide +kernel)
theorem wk_256 : (Jvm.Cond.fieldLink "java/lang/Throwable" (20 : Nat) "java/lang/Throwable" "SUPPRESSED_SENTINEL" "Ljava/util/List;") ∈ gw := gw_of (i := 256) (by decide +kernel) (by decide +kernel)
theorem wk_258 : (Jvm.Cond.methodLink "java/lang/Throwable" (27 : Nat) ({ cls := "java/lang/Throwable", name := "fillInStackTrace", desc := "()Ljava/lang/Throwable;" } : Jvm.MethodName)) ∈ gw := gw_of (i := 258) (by decide +kernel) (by decide +kernel)
theorem wk_259 : (Jvm.Cond.instanceMethod ({ cls := "java/lang/Throwable", name := "fillInStackTrace", desc := "()Ljava/lang/Throwable;" } : Jvm.MethodName)) ∈ gw := gw_of (i := 259) (by decide +kernel) (by decide +kernel)
theorem wk_261 : (Jvm.Cond.selects "java/lang/IllegalArgumentException" ({ cls := "java/lang/Throwable", name := "fillInStackTrace", desc := "()Ljava/lang/Throwable;" } : Jvm.MethodName) ({ cls := "java/lang/Throwable", name := "fillInStackTrace", desc := "()Ljava/lang/Throwable;" } : Jvm.MethodName)) ∈ gw := gw_of (i := 261) (by decide +kernel) (by decide +kernel)
theorem wk_263 : (Jvm.Cond.methodLink "java/lang/Throwable" (202 : Nat) ({ cls := "java/lang/Throwable", name := "fillInStackTrace", desc := "(I)Ljava/lang/Throwable;" } : Jvm.MethodName)) ∈ gw := gw_of (i := 263) (by decide +kernel) (by decide +kernel)
theorem wk_265 : (Jvm.Cond.instanceMethod ({ cls := "java/lang/Throwable", name := "fillInStackTrace", desc := "(I)Ljava/lang/Throwable;" } : Jvm.MethodName)) ∈ gw := gw_of (i := 265) (by decide +kernel) (by decide +kernel)
theorem wk_266 : (Jvm.Cond.instantiable "java/lang/Throwable" (6 : Nat)) ∈ gw := gw_of (i := 266) (by decide +kernel) (by decide +kernel)
theorem wk_267 : (Jvm.Cond.native ({ cls := "java/lang/Throwable", name := "fillInStackTrace", desc := "(I)Ljava/lang/Throwable;" } : Jvm.MethodName)) ∈ gw := gw_of (i := 267) (by decide +kernel) (by decide +kernel)
theorem wk_269 : (Jvm.Cond.methodLink "ListWeave" (95 : Nat) ({ cls := "java/lang/IndexOutOfBoundsException", name := "<init>", desc := "(Ljava/lang/String;)V" } : Jvm.MethodName)) ∈ gw := gw_of (i := 269) (by decide +kernel) (by decide +kernel)
theorem wk_270 : (Jvm.Cond.instanceMethod ({ cls := "java/lang/IndexOutOfBoundsException", name := "<init>", desc := "(Ljava/lang/String;)V" } : Jvm.MethodName)) ∈ gw := gw_of (i := 270) (by decide +kernel) (by decide +kernel)
theorem wk_271 : (Jvm.Cond.code ({ cls := "java/lang/IndexOutOfBoundsException", name := "<init>", desc := "(Ljava/lang/String;)V" } : Jvm.MethodName) prog_8_method_2_code (2 : Nat) (Option.none : Option Jvm.ClassFile.FieldType)) ∈ gw := gw_of (i := 271) (by decide +kernel) (by decide +kernel)
theorem wk_272 : (Jvm.Cond.methodLink "java/lang/IndexOutOfBoundsException" (7 : Nat) ({ cls := "java/lang/RuntimeException", name := "<init>", desc := "(Ljava/lang/String;)V" } : Jvm.MethodName)) ∈ gw := gw_of (i := 272) (by decide +kernel) (by decide +kernel)
theorem wk_273 : (Jvm.Cond.instanceMethod ({ cls := "java/lang/RuntimeException", name := "<init>", desc := "(Ljava/lang/String;)V" } : Jvm.MethodName)) ∈ gw := gw_of (i := 273) (by decide +kernel) (by decide +kernel)
theorem wk_274 : (Jvm.Cond.code ({ cls := "java/lang/RuntimeException", name := "<init>", desc := "(Ljava/lang/String;)V" } : Jvm.MethodName) prog_10_method_2_code (2 : Nat) (Option.none : Option Jvm.ClassFile.FieldType)) ∈ gw := gw_of (i := 274) (by decide +kernel) (by decide +kernel)
theorem wk_275 : (Jvm.Cond.methodLink "java/lang/RuntimeException" (7 : Nat) ({ cls := "java/lang/Exception", name := "<init>", desc := "(Ljava/lang/String;)V" } : Jvm.MethodName)) ∈ gw := gw_of (i := 275) (by decide +kernel) (by decide +kernel)
theorem wk_276 : (Jvm.Cond.instanceMethod ({ cls := "java/lang/Exception", name := "<init>", desc := "(Ljava/lang/String;)V" } : Jvm.MethodName)) ∈ gw := gw_of (i := 276) (by decide +kernel) (by decide +kernel)
theorem wk_277 : (Jvm.Cond.code ({ cls := "java/lang/Exception", name := "<init>", desc := "(Ljava/lang/String;)V" } : Jvm.MethodName) prog_6_method_2_code (2 : Nat) (Option.none : Option Jvm.ClassFile.FieldType)) ∈ gw := gw_of (i := 277) (by decide +kernel) (by decide +kernel)
theorem wk_278 : (Jvm.Cond.methodLink "java/lang/Exception" (7 : Nat) ({ cls := "java/lang/Throwable", name := "<init>", desc := "(Ljava/lang/String;)V" } : Jvm.MethodName)) ∈ gw := gw_of (i := 278) (by decide +kernel) (by decide +kernel)
theorem wk_279 : (Jvm.Cond.instanceMethod ({ cls := "java/lang/Throwable", name := "<init>", desc := "(Ljava/lang/String;)V" } : Jvm.MethodName)) ∈ gw := gw_of (i := 279) (by decide +kernel) (by decide +kernel)
theorem wk_280 : (Jvm.Cond.code ({ cls := "java/lang/Throwable", name := "<init>", desc := "(Ljava/lang/String;)V" } : Jvm.MethodName) prog_13_method_2_code (2 : Nat) (Option.none : Option Jvm.ClassFile.FieldType)) ∈ gw := gw_of (i := 280) (by decide +kernel) (by decide +kernel)
theorem wk_281 : (Jvm.Cond.fieldLink "java/lang/Throwable" (198 : Nat) "java/lang/Throwable" "backtrace" "Ljava/lang/Object;") ∈ gw := gw_of (i := 281) (by decide +kernel) (by decide +kernel)
theorem wk_282 : (Jvm.Cond.fieldLink "java/lang/Throwable" (31 : Nat) "java/lang/Throwable" "detailMessage" "Ljava/lang/String;") ∈ gw := gw_of (i := 282) (by decide +kernel) (by decide +kernel)
theorem wk_283 : (Jvm.Cond.fieldLink "java/lang/Throwable" (7 : Nat) "java/lang/Throwable" "cause" "Ljava/lang/Throwable;") ∈ gw := gw_of (i := 283) (by decide +kernel) (by decide +kernel)
theorem wk_284 : (Jvm.Cond.fieldLink "java/lang/Throwable" (17 : Nat) "java/lang/Throwable" "stackTrace" "[Ljava/lang/StackTraceElement;") ∈ gw := gw_of (i := 284) (by decide +kernel) (by decide +kernel)
theorem wk_285 : (Jvm.Cond.fieldLink "java/lang/Throwable" (24 : Nat) "java/lang/Throwable" "suppressedExceptions" "Ljava/util/List;") ∈ gw := gw_of (i := 285) (by decide +kernel) (by decide +kernel)
theorem wk_290 : (Jvm.Cond.lays "java/lang/IndexOutOfBoundsException" "java/lang/Throwable" "depth" "I") ∈ gw := gw_of (i := 290) (by decide +kernel) (by decide +kernel)
theorem wk_294 : (Jvm.Cond.arrayClass Jvm.ClassFile.FieldType.byte) ∈ gw := gw_of (i := 294) (by decide +kernel) (by decide +kernel)
theorem wk_296 : (Jvm.Cond.methodLink "ListWeaveLaw" (77 : Nat) ({ cls := "ListWeaveLaw", name := "ahead", desc := "(LListWeave;I[J)I" } : Jvm.MethodName)) ∈ gw := gw_of (i := 296) (by decide +kernel) (by decide +kernel)
theorem wk_297 : (Jvm.Cond.static ({ cls := "ListWeaveLaw", name := "ahead", desc := "(LListWeave;I[J)I" } : Jvm.MethodName)) ∈ gw := gw_of (i := 297) (by decide +kernel) (by decide +kernel)
theorem wk_298 : (Jvm.Cond.codeWith ({ cls := "ListWeaveLaw", name := "ahead", desc := "(LListWeave;I[J)I" } : Jvm.MethodName) method_4_code (4 : Nat) (Option.some Jvm.ClassFile.FieldType.int) [((0 : Nat), (9 : Nat), (12 : Nat), (19 : Nat))]) ∈ gw := gw_of (i := 298) (by decide +kernel) (by decide +kernel)
theorem wk_299 : (Jvm.Cond.classLink "ListWeaveLaw" (19 : Nat) "java/lang/IllegalArgumentException") ∈ gw := gw_of (i := 299) (by decide +kernel) (by decide +kernel)
theorem wk_300 : (Jvm.Cond.methodLink "ListWeaveLaw" (15 : Nat) ({ cls := "ListWeave", name := "ahead", desc := "(I)I" } : Jvm.MethodName)) ∈ gw := gw_of (i := 300) (by decide +kernel) (by decide +kernel)
theorem wk_301 : (Jvm.Cond.instanceMethod ({ cls := "ListWeave", name := "ahead", desc := "(I)I" } : Jvm.MethodName)) ∈ gw := gw_of (i := 301) (by decide +kernel) (by decide +kernel)
theorem wk_302 : (Jvm.Cond.selects "ListWeave" ({ cls := "ListWeave", name := "ahead", desc := "(I)I" } : Jvm.MethodName) ({ cls := "ListWeave", name := "ahead", desc := "(I)I" } : Jvm.MethodName)) ∈ gw := gw_of (i := 302) (by decide +kernel) (by decide +kernel)
theorem wk_303 : (Jvm.Cond.code ({ cls := "ListWeave", name := "ahead", desc := "(I)I" } : Jvm.MethodName) prog_1_method_10_code (3 : Nat) (Option.some Jvm.ClassFile.FieldType.int)) ∈ gw := gw_of (i := 303) (by decide +kernel) (by decide +kernel)
theorem wk_304 : (Jvm.Cond.classLink "ListWeave" (119 : Nat) "java/lang/IllegalArgumentException") ∈ gw := gw_of (i := 304) (by decide +kernel) (by decide +kernel)
theorem wk_305 : (Jvm.Cond.instantiable "java/lang/IllegalArgumentException" (6 : Nat)) ∈ gw := gw_of (i := 305) (by decide +kernel) (by decide +kernel)
theorem wk_307 : (Jvm.Cond.selects "java/lang/IllegalArgumentException" ({ cls := "java/lang/Throwable", name := "fillInStackTrace", desc := "(I)Ljava/lang/Throwable;" } : Jvm.MethodName) ({ cls := "java/lang/Throwable", name := "fillInStackTrace", desc := "(I)Ljava/lang/Throwable;" } : Jvm.MethodName)) ∈ gw := gw_of (i := 307) (by decide +kernel) (by decide +kernel)
theorem wk_308 : (Jvm.Cond.lays "java/lang/IllegalArgumentException" "java/lang/Throwable" "cause" "Ljava/lang/Throwable;") ∈ gw := gw_of (i := 308) (by decide +kernel) (by decide +kernel)
theorem wk_309 : (Jvm.Cond.lays "java/lang/IllegalArgumentException" "java/lang/Throwable" "stackTrace" "[Ljava/lang/StackTraceElement;") ∈ gw := gw_of (i := 309) (by decide +kernel) (by decide +kernel)
theorem wk_310 : (Jvm.Cond.lays "java/lang/IllegalArgumentException" "java/lang/Throwable" "suppressedExceptions" "Ljava/util/List;") ∈ gw := gw_of (i := 310) (by decide +kernel) (by decide +kernel)
theorem wk_311 : (Jvm.Cond.lays "java/lang/IllegalArgumentException" "java/lang/Throwable" "detailMessage" "Ljava/lang/String;") ∈ gw := gw_of (i := 311) (by decide +kernel) (by decide +kernel)
theorem wk_312 : (Jvm.Cond.lays "java/lang/IllegalArgumentException" "java/lang/Throwable" "backtrace" "Ljava/lang/Object;") ∈ gw := gw_of (i := 312) (by decide +kernel) (by decide +kernel)
theorem wk_314 : (Jvm.Cond.methodLink "ListWeave" (123 : Nat) ({ cls := "java/lang/IllegalArgumentException", name := "<init>", desc := "(Ljava/lang/String;)V" } : Jvm.MethodName)) ∈ gw := gw_of (i := 314) (by decide +kernel) (by decide +kernel)
theorem wk_315 : (Jvm.Cond.instanceMethod ({ cls := "java/lang/IllegalArgumentException", name := "<init>", desc := "(Ljava/lang/String;)V" } : Jvm.MethodName)) ∈ gw := gw_of (i := 315) (by decide +kernel) (by decide +kernel)
theorem wk_316 : (Jvm.Cond.code ({ cls := "java/lang/IllegalArgumentException", name := "<init>", desc := "(Ljava/lang/String;)V" } : Jvm.MethodName) prog_7_method_2_code (2 : Nat) (Option.none : Option Jvm.ClassFile.FieldType)) ∈ gw := gw_of (i := 316) (by decide +kernel) (by decide +kernel)
theorem wk_317 : (Jvm.Cond.methodLink "java/lang/IllegalArgumentException" (7 : Nat) ({ cls := "java/lang/RuntimeException", name := "<init>", desc := "(Ljava/lang/String;)V" } : Jvm.MethodName)) ∈ gw := gw_of (i := 317) (by decide +kernel) (by decide +kernel)
theorem wk_318 : (Jvm.Cond.lays "java/lang/IllegalArgumentException" "java/lang/Throwable" "depth" "I") ∈ gw := gw_of (i := 318) (by decide +kernel) (by decide +kernel)
theorem wk_320 : (Jvm.Cond.methodLink "ListWeaveLaw" (81 : Nat) ({ cls := "ListWeaveLaw", name := "before", desc := "(LListWeave;II[J)I" } : Jvm.MethodName)) ∈ gw := gw_of (i := 320) (by decide +kernel) (by decide +kernel)
theorem wk_321 : (Jvm.Cond.static ({ cls := "ListWeaveLaw", name := "before", desc := "(LListWeave;II[J)I" } : Jvm.MethodName)) ∈ gw := gw_of (i := 321) (by decide +kernel) (by decide +kernel)
theorem wk_322 : (Jvm.Cond.codeWith ({ cls := "ListWeaveLaw", name := "before", desc := "(LListWeave;II[J)I" } : Jvm.MethodName) method_5_code (5 : Nat) (Option.some Jvm.ClassFile.FieldType.int) [((0 : Nat), (17 : Nat), (20 : Nat), (19 : Nat))]) ∈ gw := gw_of (i := 322) (by decide +kernel) (by decide +kernel)
theorem wk_323 : (Jvm.Cond.methodLink "ListWeaveLaw" (21 : Nat) ({ cls := "ListWeave", name := "before", desc := "(II)Z" } : Jvm.MethodName)) ∈ gw := gw_of (i := 323) (by decide +kernel) (by decide +kernel)
theorem wk_324 : (Jvm.Cond.instanceMethod ({ cls := "ListWeave", name := "before", desc := "(II)Z" } : Jvm.MethodName)) ∈ gw := gw_of (i := 324) (by decide +kernel) (by decide +kernel)
theorem wk_325 : (Jvm.Cond.selects "ListWeave" ({ cls := "ListWeave", name := "before", desc := "(II)Z" } : Jvm.MethodName) ({ cls := "ListWeave", name := "before", desc := "(II)Z" } : Jvm.MethodName)) ∈ gw := gw_of (i := 325) (by decide +kernel) (by decide +kernel)
theorem wk_326 : (Jvm.Cond.code ({ cls := "ListWeave", name := "before", desc := "(II)Z" } : Jvm.MethodName) prog_1_method_11_code (5 : Nat) (Option.some Jvm.ClassFile.FieldType.boolean)) ∈ gw := gw_of (i := 326) (by decide +kernel) (by decide +kernel)
theorem wk_327 : (Jvm.Cond.methodLink "ListWeaveLaw" (84 : Nat) ({ cls := "ListWeaveLaw", name := "row", desc := "(LListWeave;I[J)I" } : Jvm.MethodName)) ∈ gw := gw_of (i := 327) (by decide +kernel) (by decide +kernel)
theorem wk_328 : (Jvm.Cond.static ({ cls := "ListWeaveLaw", name := "row", desc := "(LListWeave;I[J)I" } : Jvm.MethodName)) ∈ gw := gw_of (i := 328) (by decide +kernel) (by decide +kernel)
theorem wk_329 : (Jvm.Cond.codeWith ({ cls := "ListWeaveLaw", name := "row", desc := "(LListWeave;I[J)I" } : Jvm.MethodName) method_6_code (4 : Nat) (Option.some Jvm.ClassFile.FieldType.int) [((0 : Nat), (9 : Nat), (12 : Nat), (13 : Nat))]) ∈ gw := gw_of (i := 329) (by decide +kernel) (by decide +kernel)
theorem wk_330 : (Jvm.Cond.methodLink "ListWeaveLaw" (25 : Nat) ({ cls := "ListWeave", name := "row", desc := "(I)I" } : Jvm.MethodName)) ∈ gw := gw_of (i := 330) (by decide +kernel) (by decide +kernel)
theorem wk_331 : (Jvm.Cond.instanceMethod ({ cls := "ListWeave", name := "row", desc := "(I)I" } : Jvm.MethodName)) ∈ gw := gw_of (i := 331) (by decide +kernel) (by decide +kernel)
theorem wk_332 : (Jvm.Cond.selects "ListWeave" ({ cls := "ListWeave", name := "row", desc := "(I)I" } : Jvm.MethodName) ({ cls := "ListWeave", name := "row", desc := "(I)I" } : Jvm.MethodName)) ∈ gw := gw_of (i := 332) (by decide +kernel) (by decide +kernel)
theorem wk_333 : (Jvm.Cond.code ({ cls := "ListWeave", name := "row", desc := "(I)I" } : Jvm.MethodName) prog_1_method_12_code (3 : Nat) (Option.some Jvm.ClassFile.FieldType.int)) ∈ gw := gw_of (i := 333) (by decide +kernel) (by decide +kernel)
theorem wk_335 : (Jvm.Cond.methodLink "ListWeaveLaw" (87 : Nat) ({ cls := "ListWeaveLaw", name := "of", desc := "(LListWeave;II[J)I" } : Jvm.MethodName)) ∈ gw := gw_of (i := 335) (by decide +kernel) (by decide +kernel)
theorem wk_336 : (Jvm.Cond.static ({ cls := "ListWeaveLaw", name := "of", desc := "(LListWeave;II[J)I" } : Jvm.MethodName)) ∈ gw := gw_of (i := 336) (by decide +kernel) (by decide +kernel)
theorem wk_337 : (Jvm.Cond.codeWith ({ cls := "ListWeaveLaw", name := "of", desc := "(LListWeave;II[J)I" } : Jvm.MethodName) method_7_code (5 : Nat) (Option.some Jvm.ClassFile.FieldType.int) [((0 : Nat), (10 : Nat), (13 : Nat), (19 : Nat))]) ∈ gw := gw_of (i := 337) (by decide +kernel) (by decide +kernel)
theorem wk_338 : (Jvm.Cond.methodLink "ListWeaveLaw" (28 : Nat) ({ cls := "ListWeave", name := "of", desc := "(II)I" } : Jvm.MethodName)) ∈ gw := gw_of (i := 338) (by decide +kernel) (by decide +kernel)
theorem wk_339 : (Jvm.Cond.instanceMethod ({ cls := "ListWeave", name := "of", desc := "(II)I" } : Jvm.MethodName)) ∈ gw := gw_of (i := 339) (by decide +kernel) (by decide +kernel)
theorem wk_340 : (Jvm.Cond.selects "ListWeave" ({ cls := "ListWeave", name := "of", desc := "(II)I" } : Jvm.MethodName) ({ cls := "ListWeave", name := "of", desc := "(II)I" } : Jvm.MethodName)) ∈ gw := gw_of (i := 340) (by decide +kernel) (by decide +kernel)
theorem wk_341 : (Jvm.Cond.code ({ cls := "ListWeave", name := "of", desc := "(II)I" } : Jvm.MethodName) prog_1_method_13_code (4 : Nat) (Option.some Jvm.ClassFile.FieldType.int)) ∈ gw := gw_of (i := 341) (by decide +kernel) (by decide +kernel)
theorem wk_343 : (Jvm.Cond.classLink "ListWeaveLaw" (32 : Nat) "ListWeaveModel") ∈ gw := gw_of (i := 343) (by decide +kernel) (by decide +kernel)
theorem wk_344 : (Jvm.Cond.instantiable "ListWeaveModel" (13 : Nat)) ∈ gw := gw_of (i := 344) (by decide +kernel) (by decide +kernel)
theorem wk_345 : (Jvm.Cond.methodLink "ListWeaveLaw" (34 : Nat) ({ cls := "ListWeaveModel", name := "<init>", desc := "()V" } : Jvm.MethodName)) ∈ gw := gw_of (i := 345) (by decide +kernel) (by decide +kernel)
theorem wk_346 : (Jvm.Cond.instanceMethod ({ cls := "ListWeaveModel", name := "<init>", desc := "()V" } : Jvm.MethodName)) ∈ gw := gw_of (i := 346) (by decide +kernel) (by decide +kernel)
theorem wk_347 : (Jvm.Cond.code ({ cls := "ListWeaveModel", name := "<init>", desc := "()V" } : Jvm.MethodName) prog_5_method_1_code (1 : Nat) (Option.none : Option Jvm.ClassFile.FieldType)) ∈ gw := gw_of (i := 347) (by decide +kernel) (by decide +kernel)
theorem wk_348 : (Jvm.Cond.methodLink "ListWeaveModel" (1 : Nat) ({ cls := "java/lang/Object", name := "<init>", desc := "()V" } : Jvm.MethodName)) ∈ gw := gw_of (i := 348) (by decide +kernel) (by decide +kernel)
theorem wk_349 : (Jvm.Cond.fieldLink "ListWeaveModel" (40 : Nat) "ListWeaveModel" "thrown" "I") ∈ gw := gw_of (i := 349) (by decide +kernel) (by decide +kernel)
theorem wk_350 : (Jvm.Cond.fieldLink "ListWeaveModel" (44 : Nat) "ListWeaveModel" "many" "I") ∈ gw := gw_of (i := 350) (by decide +kernel) (by decide +kernel)
theorem wk_351 : (Jvm.Cond.fieldLink "ListWeaveModel" (7 : Nat) "ListWeaveModel" "ids" "[I") ∈ gw := gw_of (i := 351) (by decide +kernel) (by decide +kernel)
theorem wk_352 : (Jvm.Cond.fieldLink "ListWeaveModel" (13 : Nat) "ListWeaveModel" "behinds" "[I") ∈ gw := gw_of (i := 352) (by decide +kernel) (by decide +kernel)
theorem wk_353 : (Jvm.Cond.fieldLink "ListWeaveModel" (16 : Nat) "ListWeaveModel" "kinds" "[I") ∈ gw := gw_of (i := 353) (by decide +kernel) (by decide +kernel)
theorem wk_354 : (Jvm.Cond.fieldLink "ListWeaveModel" (19 : Nat) "ListWeaveModel" "values" "[I") ∈ gw := gw_of (i := 354) (by decide +kernel) (by decide +kernel)
theorem wk_355 : (Jvm.Cond.fieldLink "ListWeaveModel" (52 : Nat) "ListWeaveModel" "done" "I") ∈ gw := gw_of (i := 355) (by decide +kernel) (by decide +kernel)
theorem wk_356 : (Jvm.Cond.fieldLink "ListWeaveModel" (22 : Nat) "ListWeaveModel" "doneIds" "[I") ∈ gw := gw_of (i := 356) (by decide +kernel) (by decide +kernel)
theorem wk_357 : (Jvm.Cond.fieldLink "ListWeaveModel" (25 : Nat) "ListWeaveModel" "doneOf" "[I") ∈ gw := gw_of (i := 357) (by decide +kernel) (by decide +kernel)
theorem wk_358 : (Jvm.Cond.fieldLink "ListWeaveModel" (28 : Nat) "ListWeaveModel" "doneKinds" "[I") ∈ gw := gw_of (i := 358) (by decide +kernel) (by decide +kernel)
theorem wk_359 : (Jvm.Cond.fieldLink "ListWeaveModel" (31 : Nat) "ListWeaveModel" "doneValues" "[I") ∈ gw := gw_of (i := 359) (by decide +kernel) (by decide +kernel)
theorem wk_360 : (Jvm.Cond.fieldLink "ListWeaveModel" (34 : Nat) "ListWeaveModel" "order" "[I") ∈ gw := gw_of (i := 360) (by decide +kernel) (by decide +kernel)
theorem wk_361 : (Jvm.Cond.fieldLink "ListWeaveModel" (37 : Nat) "ListWeaveModel" "stack" "[I") ∈ gw := gw_of (i := 361) (by decide +kernel) (by decide +kernel)
theorem wk_362 : (Jvm.Cond.lays "ListWeaveModel" "ListWeaveModel" "thrown" "I") ∈ gw := gw_of (i := 362) (by decide +kernel) (by decide +kernel)
theorem wk_364 : (Jvm.Cond.lays "ListWeaveModel" "ListWeaveModel" "many" "I") ∈ gw := gw_of (i := 364) (by decide +kernel) (by decide +kernel)
theorem wk_366 : (Jvm.Cond.laysFinal "ListWeaveModel" "ListWeaveModel" "ids" "[I") ∈ gw := gw_of (i := 366) (by decide +kernel) (by decide +kernel)
theorem wk_368 : (Jvm.Cond.laysFinal "ListWeaveModel" "ListWeaveModel" "behinds" "[I") ∈ gw := gw_of (i := 368) (by decide +kernel) (by decide +kernel)
theorem wk_370 : (Jvm.Cond.laysFinal "ListWeaveModel" "ListWeaveModel" "kinds" "[I") ∈ gw := gw_of (i := 370) (by decide +kernel) (by decide +kernel)
theorem wk_372 : (Jvm.Cond.laysFinal "ListWeaveModel" "ListWeaveModel" "values" "[I") ∈ gw := gw_of (i := 372) (by decide +kernel) (by decide +kernel)
theorem wk_374 : (Jvm.Cond.lays "ListWeaveModel" "ListWeaveModel" "done" "I") ∈ gw := gw_of (i := 374) (by decide +kernel) (by decide +kernel)
theorem wk_376 : (Jvm.Cond.laysFinal "ListWeaveModel" "ListWeaveModel" "doneIds" "[I") ∈ gw := gw_of (i := 376) (by decide +kernel) (by decide +kernel)
theorem wk_378 : (Jvm.Cond.laysFinal "ListWeaveModel" "ListWeaveModel" "doneOf" "[I") ∈ gw := gw_of (i := 378) (by decide +kernel) (by decide +kernel)
theorem wk_380 : (Jvm.Cond.laysFinal "ListWeaveModel" "ListWeaveModel" "doneKinds" "[I") ∈ gw := gw_of (i := 380) (by decide +kernel) (by decide +kernel)
theorem wk_382 : (Jvm.Cond.laysFinal "ListWeaveModel" "ListWeaveModel" "doneValues" "[I") ∈ gw := gw_of (i := 382) (by decide +kernel) (by decide +kernel)
theorem wk_384 : (Jvm.Cond.laysFinal "ListWeaveModel" "ListWeaveModel" "order" "[I") ∈ gw := gw_of (i := 384) (by decide +kernel) (by decide +kernel)
theorem wk_386 : (Jvm.Cond.laysFinal "ListWeaveModel" "ListWeaveModel" "stack" "[I") ∈ gw := gw_of (i := 386) (by decide +kernel) (by decide +kernel)
theorem wk_389 : (Jvm.Cond.methodLink "ListWeaveLaw" (70 : Nat) ({ cls := "ListWeaveModel", name := "thrown", desc := "()I" } : Jvm.MethodName)) ∈ gw := gw_of (i := 389) (by decide +kernel) (by decide +kernel)
theorem wk_390 : (Jvm.Cond.instanceMethod ({ cls := "ListWeaveModel", name := "thrown", desc := "()I" } : Jvm.MethodName)) ∈ gw := gw_of (i := 390) (by decide +kernel) (by decide +kernel)
theorem wk_391 : (Jvm.Cond.selects "ListWeaveModel" ({ cls := "ListWeaveModel", name := "thrown", desc := "()I" } : Jvm.MethodName) ({ cls := "ListWeaveModel", name := "thrown", desc := "()I" } : Jvm.MethodName)) ∈ gw := gw_of (i := 391) (by decide +kernel) (by decide +kernel)
theorem wk_392 : (Jvm.Cond.code ({ cls := "ListWeaveModel", name := "thrown", desc := "()I" } : Jvm.MethodName) prog_5_method_2_code (1 : Nat) (Option.some Jvm.ClassFile.FieldType.int)) ∈ gw := gw_of (i := 392) (by decide +kernel) (by decide +kernel)
theorem wk_393 : (Jvm.Cond.methodLink "ListWeaveLaw" (38 : Nat) ({ cls := "ListWeaveModel", name := "clear", desc := "()V" } : Jvm.MethodName)) ∈ gw := gw_of (i := 393) (by decide +kernel) (by decide +kernel)
theorem wk_394 : (Jvm.Cond.instanceMethod ({ cls := "ListWeaveModel", name := "clear", desc := "()V" } : Jvm.MethodName)) ∈ gw := gw_of (i := 394) (by decide +kernel) (by decide +kernel)
theorem wk_395 : (Jvm.Cond.selects "ListWeaveModel" ({ cls := "ListWeaveModel", name := "clear", desc := "()V" } : Jvm.MethodName) ({ cls := "ListWeaveModel", name := "clear", desc := "()V" } : Jvm.MethodName)) ∈ gw := gw_of (i := 395) (by decide +kernel) (by decide +kernel)
theorem wk_396 : (Jvm.Cond.code ({ cls := "ListWeaveModel", name := "clear", desc := "()V" } : Jvm.MethodName) prog_5_method_8_code (1 : Nat) (Option.none : Option Jvm.ClassFile.FieldType)) ∈ gw := gw_of (i := 396) (by decide +kernel) (by decide +kernel)
theorem wk_397 : (Jvm.Cond.methodLink "ListWeaveLaw" (43 : Nat) ({ cls := "ListWeaveModel", name := "insert", desc := "(IIII)Z" } : Jvm.MethodName)) ∈ gw := gw_of (i := 397) (by decide +kernel) (by decide +kernel)
theorem wk_398 : (Jvm.Cond.instanceMethod ({ cls := "ListWeaveModel", name := "insert", desc := "(IIII)Z" } : Jvm.MethodName)) ∈ gw := gw_of (i := 398) (by decide +kernel) (by decide +kernel)
theorem wk_399 : (Jvm.Cond.selects "ListWeaveModel" ({ cls := "ListWeaveModel", name := "insert", desc := "(IIII)Z" } : Jvm.MethodName) ({ cls := "ListWeaveModel", name := "insert", desc := "(IIII)Z" } : Jvm.MethodName)) ∈ gw := gw_of (i := 399) (by decide +kernel) (by decide +kernel)
theorem wk_400 : (Jvm.Cond.code ({ cls := "ListWeaveModel", name := "insert", desc := "(IIII)Z" } : Jvm.MethodName) prog_5_method_9_code (5 : Nat) (Option.some Jvm.ClassFile.FieldType.boolean)) ∈ gw := gw_of (i := 400) (by decide +kernel) (by decide +kernel)
theorem wk_401 : (Jvm.Cond.methodLink "ListWeaveModel" (59 : Nat) ({ cls := "ListWeaveModel", name := "canInsert", desc := "(II)Z" } : Jvm.MethodName)) ∈ gw := gw_of (i := 401) (by decide +kernel) (by decide +kernel)
theorem wk_403 : (Jvm.Cond.instanceMethod ({ cls := "ListWeaveModel", name := "canInsert", desc := "(II)Z" } : Jvm.MethodName)) ∈ gw := gw_of (i := 403) (by decide +kernel) (by decide +kernel)
theorem wk_404 : (Jvm.Cond.code ({ cls := "ListWeaveModel", name := "canInsert", desc := "(II)Z" } : Jvm.MethodName) prog_5_method_7_code (3 : Nat) (Option.some Jvm.ClassFile.FieldType.boolean)) ∈ gw := gw_of (i := 404) (by decide +kernel) (by decide +kernel)
theorem wk_405 : (Jvm.Cond.methodLink "ListWeaveModel" (55 : Nat) ({ cls := "ListWeaveModel", name := "isNew", desc := "(I)Z" } : Jvm.MethodName)) ∈ gw := gw_of (i := 405) (by decide +kernel) (by decide +kernel)
theorem wk_407 : (Jvm.Cond.instanceMethod ({ cls := "ListWeaveModel", name := "isNew", desc := "(I)Z" } : Jvm.MethodName)) ∈ gw := gw_of (i := 407) (by decide +kernel) (by decide +kernel)
theorem wk_408 : (Jvm.Cond.code ({ cls := "ListWeaveModel", name := "isNew", desc := "(I)Z" } : Jvm.MethodName) prog_5_method_4_code (4 : Nat) (Option.some Jvm.ClassFile.FieldType.boolean)) ∈ gw := gw_of (i := 408) (by decide +kernel) (by decide +kernel)
theorem wk_409 : (Jvm.Cond.constant "ListWeaveModel" (47 : Nat) (800007 : Int32)) ∈ gw := gw_of (i := 409) (by decide +kernel) (by decide +kernel)
theorem wk_410 : (Jvm.Cond.methodLink "ListWeaveModel" (48 : Nat) ({ cls := "ListWeaveModel", name := "placeOf", desc := "(I)I" } : Jvm.MethodName)) ∈ gw := gw_of (i := 410) (by decide +kernel) (by decide +kernel)
theorem wk_412 : (Jvm.Cond.instanceMethod ({ cls := "ListWeaveModel", name := "placeOf", desc := "(I)I" } : Jvm.MethodName)) ∈ gw := gw_of (i := 412) (by decide +kernel) (by decide +kernel)
theorem wk_413 : (Jvm.Cond.code ({ cls := "ListWeaveModel", name := "placeOf", desc := "(I)I" } : Jvm.MethodName) prog_5_method_3_code (4 : Nat) (Option.some Jvm.ClassFile.FieldType.int)) ∈ gw := gw_of (i := 413) (by decide +kernel) (by decide +kernel)
theorem wk_414 : (Jvm.Cond.methodLink "ListWeaveModel" (63 : Nat) ({ cls := "ListWeaveModel", name := "isKind", desc := "(I)Z" } : Jvm.MethodName)) ∈ gw := gw_of (i := 414) (by decide +kernel) (by decide +kernel)
theorem wk_415 : (Jvm.Cond.static ({ cls := "ListWeaveModel", name := "isKind", desc := "(I)Z" } : Jvm.MethodName)) ∈ gw := gw_of (i := 415) (by decide +kernel) (by decide +kernel)
theorem wk_416 : (Jvm.Cond.code ({ cls := "ListWeaveModel", name := "isKind", desc := "(I)Z" } : Jvm.MethodName) prog_5_method_5_code (1 : Nat) (Option.some Jvm.ClassFile.FieldType.boolean)) ∈ gw := gw_of (i := 416) (by decide +kernel) (by decide +kernel)
theorem wk_417 : (Jvm.Cond.methodLink "ListWeaveModel" (66 : Nat) ({ cls := "ListWeaveModel", name := "keep", desc := "(IIII)V" } : Jvm.MethodName)) ∈ gw := gw_of (i := 417) (by decide +kernel) (by decide +kernel)
theorem wk_419 : (Jvm.Cond.instanceMethod ({ cls := "ListWeaveModel", name := "keep", desc := "(IIII)V" } : Jvm.MethodName)) ∈ gw := gw_of (i := 419) (by decide +kernel) (by decide +kernel)
theorem wk_420 : (Jvm.Cond.code ({ cls := "ListWeaveModel", name := "keep", desc := "(IIII)V" } : Jvm.MethodName) prog_5_method_6_code (5 : Nat) (Option.none : Option Jvm.ClassFile.FieldType)) ∈ gw := gw_of (i := 420) (by decide +kernel) (by decide +kernel)
theorem wk_421 : (Jvm.Cond.methodLink "ListWeaveLaw" (50 : Nat) ({ cls := "ListWeaveModel", name := "run", desc := "(IIIJ)Z" } : Jvm.MethodName)) ∈ gw := gw_of (i := 421) (by decide +kernel) (by decide +kernel)
theorem wk_422 : (Jvm.Cond.instanceMethod ({ cls := "ListWeaveModel", name := "run", desc := "(IIIJ)Z" } : Jvm.MethodName)) ∈ gw := gw_of (i := 422) (by decide +kernel) (by decide +kernel)
theorem wk_423 : (Jvm.Cond.selects "ListWeaveModel" ({ cls := "ListWeaveModel", name := "run", desc := "(IIIJ)Z" } : Jvm.MethodName) ({ cls := "ListWeaveModel", name := "run", desc := "(IIIJ)Z" } : Jvm.MethodName)) ∈ gw := gw_of (i := 423) (by decide +kernel) (by decide +kernel)
theorem wk_424 : (Jvm.Cond.code ({ cls := "ListWeaveModel", name := "run", desc := "(IIIJ)Z" } : Jvm.MethodName) prog_5_method_10_code (7 : Nat) (Option.some Jvm.ClassFile.FieldType.boolean)) ∈ gw := gw_of (i := 424) (by decide +kernel) (by decide +kernel)
theorem wk_425 : (Jvm.Cond.constantLong "ListWeaveModel" (70 : Nat) (255 : Int64)) ∈ gw := gw_of (i := 425) (by decide +kernel) (by decide +kernel)
theorem wk_426 : (Jvm.Cond.methodLink "ListWeaveLaw" (54 : Nat) ({ cls := "ListWeaveModel", name := "set", desc := "(IIII)Z" } : Jvm.MethodName)) ∈ gw := gw_of (i := 426) (by decide +kernel) (by decide +kernel)
theorem wk_427 : (Jvm.Cond.instanceMethod ({ cls := "ListWeaveModel", name := "set", desc := "(IIII)Z" } : Jvm.MethodName)) ∈ gw := gw_of (i := 427) (by decide +kernel) (by decide +kernel)
theorem wk_428 : (Jvm.Cond.selects "ListWeaveModel" ({ cls := "ListWeaveModel", name := "set", desc := "(IIII)Z" } : Jvm.MethodName) ({ cls := "ListWeaveModel", name := "set", desc := "(IIII)Z" } : Jvm.MethodName)) ∈ gw := gw_of (i := 428) (by decide +kernel) (by decide +kernel)
theorem wk_429 : (Jvm.Cond.code ({ cls := "ListWeaveModel", name := "set", desc := "(IIII)Z" } : Jvm.MethodName) prog_5_method_12_code (5 : Nat) (Option.some Jvm.ClassFile.FieldType.boolean)) ∈ gw := gw_of (i := 429) (by decide +kernel) (by decide +kernel)
theorem wk_430 : (Jvm.Cond.methodLink "ListWeaveModel" (72 : Nat) ({ cls := "ListWeaveModel", name := "does", desc := "(IIII)Z" } : Jvm.MethodName)) ∈ gw := gw_of (i := 430) (by decide +kernel) (by decide +kernel)
theorem wk_432 : (Jvm.Cond.instanceMethod ({ cls := "ListWeaveModel", name := "does", desc := "(IIII)Z" } : Jvm.MethodName)) ∈ gw := gw_of (i := 432) (by decide +kernel) (by decide +kernel)
theorem wk_433 : (Jvm.Cond.code ({ cls := "ListWeaveModel", name := "does", desc := "(IIII)Z" } : Jvm.MethodName) prog_5_method_11_code (5 : Nat) (Option.some Jvm.ClassFile.FieldType.boolean)) ∈ gw := gw_of (i := 433) (by decide +kernel) (by decide +kernel)
theorem wk_434 : (Jvm.Cond.methodLink "ListWeaveLaw" (58 : Nat) ({ cls := "ListWeaveModel", name := "remove", desc := "(II)Z" } : Jvm.MethodName)) ∈ gw := gw_of (i := 434) (by decide +kernel) (by decide +kernel)
theorem wk_435 : (Jvm.Cond.instanceMethod ({ cls := "ListWeaveModel", name := "remove", desc := "(II)Z" } : Jvm.MethodName)) ∈ gw := gw_of (i := 435) (by decide +kernel) (by decide +kernel)
theorem wk_436 : (Jvm.Cond.selects "ListWeaveModel" ({ cls := "ListWeaveModel", name := "remove", desc := "(II)Z" } : Jvm.MethodName) ({ cls := "ListWeaveModel", name := "remove", desc := "(II)Z" } : Jvm.MethodName)) ∈ gw := gw_of (i := 436) (by decide +kernel) (by decide +kernel)
theorem wk_437 : (Jvm.Cond.code ({ cls := "ListWeaveModel", name := "remove", desc := "(II)Z" } : Jvm.MethodName) prog_5_method_13_code (3 : Nat) (Option.some Jvm.ClassFile.FieldType.boolean)) ∈ gw := gw_of (i := 437) (by decide +kernel) (by decide +kernel)
theorem wk_438 : (Jvm.Cond.methodLink "ListWeaveLaw" (63 : Nat) ({ cls := "ListWeaveModel", name := "size", desc := "()I" } : Jvm.MethodName)) ∈ gw := gw_of (i := 438) (by decide +kernel) (by decide +kernel)
theorem wk_439 : (Jvm.Cond.instanceMethod ({ cls := "ListWeaveModel", name := "size", desc := "()I" } : Jvm.MethodName)) ∈ gw := gw_of (i := 439) (by decide +kernel) (by decide +kernel)
theorem wk_440 : (Jvm.Cond.selects "ListWeaveModel" ({ cls := "ListWeaveModel", name := "size", desc := "()I" } : Jvm.MethodName) ({ cls := "ListWeaveModel", name := "size", desc := "()I" } : Jvm.MethodName)) ∈ gw := gw_of (i := 440) (by decide +kernel) (by decide +kernel)
theorem wk_441 : (Jvm.Cond.code ({ cls := "ListWeaveModel", name := "size", desc := "()I" } : Jvm.MethodName) prog_5_method_22_code (1 : Nat) (Option.some Jvm.ClassFile.FieldType.int)) ∈ gw := gw_of (i := 441) (by decide +kernel) (by decide +kernel)
theorem wk_442 : (Jvm.Cond.methodLink "ListWeaveModel" (89 : Nat) ({ cls := "ListWeaveModel", name := "sizeOf", desc := "()I" } : Jvm.MethodName)) ∈ gw := gw_of (i := 442) (by decide +kernel) (by decide +kernel)
theorem wk_444 : (Jvm.Cond.instanceMethod ({ cls := "ListWeaveModel", name := "sizeOf", desc := "()I" } : Jvm.MethodName)) ∈ gw := gw_of (i := 444) (by decide +kernel) (by decide +kernel)
theorem wk_445 : (Jvm.Cond.code ({ cls := "ListWeaveModel", name := "sizeOf", desc := "()I" } : Jvm.MethodName) prog_5_method_21_code (3 : Nat) (Option.some Jvm.ClassFile.FieldType.int)) ∈ gw := gw_of (i := 445) (by decide +kernel) (by decide +kernel)
theorem wk_446 : (Jvm.Cond.methodLink "ListWeaveModel" (86 : Nat) ({ cls := "ListWeaveModel", name := "isRemoved", desc := "(I)Z" } : Jvm.MethodName)) ∈ gw := gw_of (i := 446) (by decide +kernel) (by decide +kernel)
theorem wk_448 : (Jvm.Cond.instanceMethod ({ cls := "ListWeaveModel", name := "isRemoved", desc := "(I)Z" } : Jvm.MethodName)) ∈ gw := gw_of (i := 448) (by decide +kernel) (by decide +kernel)
theorem wk_449 : (Jvm.Cond.code ({ cls := "ListWeaveModel", name := "isRemoved", desc := "(I)Z" } : Jvm.MethodName) prog_5_method_14_code (4 : Nat) (Option.some Jvm.ClassFile.FieldType.boolean)) ∈ gw := gw_of (i := 449) (by decide +kernel) (by decide +kernel)
theorem wk_450 : (Jvm.Cond.methodLink "ListWeaveLaw" (69 : Nat) ({ cls := "ListWeaveModel", name := "at", desc := "(II)I" } : Jvm.MethodName)) ∈ gw := gw_of (i := 450) (by decide +kernel) (by decide +kernel)
theorem wk_451 : (Jvm.Cond.instanceMethod ({ cls := "ListWeaveModel", name := "at", desc := "(II)I" } : Jvm.MethodName)) ∈ gw := gw_of (i := 451) (by decide +kernel) (by decide +kernel)
theorem wk_452 : (Jvm.Cond.selects "ListWeaveModel" ({ cls := "ListWeaveModel", name := "at", desc := "(II)I" } : Jvm.MethodName) ({ cls := "ListWeaveModel", name := "at", desc := "(II)I" } : Jvm.MethodName)) ∈ gw := gw_of (i := 452) (by decide +kernel) (by decide +kernel)
theorem wk_453 : (Jvm.Cond.code ({ cls := "ListWeaveModel", name := "at", desc := "(II)I" } : Jvm.MethodName) prog_5_method_24_code (4 : Nat) (Option.some Jvm.ClassFile.FieldType.int)) ∈ gw := gw_of (i := 453) (by decide +kernel) (by decide +kernel)
theorem wk_454 : (Jvm.Cond.methodLink "ListWeaveModel" (93 : Nat) ({ cls := "ListWeaveModel", name := "elementAt", desc := "(I)I" } : Jvm.MethodName)) ∈ gw := gw_of (i := 454) (by decide +kernel) (by decide +kernel)
theorem wk_456 : (Jvm.Cond.instanceMethod ({ cls := "ListWeaveModel", name := "elementAt", desc := "(I)I" } : Jvm.MethodName)) ∈ gw := gw_of (i := 456) (by decide +kernel) (by decide +kernel)
theorem wk_457 : (Jvm.Cond.code ({ cls := "ListWeaveModel", name := "elementAt", desc := "(I)I" } : Jvm.MethodName) prog_5_method_20_code (4 : Nat) (Option.some Jvm.ClassFile.FieldType.int)) ∈ gw := gw_of (i := 457) (by decide +kernel) (by decide +kernel)
theorem wk_458 : (Jvm.Cond.methodLink "ListWeaveModel" (83 : Nat) ({ cls := "ListWeaveModel", name := "weave", desc := "()V" } : Jvm.MethodName)) ∈ gw := gw_of (i := 458) (by decide +kernel) (by decide +kernel)
theorem wk_460 : (Jvm.Cond.instanceMethod ({ cls := "ListWeaveModel", name := "weave", desc := "()V" } : Jvm.MethodName)) ∈ gw := gw_of (i := 460) (by decide +kernel) (by decide +kernel)
theorem wk_461 : (Jvm.Cond.code ({ cls := "ListWeaveModel", name := "weave", desc := "()V" } : Jvm.MethodName) prog_5_method_19_code (4 : Nat) (Option.none : Option Jvm.ClassFile.FieldType)) ∈ gw := gw_of (i := 461) (by decide +kernel) (by decide +kernel)
theorem wk_462 : (Jvm.Cond.methodLink "ListWeaveModel" (79 : Nat) ({ cls := "ListWeaveModel", name := "push", desc := "(II)I" } : Jvm.MethodName)) ∈ gw := gw_of (i := 462) (by decide +kernel) (by decide +kernel)
theorem wk_464 : (Jvm.Cond.instanceMethod ({ cls := "ListWeaveModel", name := "push", desc := "(II)I" } : Jvm.MethodName)) ∈ gw := gw_of (i := 464) (by decide +kernel) (by decide +kernel)
theorem wk_465 : (Jvm.Cond.code ({ cls := "ListWeaveModel", name := "push", desc := "(II)I" } : Jvm.MethodName) prog_5_method_18_code (7 : Nat) (Option.some Jvm.ClassFile.FieldType.int)) ∈ gw := gw_of (i := 465) (by decide +kernel) (by decide +kernel)
theorem wk_466 : (Jvm.Cond.methodLink "ListWeaveModel" (96 : Nat) ({ cls := "ListWeaveModel", name := "kindOf", desc := "(I)I" } : Jvm.MethodName)) ∈ gw := gw_of (i := 466) (by decide +kernel) (by decide +kernel)
theorem wk_468 : (Jvm.Cond.instanceMethod ({ cls := "ListWeaveModel", name := "kindOf", desc := "(I)I" } : Jvm.MethodName)) ∈ gw := gw_of (i := 468) (by decide +kernel) (by decide +kernel)
theorem wk_469 : (Jvm.Cond.code ({ cls := "ListWeaveModel", name := "kindOf", desc := "(I)I" } : Jvm.MethodName) prog_5_method_16_code (3 : Nat) (Option.some Jvm.ClassFile.FieldType.int)) ∈ gw := gw_of (i := 469) (by decide +kernel) (by decide +kernel)
theorem wk_470 : (Jvm.Cond.methodLink "ListWeaveModel" (76 : Nat) ({ cls := "ListWeaveModel", name := "standing", desc := "(I)I" } : Jvm.MethodName)) ∈ gw := gw_of (i := 470) (by decide +kernel) (by decide +kernel)
theorem wk_472 : (Jvm.Cond.instanceMethod ({ cls := "ListWeaveModel", name := "standing", desc := "(I)I" } : Jvm.MethodName)) ∈ gw := gw_of (i := 472) (by decide +kernel) (by decide +kernel)
theorem wk_473 : (Jvm.Cond.code ({ cls := "ListWeaveModel", name := "standing", desc := "(I)I" } : Jvm.MethodName) prog_5_method_15_code (5 : Nat) (Option.some Jvm.ClassFile.FieldType.int)) ∈ gw := gw_of (i := 473) (by decide +kernel) (by decide +kernel)
theorem wk_474 : (Jvm.Cond.methodLink "ListWeaveModel" (99 : Nat) ({ cls := "ListWeaveModel", name := "valueOf", desc := "(I)I" } : Jvm.MethodName)) ∈ gw := gw_of (i := 474) (by decide +kernel) (by decide +kernel)
theorem wk_476 : (Jvm.Cond.instanceMethod ({ cls := "ListWeaveModel", name := "valueOf", desc := "(I)I" } : Jvm.MethodName)) ∈ gw := gw_of (i := 476) (by decide +kernel) (by decide +kernel)
theorem wk_477 : (Jvm.Cond.code ({ cls := "ListWeaveModel", name := "valueOf", desc := "(I)I" } : Jvm.MethodName) prog_5_method_17_code (3 : Nat) (Option.some Jvm.ClassFile.FieldType.int)) ∈ gw := gw_of (i := 477) (by decide +kernel) (by decide +kernel)
theorem wk_478 : (Jvm.Cond.methodLink "ListWeaveModel" (102 : Nat) ({ cls := "ListWeaveModel", name := "idStanding", desc := "(I)I" } : Jvm.MethodName)) ∈ gw := gw_of (i := 478) (by decide +kernel) (by decide +kernel)
theorem wk_480 : (Jvm.Cond.instanceMethod ({ cls := "ListWeaveModel", name := "idStanding", desc := "(I)I" } : Jvm.MethodName)) ∈ gw := gw_of (i := 480) (by decide +kernel) (by decide +kernel)
theorem wk_481 : (Jvm.Cond.code ({ cls := "ListWeaveModel", name := "idStanding", desc := "(I)I" } : Jvm.MethodName) prog_5_method_23_code (3 : Nat) (Option.some Jvm.ClassFile.FieldType.int)) ∈ gw := gw_of (i := 481) (by decide +kernel) (by decide +kernel)
theorem wk_482 : (Jvm.Cond.methodLink "ListWeaveLaw" (76 : Nat) ({ cls := "ListWeaveModel", name := "place", desc := "(I)I" } : Jvm.MethodName)) ∈ gw := gw_of (i := 482) (by decide +kernel) (by decide +kernel)
theorem wk_483 : (Jvm.Cond.instanceMethod ({ cls := "ListWeaveModel", name := "place", desc := "(I)I" } : Jvm.MethodName)) ∈ gw := gw_of (i := 483) (by decide +kernel) (by decide +kernel)
theorem wk_484 : (Jvm.Cond.selects "ListWeaveModel" ({ cls := "ListWeaveModel", name := "place", desc := "(I)I" } : Jvm.MethodName) ({ cls := "ListWeaveModel", name := "place", desc := "(I)I" } : Jvm.MethodName)) ∈ gw := gw_of (i := 484) (by decide +kernel) (by decide +kernel)
theorem wk_485 : (Jvm.Cond.code ({ cls := "ListWeaveModel", name := "place", desc := "(I)I" } : Jvm.MethodName) prog_5_method_26_code (2 : Nat) (Option.some Jvm.ClassFile.FieldType.int)) ∈ gw := gw_of (i := 485) (by decide +kernel) (by decide +kernel)
theorem wk_486 : (Jvm.Cond.methodLink "ListWeaveModel" (105 : Nat) ({ cls := "ListWeaveModel", name := "aheadOf", desc := "(I)I" } : Jvm.MethodName)) ∈ gw := gw_of (i := 486) (by decide +kernel) (by decide +kernel)
theorem wk_488 : (Jvm.Cond.instanceMethod ({ cls := "ListWeaveModel", name := "aheadOf", desc := "(I)I" } : Jvm.MethodName)) ∈ gw := gw_of (i := 488) (by decide +kernel) (by decide +kernel)
theorem wk_489 : (Jvm.Cond.code ({ cls := "ListWeaveModel", name := "aheadOf", desc := "(I)I" } : Jvm.MethodName) prog_5_method_25_code (4 : Nat) (Option.some Jvm.ClassFile.FieldType.int)) ∈ gw := gw_of (i := 489) (by decide +kernel) (by decide +kernel)
theorem wk_490 : (Jvm.Cond.methodLink "ListWeaveLaw" (80 : Nat) ({ cls := "ListWeaveModel", name := "ahead", desc := "(I)I" } : Jvm.MethodName)) ∈ gw := gw_of (i := 490) (by decide +kernel) (by decide +kernel)
theorem wk_491 : (Jvm.Cond.instanceMethod ({ cls := "ListWeaveModel", name := "ahead", desc := "(I)I" } : Jvm.MethodName)) ∈ gw := gw_of (i := 491) (by decide +kernel) (by decide +kernel)
theorem wk_492 : (Jvm.Cond.selects "ListWeaveModel" ({ cls := "ListWeaveModel", name := "ahead", desc := "(I)I" } : Jvm.MethodName) ({ cls := "ListWeaveModel", name := "ahead", desc := "(I)I" } : Jvm.MethodName)) ∈ gw := gw_of (i := 492) (by decide +kernel) (by decide +kernel)
theorem wk_493 : (Jvm.Cond.code ({ cls := "ListWeaveModel", name := "ahead", desc := "(I)I" } : Jvm.MethodName) prog_5_method_27_code (2 : Nat) (Option.some Jvm.ClassFile.FieldType.int)) ∈ gw := gw_of (i := 493) (by decide +kernel) (by decide +kernel)
theorem wk_494 : (Jvm.Cond.methodLink "ListWeaveLaw" (83 : Nat) ({ cls := "ListWeaveModel", name := "before", desc := "(II)Z" } : Jvm.MethodName)) ∈ gw := gw_of (i := 494) (by decide +kernel) (by decide +kernel)
theorem wk_495 : (Jvm.Cond.instanceMethod ({ cls := "ListWeaveModel", name := "before", desc := "(II)Z" } : Jvm.MethodName)) ∈ gw := gw_of (i := 495) (by decide +kernel) (by decide +kernel)
theorem wk_496 : (Jvm.Cond.selects "ListWeaveModel" ({ cls := "ListWeaveModel", name := "before", desc := "(II)Z" } : Jvm.MethodName) ({ cls := "ListWeaveModel", name := "before", desc := "(II)Z" } : Jvm.MethodName)) ∈ gw := gw_of (i := 496) (by decide +kernel) (by decide +kernel)
theorem wk_497 : (Jvm.Cond.code ({ cls := "ListWeaveModel", name := "before", desc := "(II)Z" } : Jvm.MethodName) prog_5_method_29_code (3 : Nat) (Option.some Jvm.ClassFile.FieldType.boolean)) ∈ gw := gw_of (i := 497) (by decide +kernel) (by decide +kernel)
theorem wk_498 : (Jvm.Cond.methodLink "ListWeaveModel" (108 : Nat) ({ cls := "ListWeaveModel", name := "rowOf", desc := "(I)I" } : Jvm.MethodName)) ∈ gw := gw_of (i := 498) (by decide +kernel) (by decide +kernel)
theorem wk_500 : (Jvm.Cond.instanceMethod ({ cls := "ListWeaveModel", name := "rowOf", desc := "(I)I" } : Jvm.MethodName)) ∈ gw := gw_of (i := 500) (by decide +kernel) (by decide +kernel)
theorem wk_501 : (Jvm.Cond.code ({ cls := "ListWeaveModel", name := "rowOf", desc := "(I)I" } : Jvm.MethodName) prog_5_method_28_code (4 : Nat) (Option.some Jvm.ClassFile.FieldType.int)) ∈ gw := gw_of (i := 501) (by decide +kernel) (by decide +kernel)
theorem wk_502 : (Jvm.Cond.methodLink "ListWeaveLaw" (86 : Nat) ({ cls := "ListWeaveModel", name := "row", desc := "(I)I" } : Jvm.MethodName)) ∈ gw := gw_of (i := 502) (by decide +kernel) (by decide +kernel)
theorem wk_503 : (Jvm.Cond.instanceMethod ({ cls := "ListWeaveModel", name := "row", desc := "(I)I" } : Jvm.MethodName)) ∈ gw := gw_of (i := 503) (by decide +kernel) (by decide +kernel)
theorem wk_504 : (Jvm.Cond.selects "ListWeaveModel" ({ cls := "ListWeaveModel", name := "row", desc := "(I)I" } : Jvm.MethodName) ({ cls := "ListWeaveModel", name := "row", desc := "(I)I" } : Jvm.MethodName)) ∈ gw := gw_of (i := 504) (by decide +kernel) (by decide +kernel)
theorem wk_505 : (Jvm.Cond.code ({ cls := "ListWeaveModel", name := "row", desc := "(I)I" } : Jvm.MethodName) prog_5_method_30_code (2 : Nat) (Option.some Jvm.ClassFile.FieldType.int)) ∈ gw := gw_of (i := 505) (by decide +kernel) (by decide +kernel)
theorem wk_506 : (Jvm.Cond.methodLink "ListWeaveLaw" (89 : Nat) ({ cls := "ListWeaveModel", name := "of", desc := "(II)I" } : Jvm.MethodName)) ∈ gw := gw_of (i := 506) (by decide +kernel) (by decide +kernel)
theorem wk_507 : (Jvm.Cond.instanceMethod ({ cls := "ListWeaveModel", name := "of", desc := "(II)I" } : Jvm.MethodName)) ∈ gw := gw_of (i := 507) (by decide +kernel) (by decide +kernel)
theorem wk_508 : (Jvm.Cond.selects "ListWeaveModel" ({ cls := "ListWeaveModel", name := "of", desc := "(II)I" } : Jvm.MethodName) ({ cls := "ListWeaveModel", name := "of", desc := "(II)I" } : Jvm.MethodName)) ∈ gw := gw_of (i := 508) (by decide +kernel) (by decide +kernel)
theorem wk_509 : (Jvm.Cond.code ({ cls := "ListWeaveModel", name := "of", desc := "(II)I" } : Jvm.MethodName) prog_5_method_32_code (4 : Nat) (Option.some Jvm.ClassFile.FieldType.int)) ∈ gw := gw_of (i := 509) (by decide +kernel) (by decide +kernel)
theorem wk_510 : (Jvm.Cond.methodLink "ListWeaveModel" (111 : Nat) ({ cls := "ListWeaveModel", name := "counted", desc := "(II)I" } : Jvm.MethodName)) ∈ gw := gw_of (i := 510) (by decide +kernel) (by decide +kernel)
theorem wk_512 : (Jvm.Cond.instanceMethod ({ cls := "ListWeaveModel", name := "counted", desc := "(II)I" } : Jvm.MethodName)) ∈ gw := gw_of (i := 512) (by decide +kernel) (by decide +kernel)
theorem wk_513 : (Jvm.Cond.code ({ cls := "ListWeaveModel", name := "counted", desc := "(II)I" } : Jvm.MethodName) prog_5_method_31_code (5 : Nat) (Option.some Jvm.ClassFile.FieldType.int)) ∈ gw := gw_of (i := 513) (by decide +kernel) (by decide +kernel)
theorem wk_514 : (Jvm.Cond.methodLink "ListWeaveLaw" (94 : Nat) ({ cls := "ListWeaveModel", name := "sum", desc := "(II)J" } : Jvm.MethodName)) ∈ gw := gw_of (i := 514) (by decide +kernel) (by decide +kernel)
theorem wk_515 : (Jvm.Cond.instanceMethod ({ cls := "ListWeaveModel", name := "sum", desc := "(II)J" } : Jvm.MethodName)) ∈ gw := gw_of (i := 515) (by decide +kernel) (by decide +kernel)
theorem wk_516 : (Jvm.Cond.selects "ListWeaveModel" ({ cls := "ListWeaveModel", name := "sum", desc := "(II)J" } : Jvm.MethodName) ({ cls := "ListWeaveModel", name := "sum", desc := "(II)J" } : Jvm.MethodName)) ∈ gw := gw_of (i := 516) (by decide +kernel) (by decide +kernel)
theorem wk_517 : (Jvm.Cond.code ({ cls := "ListWeaveModel", name := "sum", desc := "(II)J" } : Jvm.MethodName) prog_5_method_33_code (7 : Nat) (Option.some Jvm.ClassFile.FieldType.long)) ∈ gw := gw_of (i := 517) (by decide +kernel) (by decide +kernel)
theorem wk_518 : (Jvm.Cond.methodLink "ListWeaveLaw" (98 : Nat) ({ cls := "ListWeaveModel", name := "look", desc := "(I)I" } : Jvm.MethodName)) ∈ gw := gw_of (i := 518) (by decide +kernel) (by decide +kernel)
theorem wk_519 : (Jvm.Cond.instanceMethod ({ cls := "ListWeaveModel", name := "look", desc := "(I)I" } : Jvm.MethodName)) ∈ gw := gw_of (i := 519) (by decide +kernel) (by decide +kernel)
theorem wk_520 : (Jvm.Cond.selects "ListWeaveModel" ({ cls := "ListWeaveModel", name := "look", desc := "(I)I" } : Jvm.MethodName) ({ cls := "ListWeaveModel", name := "look", desc := "(I)I" } : Jvm.MethodName)) ∈ gw := gw_of (i := 520) (by decide +kernel) (by decide +kernel)
theorem wk_521 : (Jvm.Cond.code ({ cls := "ListWeaveModel", name := "look", desc := "(I)I" } : Jvm.MethodName) prog_5_method_36_code (2 : Nat) (Option.some Jvm.ClassFile.FieldType.int)) ∈ gw := gw_of (i := 521) (by decide +kernel) (by decide +kernel)
theorem wk_522 : (Jvm.Cond.methodLink "ListWeaveModel" (114 : Nat) ({ cls := "ListWeaveModel", name := "greatest", desc := "()I" } : Jvm.MethodName)) ∈ gw := gw_of (i := 522) (by decide +kernel) (by decide +kernel)
theorem wk_524 : (Jvm.Cond.instanceMethod ({ cls := "ListWeaveModel", name := "greatest", desc := "()I" } : Jvm.MethodName)) ∈ gw := gw_of (i := 524) (by decide +kernel) (by decide +kernel)
theorem wk_525 : (Jvm.Cond.code ({ cls := "ListWeaveModel", name := "greatest", desc := "()I" } : Jvm.MethodName) prog_5_method_35_code (3 : Nat) (Option.some Jvm.ClassFile.FieldType.int)) ∈ gw := gw_of (i := 525) (by decide +kernel) (by decide +kernel)
theorem wk_526 : (Jvm.Cond.methodLink "ListWeaveModel" (117 : Nat) ({ cls := "ListWeaveModel", name := "deepest", desc := "()I" } : Jvm.MethodName)) ∈ gw := gw_of (i := 526) (by decide +kernel) (by decide +kernel)
theorem wk_528 : (Jvm.Cond.instanceMethod ({ cls := "ListWeaveModel", name := "deepest", desc := "()I" } : Jvm.MethodName)) ∈ gw := gw_of (i := 528) (by decide +kernel) (by decide +kernel)
theorem wk_529 : (Jvm.Cond.code ({ cls := "ListWeaveModel", name := "deepest", desc := "()I" } : Jvm.MethodName) prog_5_method_34_code (5 : Nat) (Option.some Jvm.ClassFile.FieldType.int)) ∈ gw := gw_of (i := 529) (by decide +kernel) (by decide +kernel)
theorem wk_530 : (Jvm.Cond.constantLong "ListWeaveLaw" (44 : Nat) (4294967295 : Int64)) ∈ gw := gw_of (i := 530) (by decide +kernel) (by decide +kernel)
theorem wk_531 : (Jvm.Cond.arrayClass Jvm.ClassFile.FieldType.long) ∈ gw := gw_of (i := 531) (by decide +kernel) (by decide +kernel)
theorem wp_0 : Cond.selects "ListWeave$UsedIds" ⟨"ListWeave$UsedIds", "forgetAll", "()V"⟩ ⟨"ListWeave$UsedIds", "forgetAll", "()V"⟩ ∈ gw := gw_pr (i := 0) (q := (⟨"ListWeave$UsedIds", "forgetAll", "()V"⟩, 2)) (by decide +kernel)
theorem wp_1 : Cond.selects "ListWeave" ⟨"ListWeave", "elementOrBeginning", "(I)LListWeave$Element;"⟩ ⟨"ListWeave", "elementOrBeginning", "(I)LListWeave$Element;"⟩ ∈ gw := gw_pr (i := 1) (q := (⟨"ListWeave", "elementOrBeginning", "(I)LListWeave$Element;"⟩, 5)) (by decide +kernel)
theorem wp_2 : Cond.selects "ListWeave" ⟨"ListWeave", "elementOf", "(I)LListWeave$Element;"⟩ ⟨"ListWeave", "elementOf", "(I)LListWeave$Element;"⟩ ∈ gw := gw_pr (i := 2) (q := (⟨"ListWeave", "elementOf", "(I)LListWeave$Element;"⟩, 5)) (by decide +kernel)
theorem wp_3 : Cond.selects "ListWeave" ⟨"ListWeave", "rowOf", "(I)I"⟩ ⟨"ListWeave", "rowOf", "(I)I"⟩ ∈ gw := gw_pr (i := 3) (q := (⟨"ListWeave", "rowOf", "(I)I"⟩, 5)) (by decide +kernel)
theorem wp_4 : Cond.selects "ListWeave" ⟨"ListWeave", "isFree", "(I)Z"⟩ ⟨"ListWeave", "isFree", "(I)Z"⟩ ∈ gw := gw_pr (i := 4) (q := (⟨"ListWeave", "isFree", "(I)Z"⟩, 5)) (by decide +kernel)
theorem wp_5 : Cond.selects "ListWeave$UsedIds" ⟨"ListWeave$UsedIds", "has", "(I)Z"⟩ ⟨"ListWeave$UsedIds", "has", "(I)Z"⟩ ∈ gw := gw_pr (i := 5) (q := (⟨"ListWeave$UsedIds", "has", "(I)Z"⟩, 2)) (by decide +kernel)
theorem wp_6 : Cond.selects "ListWeave$UsedIds" ⟨"ListWeave$UsedIds", "firstNotBelow", "(I)I"⟩ ⟨"ListWeave$UsedIds", "firstNotBelow", "(I)I"⟩ ∈ gw := gw_pr (i := 6) (q := (⟨"ListWeave$UsedIds", "firstNotBelow", "(I)I"⟩, 2)) (by decide +kernel)
theorem wp_7 : Cond.selects "ListWeave" ⟨"ListWeave", "weave", "(ILListWeave$Element;II)LListWeave$Element;"⟩ ⟨"ListWeave", "weave", "(ILListWeave$Element;II)LListWeave$Element;"⟩ ∈ gw := gw_pr (i := 7) (q := (⟨"ListWeave", "weave", "(ILListWeave$Element;II)LListWeave$Element;"⟩, 5)) (by decide +kernel)
theorem wp_8 : Cond.selects "ListWeave" ⟨"ListWeave", "rowForNew", "(ILListWeave$Element;)I"⟩ ⟨"ListWeave", "rowForNew", "(ILListWeave$Element;)I"⟩ ∈ gw := gw_pr (i := 8) (q := (⟨"ListWeave", "rowForNew", "(ILListWeave$Element;)I"⟩, 5)) (by decide +kernel)
theorem wp_9 : Cond.selects "ListWeave$Element" ⟨"ListWeave$Element", "offer", "(III)V"⟩ ⟨"ListWeave$Element", "offer", "(III)V"⟩ ∈ gw := gw_pr (i := 9) (q := (⟨"ListWeave$Element", "offer", "(III)V"⟩, 9)) (by decide +kernel)
theorem wp_10 : Cond.selects "ListWeave$UsedIds" ⟨"ListWeave$UsedIds", "note", "(I)V"⟩ ⟨"ListWeave$UsedIds", "note", "(I)V"⟩ ∈ gw := gw_pr (i := 10) (q := (⟨"ListWeave$UsedIds", "note", "(I)V"⟩, 2)) (by decide +kernel)
theorem wp_11 : Cond.selects "ListWeave" ⟨"ListWeave", "areFree", "(II)Z"⟩ ⟨"ListWeave", "areFree", "(II)Z"⟩ ∈ gw := gw_pr (i := 11) (q := (⟨"ListWeave", "areFree", "(II)Z"⟩, 5)) (by decide +kernel)
theorem wp_12 : Cond.selects "ListWeave" ⟨"ListWeave", "mayChange", "(II)Z"⟩ ⟨"ListWeave", "mayChange", "(II)Z"⟩ ∈ gw := gw_pr (i := 12) (q := (⟨"ListWeave", "mayChange", "(II)Z"⟩, 5)) (by decide +kernel)
theorem wp_13 : Cond.selects "ListWeave" ⟨"ListWeave", "countChange", "(I)V"⟩ ⟨"ListWeave", "countChange", "(I)V"⟩ ∈ gw := gw_pr (i := 13) (q := (⟨"ListWeave", "countChange", "(I)V"⟩, 5)) (by decide +kernel)
theorem wp_14 : Cond.selects "ListWeave" ⟨"ListWeave", "visibleUpTo", "(I)I"⟩ ⟨"ListWeave", "visibleUpTo", "(I)I"⟩ ∈ gw := gw_pr (i := 14) (q := (⟨"ListWeave", "visibleUpTo", "(I)I"⟩, 5)) (by decide +kernel)
theorem wp_15 : Cond.selects "ListWeave$Element" ⟨"ListWeave$Element", "isVisible", "()Z"⟩ ⟨"ListWeave$Element", "isVisible", "()Z"⟩ ∈ gw := gw_pr (i := 15) (q := (⟨"ListWeave$Element", "isVisible", "()Z"⟩, 9)) (by decide +kernel)
theorem wp_16 : Cond.selects "ListWeave$UsedIds" ⟨"ListWeave$UsedIds", "greatest", "()I"⟩ ⟨"ListWeave$UsedIds", "greatest", "()I"⟩ ∈ gw := gw_pr (i := 16) (q := (⟨"ListWeave$UsedIds", "greatest", "()I"⟩, 2)) (by decide +kernel)
theorem wp_17 : Cond.selects "ListWeave" ⟨"ListWeave", "longestWay", "()I"⟩ ⟨"ListWeave", "longestWay", "()I"⟩ ∈ gw := gw_pr (i := 17) (q := (⟨"ListWeave", "longestWay", "()I"⟩, 5)) (by decide +kernel)
theorem wp_18 : Cond.selects "ListWeave" ⟨"ListWeave", "elementAt", "(I)LListWeave$Element;"⟩ ⟨"ListWeave", "elementAt", "(I)LListWeave$Element;"⟩ ∈ gw := gw_pr (i := 18) (q := (⟨"ListWeave", "elementAt", "(I)LListWeave$Element;"⟩, 5)) (by decide +kernel)
theorem wp_19 : Cond.selects "java/lang/Throwable" ⟨"java/lang/Throwable", "fillInStackTrace", "(I)Ljava/lang/Throwable;"⟩ ⟨"java/lang/Throwable", "fillInStackTrace", "(I)Ljava/lang/Throwable;"⟩ ∈ gw := gw_pr (i := 19) (q := (⟨"java/lang/Throwable", "fillInStackTrace", "(I)Ljava/lang/Throwable;"⟩, 6)) (by decide +kernel)
theorem wp_20 : Cond.selects "ListWeaveModel" ⟨"ListWeaveModel", "canInsert", "(II)Z"⟩ ⟨"ListWeaveModel", "canInsert", "(II)Z"⟩ ∈ gw := gw_pr (i := 20) (q := (⟨"ListWeaveModel", "canInsert", "(II)Z"⟩, 13)) (by decide +kernel)
theorem wp_21 : Cond.selects "ListWeaveModel" ⟨"ListWeaveModel", "isNew", "(I)Z"⟩ ⟨"ListWeaveModel", "isNew", "(I)Z"⟩ ∈ gw := gw_pr (i := 21) (q := (⟨"ListWeaveModel", "isNew", "(I)Z"⟩, 13)) (by decide +kernel)
theorem wp_22 : Cond.selects "ListWeaveModel" ⟨"ListWeaveModel", "placeOf", "(I)I"⟩ ⟨"ListWeaveModel", "placeOf", "(I)I"⟩ ∈ gw := gw_pr (i := 22) (q := (⟨"ListWeaveModel", "placeOf", "(I)I"⟩, 13)) (by decide +kernel)
theorem wp_23 : Cond.selects "ListWeaveModel" ⟨"ListWeaveModel", "keep", "(IIII)V"⟩ ⟨"ListWeaveModel", "keep", "(IIII)V"⟩ ∈ gw := gw_pr (i := 23) (q := (⟨"ListWeaveModel", "keep", "(IIII)V"⟩, 13)) (by decide +kernel)
theorem wp_24 : Cond.selects "ListWeaveModel" ⟨"ListWeaveModel", "does", "(IIII)Z"⟩ ⟨"ListWeaveModel", "does", "(IIII)Z"⟩ ∈ gw := gw_pr (i := 24) (q := (⟨"ListWeaveModel", "does", "(IIII)Z"⟩, 13)) (by decide +kernel)
theorem wp_25 : Cond.selects "ListWeaveModel" ⟨"ListWeaveModel", "sizeOf", "()I"⟩ ⟨"ListWeaveModel", "sizeOf", "()I"⟩ ∈ gw := gw_pr (i := 25) (q := (⟨"ListWeaveModel", "sizeOf", "()I"⟩, 13)) (by decide +kernel)
theorem wp_26 : Cond.selects "ListWeaveModel" ⟨"ListWeaveModel", "isRemoved", "(I)Z"⟩ ⟨"ListWeaveModel", "isRemoved", "(I)Z"⟩ ∈ gw := gw_pr (i := 26) (q := (⟨"ListWeaveModel", "isRemoved", "(I)Z"⟩, 13)) (by decide +kernel)
theorem wp_27 : Cond.selects "ListWeaveModel" ⟨"ListWeaveModel", "elementAt", "(I)I"⟩ ⟨"ListWeaveModel", "elementAt", "(I)I"⟩ ∈ gw := gw_pr (i := 27) (q := (⟨"ListWeaveModel", "elementAt", "(I)I"⟩, 13)) (by decide +kernel)
theorem wp_28 : Cond.selects "ListWeaveModel" ⟨"ListWeaveModel", "weave", "()V"⟩ ⟨"ListWeaveModel", "weave", "()V"⟩ ∈ gw := gw_pr (i := 28) (q := (⟨"ListWeaveModel", "weave", "()V"⟩, 13)) (by decide +kernel)
theorem wp_29 : Cond.selects "ListWeaveModel" ⟨"ListWeaveModel", "push", "(II)I"⟩ ⟨"ListWeaveModel", "push", "(II)I"⟩ ∈ gw := gw_pr (i := 29) (q := (⟨"ListWeaveModel", "push", "(II)I"⟩, 13)) (by decide +kernel)
theorem wp_30 : Cond.selects "ListWeaveModel" ⟨"ListWeaveModel", "kindOf", "(I)I"⟩ ⟨"ListWeaveModel", "kindOf", "(I)I"⟩ ∈ gw := gw_pr (i := 30) (q := (⟨"ListWeaveModel", "kindOf", "(I)I"⟩, 13)) (by decide +kernel)
theorem wp_31 : Cond.selects "ListWeaveModel" ⟨"ListWeaveModel", "standing", "(I)I"⟩ ⟨"ListWeaveModel", "standing", "(I)I"⟩ ∈ gw := gw_pr (i := 31) (q := (⟨"ListWeaveModel", "standing", "(I)I"⟩, 13)) (by decide +kernel)
theorem wp_32 : Cond.selects "ListWeaveModel" ⟨"ListWeaveModel", "valueOf", "(I)I"⟩ ⟨"ListWeaveModel", "valueOf", "(I)I"⟩ ∈ gw := gw_pr (i := 32) (q := (⟨"ListWeaveModel", "valueOf", "(I)I"⟩, 13)) (by decide +kernel)
theorem wp_33 : Cond.selects "ListWeaveModel" ⟨"ListWeaveModel", "idStanding", "(I)I"⟩ ⟨"ListWeaveModel", "idStanding", "(I)I"⟩ ∈ gw := gw_pr (i := 33) (q := (⟨"ListWeaveModel", "idStanding", "(I)I"⟩, 13)) (by decide +kernel)
theorem wp_34 : Cond.selects "ListWeaveModel" ⟨"ListWeaveModel", "aheadOf", "(I)I"⟩ ⟨"ListWeaveModel", "aheadOf", "(I)I"⟩ ∈ gw := gw_pr (i := 34) (q := (⟨"ListWeaveModel", "aheadOf", "(I)I"⟩, 13)) (by decide +kernel)
theorem wp_35 : Cond.selects "ListWeaveModel" ⟨"ListWeaveModel", "rowOf", "(I)I"⟩ ⟨"ListWeaveModel", "rowOf", "(I)I"⟩ ∈ gw := gw_pr (i := 35) (q := (⟨"ListWeaveModel", "rowOf", "(I)I"⟩, 13)) (by decide +kernel)
theorem wp_36 : Cond.selects "ListWeaveModel" ⟨"ListWeaveModel", "counted", "(II)I"⟩ ⟨"ListWeaveModel", "counted", "(II)I"⟩ ∈ gw := gw_pr (i := 36) (q := (⟨"ListWeaveModel", "counted", "(II)I"⟩, 13)) (by decide +kernel)
theorem wp_37 : Cond.selects "ListWeaveModel" ⟨"ListWeaveModel", "greatest", "()I"⟩ ⟨"ListWeaveModel", "greatest", "()I"⟩ ∈ gw := gw_pr (i := 37) (q := (⟨"ListWeaveModel", "greatest", "()I"⟩, 13)) (by decide +kernel)
theorem wp_38 : Cond.selects "ListWeaveModel" ⟨"ListWeaveModel", "deepest", "()I"⟩ ⟨"ListWeaveModel", "deepest", "()I"⟩ ∈ gw := gw_pr (i := 38) (q := (⟨"ListWeaveModel", "deepest", "()I"⟩, 13)) (by decide +kernel)
theorem inX0 : ∀ w ∈ u_ws RX0 TX0 9, w ∈ gw := by decide +kernel
theorem inX1 : ∀ w ∈ u_ws RX1 TX1 2, w ∈ gw := by decide +kernel
theorem inX2 : ∀ w ∈ u_ws RX2 TX2 5, w ∈ gw := by decide +kernel
theorem inX3 : ∀ w ∈ u_ws RX3 TX3 13, w ∈ gw := by decide +kernel
/-- a method's words: its code first, then the good words -/
abbrev gws (y : MethodName) (b : ByteArray) (n : Nat) (r : Option FieldType) : List Cond := Cond.code y b n r :: gw
theorem gw_self {y : MethodName} {b : ByteArray} {n : Nat} {r : Option FieldType} (h : Cond.code y b n r ∈ gw) : GoodIn gw (gws y b n r) := fun w hw => by
  have h1 : w ∈ gw := by
    rcases List.mem_cons.mp hw with e | e
    · rw [e]; exact h
    · exact e
  exact ⟨h1, good_of_word (gw_good w h1)⟩
theorem gw_V {own C : String} {idx : Nat} {y : MethodName} {b : ByteArray} {n : Nat} {r : Option FieldType} (h1 : Cond.methodLink own idx y ∈ gw) (h2 : Cond.instanceMethod y ∈ gw) (h3 : Cond.selects C y y ∈ gw) (h4 : Cond.initialized C ∈ gw) (h5 : Cond.code y b n r ∈ gw) : GoodIn gw (wsV own idx C y (gws y b n r)) := fun w hw => by
  have h9 : w ∈ gw := by
    simp only [wsV, List.cons_append, List.nil_append, List.mem_cons] at hw
    rcases hw with e | e | e | e | e | e
    · rw [e]; exact h1
    · rw [e]; exact h2
    · rw [e]; exact h3
    · rw [e]; exact h4
    · rw [e]; exact h5
    · exact e
  exact ⟨h9, good_of_word (gw_good w h9)⟩
theorem gw_S {own : String} {idx : Nat} {y : MethodName} {b : ByteArray} {n : Nat} {r : Option FieldType} (h1 : Cond.methodLink own idx y ∈ gw) (h2 : Cond.static y ∈ gw) (h4 : Cond.initialized own ∈ gw) (h5 : Cond.code y b n r ∈ gw) : GoodIn gw (wsS own idx y (gws y b n r)) := fun w hw => by
  have h9 : w ∈ gw := by
    simp only [wsS, List.cons_append, List.nil_append, List.mem_cons] at hw
    rcases hw with e | e | e | e | e
    · rw [e]; exact h1
    · rw [e]; exact h2
    · rw [e]; exact h4
    · rw [e]; exact h5
    · exact e
  exact ⟨h9, good_of_word (gw_good w h9)⟩
/-- the words of private members of nest mates -/
def nw_ : List Cond := [(Jvm.Cond.methodLinkNest "ListWeave" (9 : Nat) ({ cls := "ListWeave$UsedIds", name := "<init>", desc := "()V" } : Jvm.MethodName) "ListWeave"), (Jvm.Cond.methodLinkNest "ListWeave" (18 : Nat) ({ cls := "ListWeave$Element", name := "<init>", desc := "(III)V" } : Jvm.MethodName) "ListWeave"), (Jvm.Cond.fieldLinkNest "ListWeave" (98 : Nat) "ListWeave$Element" "id" "I" "ListWeave"), (Jvm.Cond.fieldLinkNest "ListWeave" (128 : Nat) "ListWeave$Element" "behind" "I" "ListWeave"), (Jvm.Cond.fieldLinkNest "ListWeave" (151 : Nat) "ListWeave$Element" "way" "I" "ListWeave"), (Jvm.Cond.fieldLinkNest "ListWeave" (39 : Nat) "ListWeave$Element" "followers" "I" "ListWeave"), (Jvm.Cond.fieldLinkNest "ListWeave" (75 : Nat) "ListWeave$Element" "sets" "I" "ListWeave"), (Jvm.Cond.fieldLinkNest "ListWeave" (81 : Nat) "ListWeave$Element" "removes" "I" "ListWeave"), (Jvm.Cond.fieldLinkNest "ListWeave" (107 : Nat) "ListWeave$Element" "standing" "I" "ListWeave"), (Jvm.Cond.fieldLinkNest "ListWeave" (101 : Nat) "ListWeave$Element" "kind" "I" "ListWeave"), (Jvm.Cond.fieldLinkNest "ListWeave" (104 : Nat) "ListWeave$Element" "value" "I" "ListWeave"), (Jvm.Cond.methodLinkNest "ListWeave" (36 : Nat) ({ cls := "ListWeave$UsedIds", name := "forgetAll", desc := "()V" } : Jvm.MethodName) "ListWeave"), (Jvm.Cond.methodLinkNest "ListWeave" (139 : Nat) ({ cls := "ListWeave$UsedIds", name := "has", desc := "(I)Z" } : Jvm.MethodName) "ListWeave"), (Jvm.Cond.methodLinkNest "ListWeave" (78 : Nat) ({ cls := "ListWeave$Element", name := "offer", desc := "(III)V" } : Jvm.MethodName) "ListWeave"), (Jvm.Cond.methodLinkNest "ListWeave" (142 : Nat) ({ cls := "ListWeave$UsedIds", name := "note", desc := "(I)V" } : Jvm.MethodName) "ListWeave"), (Jvm.Cond.methodLinkNest "ListWeave" (115 : Nat) ({ cls := "ListWeave$Element", name := "isVisible", desc := "()Z" } : Jvm.MethodName) "ListWeave"), (Jvm.Cond.methodLinkNest "ListWeave" (131 : Nat) ({ cls := "ListWeave$UsedIds", name := "greatest", desc := "()I" } : Jvm.MethodName) "ListWeave")]
def NW (U : State) : Prop := ∀ w ∈ nw_, va_Nw w U
theorem nw_on : ∀ w ∈ nw_, w.onTables = true := by decide +kernel
theorem NW.same {u U : State} (h : u.vm = U.vm) (hZ : NW u) : NW U := fun w hw => (hZ w hw).same (nw_on w hw) h
theorem NW.call {U : State} {g : JFrame} {mk : MethodId} {a : Array Value} (h : NW U) : NW (U.calling g mk a) := NW.same (u := U) rfl h
theorem NW.warm {s U : State} (hW : s.WarmedH U.vm) (hZ : NW s) : NW U := List.forall_mem_cons.mpr ⟨va_Nw.warmM hW (hZ _ (List.mem_of_getElem? (i := 0) rfl)), List.forall_mem_cons.mpr ⟨va_Nw.warmM hW (hZ _ (List.mem_of_getElem? (i := 1) rfl)), List.forall_mem_cons.mpr ⟨va_Nw.warmF hW (hZ _ (List.mem_of_getElem? (i := 2) rfl)), List.forall_mem_cons.mpr ⟨va_Nw.warmF hW (hZ _ (List.mem_of_getElem? (i := 3) rfl)), List.forall_mem_cons.mpr ⟨va_Nw.warmF hW (hZ _ (List.mem_of_getElem? (i := 4) rfl)), List.forall_mem_cons.mpr ⟨va_Nw.warmF hW (hZ _ (List.mem_of_getElem? (i := 5) rfl)), List.forall_mem_cons.mpr ⟨va_Nw.warmF hW (hZ _ (List.mem_of_getElem? (i := 6) rfl)), List.forall_mem_cons.mpr ⟨va_Nw.warmF hW (hZ _ (List.mem_of_getElem? (i := 7) rfl)), List.forall_mem_cons.mpr ⟨va_Nw.warmF hW (hZ _ (List.mem_of_getElem? (i := 8) rfl)), List.forall_mem_cons.mpr ⟨va_Nw.warmF hW (hZ _ (List.mem_of_getElem? (i := 9) rfl)), List.forall_mem_cons.mpr ⟨va_Nw.warmF hW (hZ _ (List.mem_of_getElem? (i := 10) rfl)), List.forall_mem_cons.mpr ⟨va_Nw.warmM hW (hZ _ (List.mem_of_getElem? (i := 11) rfl)), List.forall_mem_cons.mpr ⟨va_Nw.warmM hW (hZ _ (List.mem_of_getElem? (i := 12) rfl)), List.forall_mem_cons.mpr ⟨va_Nw.warmM hW (hZ _ (List.mem_of_getElem? (i := 13) rfl)), List.forall_mem_cons.mpr ⟨va_Nw.warmM hW (hZ _ (List.mem_of_getElem? (i := 14) rfl)), List.forall_mem_cons.mpr ⟨va_Nw.warmM hW (hZ _ (List.mem_of_getElem? (i := 15) rfl)), List.forall_mem_cons.mpr ⟨va_Nw.warmM hW (hZ _ (List.mem_of_getElem? (i := 16) rfl)), fun _ h => absurd h List.not_mem_nil⟩⟩⟩⟩⟩⟩⟩⟩⟩⟩⟩⟩⟩⟩⟩⟩⟩
theorem nk_22 {U : State} (h : NW U) : va_Nw (Jvm.Cond.methodLinkNest "ListWeave" (9 : Nat) ({ cls := "ListWeave$UsedIds", name := "<init>", desc := "()V" } : Jvm.MethodName) "ListWeave") U := h _ (List.mem_of_getElem? (i := 0) rfl)
theorem nk_36 {U : State} (h : NW U) : va_Nw (Jvm.Cond.methodLinkNest "ListWeave" (18 : Nat) ({ cls := "ListWeave$Element", name := "<init>", desc := "(III)V" } : Jvm.MethodName) "ListWeave") U := h _ (List.mem_of_getElem? (i := 1) rfl)
theorem nk_41 {U : State} (h : NW U) : va_Nw (Jvm.Cond.fieldLinkNest "ListWeave" (98 : Nat) "ListWeave$Element" "id" "I" "ListWeave") U := h _ (List.mem_of_getElem? (i := 2) rfl)
theorem nk_43 {U : State} (h : NW U) : va_Nw (Jvm.Cond.fieldLinkNest "ListWeave" (128 : Nat) "ListWeave$Element" "behind" "I" "ListWeave") U := h _ (List.mem_of_getElem? (i := 3) rfl)
theorem nk_45 {U : State} (h : NW U) : va_Nw (Jvm.Cond.fieldLinkNest "ListWeave" (151 : Nat) "ListWeave$Element" "way" "I" "ListWeave") U := h _ (List.mem_of_getElem? (i := 4) rfl)
theorem nk_47 {U : State} (h : NW U) : va_Nw (Jvm.Cond.fieldLinkNest "ListWeave" (39 : Nat) "ListWeave$Element" "followers" "I" "ListWeave") U := h _ (List.mem_of_getElem? (i := 5) rfl)
theorem nk_49 {U : State} (h : NW U) : va_Nw (Jvm.Cond.fieldLinkNest "ListWeave" (75 : Nat) "ListWeave$Element" "sets" "I" "ListWeave") U := h _ (List.mem_of_getElem? (i := 6) rfl)
theorem nk_51 {U : State} (h : NW U) : va_Nw (Jvm.Cond.fieldLinkNest "ListWeave" (81 : Nat) "ListWeave$Element" "removes" "I" "ListWeave") U := h _ (List.mem_of_getElem? (i := 7) rfl)
theorem nk_53 {U : State} (h : NW U) : va_Nw (Jvm.Cond.fieldLinkNest "ListWeave" (107 : Nat) "ListWeave$Element" "standing" "I" "ListWeave") U := h _ (List.mem_of_getElem? (i := 8) rfl)
theorem nk_55 {U : State} (h : NW U) : va_Nw (Jvm.Cond.fieldLinkNest "ListWeave" (101 : Nat) "ListWeave$Element" "kind" "I" "ListWeave") U := h _ (List.mem_of_getElem? (i := 9) rfl)
theorem nk_57 {U : State} (h : NW U) : va_Nw (Jvm.Cond.fieldLinkNest "ListWeave" (104 : Nat) "ListWeave$Element" "value" "I" "ListWeave") U := h _ (List.mem_of_getElem? (i := 10) rfl)
theorem nk_98 {U : State} (h : NW U) : va_Nw (Jvm.Cond.methodLinkNest "ListWeave" (36 : Nat) ({ cls := "ListWeave$UsedIds", name := "forgetAll", desc := "()V" } : Jvm.MethodName) "ListWeave") U := h _ (List.mem_of_getElem? (i := 11) rfl)
theorem nk_123 {U : State} (h : NW U) : va_Nw (Jvm.Cond.methodLinkNest "ListWeave" (139 : Nat) ({ cls := "ListWeave$UsedIds", name := "has", desc := "(I)Z" } : Jvm.MethodName) "ListWeave") U := h _ (List.mem_of_getElem? (i := 12) rfl)
theorem nk_142 {U : State} (h : NW U) : va_Nw (Jvm.Cond.methodLinkNest "ListWeave" (78 : Nat) ({ cls := "ListWeave$Element", name := "offer", desc := "(III)V" } : Jvm.MethodName) "ListWeave") U := h _ (List.mem_of_getElem? (i := 13) rfl)
theorem nk_146 {U : State} (h : NW U) : va_Nw (Jvm.Cond.methodLinkNest "ListWeave" (142 : Nat) ({ cls := "ListWeave$UsedIds", name := "note", desc := "(I)V" } : Jvm.MethodName) "ListWeave") U := h _ (List.mem_of_getElem? (i := 14) rfl)
theorem nk_189 {U : State} (h : NW U) : va_Nw (Jvm.Cond.methodLinkNest "ListWeave" (115 : Nat) ({ cls := "ListWeave$Element", name := "isVisible", desc := "()Z" } : Jvm.MethodName) "ListWeave") U := h _ (List.mem_of_getElem? (i := 15) rfl)
theorem nk_205 {U : State} (h : NW U) : va_Nw (Jvm.Cond.methodLinkNest "ListWeave" (131 : Nat) ({ cls := "ListWeave$UsedIds", name := "greatest", desc := "()I" } : Jvm.MethodName) "ListWeave") U := h _ (List.mem_of_getElem? (i := 16) rfl)
end
section
theorem dX0_init_0 : decode cX0_init 0 = .ok (.aload_n 0, 1) := by decide +kernel
theorem dX0_init_1 : decode cX0_init 1 = .ok (.invokespecial 3, 3) := by decide +kernel
theorem dX0_init_4 : decode cX0_init 4 = .ok (.aload_n 0, 1) := by decide +kernel
theorem dX0_init_5 : decode cX0_init 5 = .ok (.iload_n 1, 1) := by decide +kernel
theorem dX0_init_6 : decode cX0_init 6 = .ok (.putfield 9, 3) := by decide +kernel
theorem dX0_init_9 : decode cX0_init 9 = .ok (.aload_n 0, 1) := by decide +kernel
theorem dX0_init_10 : decode cX0_init 10 = .ok (.iload_n 2, 1) := by decide +kernel
theorem dX0_init_11 : decode cX0_init 11 = .ok (.putfield 15, 3) := by decide +kernel
theorem dX0_init_14 : decode cX0_init 14 = .ok (.aload_n 0, 1) := by decide +kernel
theorem dX0_init_15 : decode cX0_init 15 = .ok (.iload_n 3, 1) := by decide +kernel
theorem dX0_init_16 : decode cX0_init 16 = .ok (.putfield 18, 3) := by decide +kernel
theorem dX0_init_19 : decode cX0_init 19 = .ok (.aload_n 0, 1) := by decide +kernel
theorem dX0_init_20 : decode cX0_init 20 = .ok (.iconst 0, 1) := by decide +kernel
theorem dX0_init_21 : decode cX0_init 21 = .ok (.putfield 21, 3) := by decide +kernel
theorem dX0_init_24 : decode cX0_init 24 = .ok (.aload_n 0, 1) := by decide +kernel
theorem dX0_init_25 : decode cX0_init 25 = .ok (.iconst 0, 1) := by decide +kernel
theorem dX0_init_26 : decode cX0_init 26 = .ok (.putfield 24, 3) := by decide +kernel
theorem dX0_init_29 : decode cX0_init 29 = .ok (.aload_n 0, 1) := by decide +kernel
theorem dX0_init_30 : decode cX0_init 30 = .ok (.iconst 0, 1) := by decide +kernel
theorem dX0_init_31 : decode cX0_init 31 = .ok (.putfield 27, 3) := by decide +kernel
theorem dX0_init_34 : decode cX0_init 34 = .ok (.aload_n 0, 1) := by decide +kernel
theorem dX0_init_35 : decode cX0_init 35 = .ok (.iconst (-1), 1) := by decide +kernel
theorem dX0_init_36 : decode cX0_init 36 = .ok (.putfield 30, 3) := by decide +kernel
theorem dX0_init_39 : decode cX0_init 39 = .ok (.aload_n 0, 1) := by decide +kernel
theorem dX0_init_40 : decode cX0_init 40 = .ok (.iconst 0, 1) := by decide +kernel
theorem dX0_init_41 : decode cX0_init 41 = .ok (.putfield 33, 3) := by decide +kernel
theorem dX0_init_44 : decode cX0_init 44 = .ok (.aload_n 0, 1) := by decide +kernel
theorem dX0_init_45 : decode cX0_init 45 = .ok (.iconst 0, 1) := by decide +kernel
theorem dX0_init_46 : decode cX0_init 46 = .ok (.putfield 36, 3) := by decide +kernel
theorem dX0_init_49 : decode cX0_init 49 = .ok (.return_, 1) := by decide +kernel
theorem dX0_isVisible_0 : decode cX0_isVisible 0 = .ok (.aload_n 0, 1) := by decide +kernel
theorem dX0_isVisible_1 : decode cX0_isVisible 1 = .ok (.getfield 27, 3) := by decide +kernel
theorem dX0_isVisible_4 : decode cX0_isVisible 4 = .ok (.ifCond .ne 7, 3) := by decide +kernel
theorem dX0_isVisible_7 : decode cX0_isVisible 7 = .ok (.iconst 1, 1) := by decide +kernel
theorem dX0_isVisible_8 : decode cX0_isVisible 8 = .ok (.goto 4, 3) := by decide +kernel
theorem dX0_isVisible_11 : decode cX0_isVisible 11 = .ok (.iconst 0, 1) := by decide +kernel
theorem dX0_isVisible_12 : decode cX0_isVisible 12 = .ok (.ireturn, 1) := by decide +kernel
theorem dX0_offer_0 : decode cX0_offer 0 = .ok (.iload_n 1, 1) := by decide +kernel
theorem dX0_offer_1 : decode cX0_offer 1 = .ok (.aload_n 0, 1) := by decide +kernel
theorem dX0_offer_2 : decode cX0_offer 2 = .ok (.getfield 30, 3) := by decide +kernel
theorem dX0_offer_5 : decode cX0_offer 5 = .ok (.if_icmp .le 18, 3) := by decide +kernel
theorem dX0_offer_8 : decode cX0_offer 8 = .ok (.aload_n 0, 1) := by decide +kernel
theorem dX0_offer_9 : decode cX0_offer 9 = .ok (.iload_n 1, 1) := by decide +kernel
theorem dX0_offer_10 : decode cX0_offer 10 = .ok (.putfield 30, 3) := by decide +kernel
theorem dX0_offer_13 : decode cX0_offer 13 = .ok (.aload_n 0, 1) := by decide +kernel
theorem dX0_offer_14 : decode cX0_offer 14 = .ok (.iload_n 2, 1) := by decide +kernel
theorem dX0_offer_15 : decode cX0_offer 15 = .ok (.putfield 33, 3) := by decide +kernel
theorem dX0_offer_18 : decode cX0_offer 18 = .ok (.aload_n 0, 1) := by decide +kernel
theorem dX0_offer_19 : decode cX0_offer 19 = .ok (.iload_n 3, 1) := by decide +kernel
theorem dX0_offer_20 : decode cX0_offer 20 = .ok (.putfield 36, 3) := by decide +kernel
theorem dX0_offer_23 : decode cX0_offer 23 = .ok (.return_, 1) := by decide +kernel
theorem dX1_init_0 : decode cX1_init 0 = .ok (.aload_n 0, 1) := by decide +kernel
theorem dX1_init_1 : decode cX1_init 1 = .ok (.invokespecial 3, 3) := by decide +kernel
theorem dX1_init_4 : decode cX1_init 4 = .ok (.aload_n 0, 1) := by decide +kernel
theorem dX1_init_5 : decode cX1_init 5 = .ok (.sipush 1536, 3) := by decide +kernel
theorem dX1_init_8 : decode cX1_init 8 = .ok (.newarray .int, 2) := by decide +kernel
theorem dX1_init_10 : decode cX1_init 10 = .ok (.putfield 9, 3) := by decide +kernel
theorem dX1_init_13 : decode cX1_init 13 = .ok (.aload_n 0, 1) := by decide +kernel
theorem dX1_init_14 : decode cX1_init 14 = .ok (.iconst 0, 1) := by decide +kernel
theorem dX1_init_15 : decode cX1_init 15 = .ok (.putfield 15, 3) := by decide +kernel
theorem dX1_init_18 : decode cX1_init 18 = .ok (.return_, 1) := by decide +kernel
theorem dX1_forgetAll_0 : decode cX1_forgetAll 0 = .ok (.aload_n 0, 1) := by decide +kernel
theorem dX1_forgetAll_1 : decode cX1_forgetAll 1 = .ok (.iconst 0, 1) := by decide +kernel
theorem dX1_forgetAll_2 : decode cX1_forgetAll 2 = .ok (.putfield 15, 3) := by decide +kernel
theorem dX1_forgetAll_5 : decode cX1_forgetAll 5 = .ok (.return_, 1) := by decide +kernel
theorem dX1_has_0 : decode cX1_has 0 = .ok (.aload_n 0, 1) := by decide +kernel
theorem dX1_has_1 : decode cX1_has 1 = .ok (.iload_n 1, 1) := by decide +kernel
theorem dX1_has_2 : decode cX1_has 2 = .ok (.invokevirtual 19, 3) := by decide +kernel
theorem dX1_has_5 : decode cX1_has 5 = .ok (.istore_n 2, 1) := by decide +kernel
theorem dX1_has_6 : decode cX1_has 6 = .ok (.iload_n 2, 1) := by decide +kernel
theorem dX1_has_7 : decode cX1_has 7 = .ok (.aload_n 0, 1) := by decide +kernel
theorem dX1_has_8 : decode cX1_has 8 = .ok (.getfield 15, 3) := by decide +kernel
theorem dX1_has_11 : decode cX1_has 11 = .ok (.if_icmp .ge 17, 3) := by decide +kernel
theorem dX1_has_14 : decode cX1_has 14 = .ok (.aload_n 0, 1) := by decide +kernel
theorem dX1_has_15 : decode cX1_has 15 = .ok (.getfield 9, 3) := by decide +kernel
theorem dX1_has_18 : decode cX1_has 18 = .ok (.iload_n 2, 1) := by decide +kernel
theorem dX1_has_19 : decode cX1_has 19 = .ok (.iaload, 1) := by decide +kernel
theorem dX1_has_20 : decode cX1_has 20 = .ok (.iload_n 1, 1) := by decide +kernel
theorem dX1_has_21 : decode cX1_has 21 = .ok (.if_icmp .ne 7, 3) := by decide +kernel
theorem dX1_has_24 : decode cX1_has 24 = .ok (.iconst 1, 1) := by decide +kernel
theorem dX1_has_25 : decode cX1_has 25 = .ok (.goto 4, 3) := by decide +kernel
theorem dX1_has_28 : decode cX1_has 28 = .ok (.iconst 0, 1) := by decide +kernel
theorem dX1_has_29 : decode cX1_has 29 = .ok (.ireturn, 1) := by decide +kernel
theorem dX1_note_0 : decode cX1_note 0 = .ok (.aload_n 0, 1) := by decide +kernel
theorem dX1_note_1 : decode cX1_note 1 = .ok (.getfield 15, 3) := by decide +kernel
theorem dX1_note_4 : decode cX1_note 4 = .ok (.aload_n 0, 1) := by decide +kernel
theorem dX1_note_5 : decode cX1_note 5 = .ok (.getfield 9, 3) := by decide +kernel
theorem dX1_note_8 : decode cX1_note 8 = .ok (.arraylength, 1) := by decide +kernel
theorem dX1_note_9 : decode cX1_note 9 = .ok (.if_icmp .lt 4, 3) := by decide +kernel
theorem dX1_note_12 : decode cX1_note 12 = .ok (.return_, 1) := by decide +kernel
theorem dX1_note_13 : decode cX1_note 13 = .ok (.aload_n 0, 1) := by decide +kernel
theorem dX1_note_14 : decode cX1_note 14 = .ok (.iload_n 1, 1) := by decide +kernel
theorem dX1_note_15 : decode cX1_note 15 = .ok (.invokevirtual 19, 3) := by decide +kernel
theorem dX1_note_18 : decode cX1_note 18 = .ok (.istore_n 2, 1) := by decide +kernel
theorem dX1_note_19 : decode cX1_note 19 = .ok (.aload_n 0, 1) := by decide +kernel
theorem dX1_note_20 : decode cX1_note 20 = .ok (.getfield 9, 3) := by decide +kernel
theorem dX1_note_23 : decode cX1_note 23 = .ok (.iload_n 2, 1) := by decide +kernel
theorem dX1_note_24 : decode cX1_note 24 = .ok (.aload_n 0, 1) := by decide +kernel
theorem dX1_note_25 : decode cX1_note 25 = .ok (.getfield 9, 3) := by decide +kernel
theorem dX1_note_28 : decode cX1_note 28 = .ok (.iload_n 2, 1) := by decide +kernel
theorem dX1_note_29 : decode cX1_note 29 = .ok (.iconst 1, 1) := by decide +kernel
theorem dX1_note_30 : decode cX1_note 30 = .ok (.iadd, 1) := by decide +kernel
theorem dX1_note_31 : decode cX1_note 31 = .ok (.aload_n 0, 1) := by decide +kernel
theorem dX1_note_32 : decode cX1_note 32 = .ok (.getfield 15, 3) := by decide +kernel
theorem dX1_note_35 : decode cX1_note 35 = .ok (.iload_n 2, 1) := by decide +kernel
theorem dX1_note_36 : decode cX1_note 36 = .ok (.isub, 1) := by decide +kernel
theorem dX1_note_37 : decode cX1_note 37 = .ok (.invokestatic 23, 3) := by decide +kernel
theorem dX1_note_40 : decode cX1_note 40 = .ok (.aload_n 0, 1) := by decide +kernel
theorem dX1_note_41 : decode cX1_note 41 = .ok (.getfield 9, 3) := by decide +kernel
theorem dX1_note_44 : decode cX1_note 44 = .ok (.iload_n 2, 1) := by decide +kernel
theorem dX1_note_45 : decode cX1_note 45 = .ok (.iload_n 1, 1) := by decide +kernel
theorem dX1_note_46 : decode cX1_note 46 = .ok (.iastore, 1) := by decide +kernel
theorem dX1_note_47 : decode cX1_note 47 = .ok (.aload_n 0, 1) := by decide +kernel
theorem dX1_note_48 : decode cX1_note 48 = .ok (.dup, 1) := by decide +kernel
theorem dX1_note_49 : decode cX1_note 49 = .ok (.getfield 15, 3) := by decide +kernel
theorem dX1_note_52 : decode cX1_note 52 = .ok (.iconst 1, 1) := by decide +kernel
theorem dX1_note_53 : decode cX1_note 53 = .ok (.iadd, 1) := by decide +kernel
theorem dX1_note_54 : decode cX1_note 54 = .ok (.putfield 15, 3) := by decide +kernel
theorem dX1_note_57 : decode cX1_note 57 = .ok (.return_, 1) := by decide +kernel
theorem dX1_greatest_0 : decode cX1_greatest 0 = .ok (.aload_n 0, 1) := by decide +kernel
theorem dX1_greatest_1 : decode cX1_greatest 1 = .ok (.getfield 15, 3) := by decide +kernel
theorem dX1_greatest_4 : decode cX1_greatest 4 = .ok (.ifCond .ne 7, 3) := by decide +kernel
theorem dX1_greatest_7 : decode cX1_greatest 7 = .ok (.iconst (-1), 1) := by decide +kernel
theorem dX1_greatest_8 : decode cX1_greatest 8 = .ok (.goto 14, 3) := by decide +kernel
theorem dX1_greatest_11 : decode cX1_greatest 11 = .ok (.aload_n 0, 1) := by decide +kernel
theorem dX1_greatest_12 : decode cX1_greatest 12 = .ok (.getfield 9, 3) := by decide +kernel
theorem dX1_greatest_15 : decode cX1_greatest 15 = .ok (.aload_n 0, 1) := by decide +kernel
theorem dX1_greatest_16 : decode cX1_greatest 16 = .ok (.getfield 15, 3) := by decide +kernel
theorem dX1_greatest_19 : decode cX1_greatest 19 = .ok (.iconst 1, 1) := by decide +kernel
theorem dX1_greatest_20 : decode cX1_greatest 20 = .ok (.isub, 1) := by decide +kernel
theorem dX1_greatest_21 : decode cX1_greatest 21 = .ok (.iaload, 1) := by decide +kernel
theorem dX1_greatest_22 : decode cX1_greatest 22 = .ok (.ireturn, 1) := by decide +kernel
theorem dX1_firstNotBelow_0 : decode cX1_firstNotBelow 0 = .ok (.iconst 0, 1) := by decide +kernel
theorem dX1_firstNotBelow_1 : decode cX1_firstNotBelow 1 = .ok (.istore_n 2, 1) := by decide +kernel
theorem dX1_firstNotBelow_2 : decode cX1_firstNotBelow 2 = .ok (.aload_n 0, 1) := by decide +kernel
theorem dX1_firstNotBelow_3 : decode cX1_firstNotBelow 3 = .ok (.getfield 15, 3) := by decide +kernel
theorem dX1_firstNotBelow_6 : decode cX1_firstNotBelow 6 = .ok (.istore_n 3, 1) := by decide +kernel
theorem dX1_firstNotBelow_7 : decode cX1_firstNotBelow 7 = .ok (.iload_n 2, 1) := by decide +kernel
theorem dX1_firstNotBelow_8 : decode cX1_firstNotBelow 8 = .ok (.iload_n 3, 1) := by decide +kernel
theorem dX1_firstNotBelow_9 : decode cX1_firstNotBelow 9 = .ok (.if_icmp .ge 35, 3) := by decide +kernel
theorem dX1_firstNotBelow_12 : decode cX1_firstNotBelow 12 = .ok (.iload_n 2, 1) := by decide +kernel
theorem dX1_firstNotBelow_13 : decode cX1_firstNotBelow 13 = .ok (.iload_n 3, 1) := by decide +kernel
theorem dX1_firstNotBelow_14 : decode cX1_firstNotBelow 14 = .ok (.iadd, 1) := by decide +kernel
theorem dX1_firstNotBelow_15 : decode cX1_firstNotBelow 15 = .ok (.iconst 2, 1) := by decide +kernel
theorem dX1_firstNotBelow_16 : decode cX1_firstNotBelow 16 = .ok (.idiv, 1) := by decide +kernel
theorem dX1_firstNotBelow_17 : decode cX1_firstNotBelow 17 = .ok (.istore 4, 2) := by decide +kernel
theorem dX1_firstNotBelow_19 : decode cX1_firstNotBelow 19 = .ok (.aload_n 0, 1) := by decide +kernel
theorem dX1_firstNotBelow_20 : decode cX1_firstNotBelow 20 = .ok (.getfield 9, 3) := by decide +kernel
theorem dX1_firstNotBelow_23 : decode cX1_firstNotBelow 23 = .ok (.iload 4, 2) := by decide +kernel
theorem dX1_firstNotBelow_25 : decode cX1_firstNotBelow 25 = .ok (.iaload, 1) := by decide +kernel
theorem dX1_firstNotBelow_26 : decode cX1_firstNotBelow 26 = .ok (.iload_n 1, 1) := by decide +kernel
theorem dX1_firstNotBelow_27 : decode cX1_firstNotBelow 27 = .ok (.if_icmp .ge 11, 3) := by decide +kernel
theorem dX1_firstNotBelow_30 : decode cX1_firstNotBelow 30 = .ok (.iload 4, 2) := by decide +kernel
theorem dX1_firstNotBelow_32 : decode cX1_firstNotBelow 32 = .ok (.iconst 1, 1) := by decide +kernel
theorem dX1_firstNotBelow_33 : decode cX1_firstNotBelow 33 = .ok (.iadd, 1) := by decide +kernel
theorem dX1_firstNotBelow_34 : decode cX1_firstNotBelow 34 = .ok (.istore_n 2, 1) := by decide +kernel
theorem dX1_firstNotBelow_35 : decode cX1_firstNotBelow 35 = .ok (.goto 6, 3) := by decide +kernel
theorem dX1_firstNotBelow_38 : decode cX1_firstNotBelow 38 = .ok (.iload 4, 2) := by decide +kernel
theorem dX1_firstNotBelow_40 : decode cX1_firstNotBelow 40 = .ok (.istore_n 3, 1) := by decide +kernel
theorem dX1_firstNotBelow_41 : decode cX1_firstNotBelow 41 = .ok (.goto (-34), 3) := by decide +kernel
theorem dX1_firstNotBelow_44 : decode cX1_firstNotBelow 44 = .ok (.iload_n 2, 1) := by decide +kernel
theorem dX1_firstNotBelow_45 : decode cX1_firstNotBelow 45 = .ok (.ireturn, 1) := by decide +kernel
theorem dX2_init_0 : decode cX2_init 0 = .ok (.aload_n 0, 1) := by decide +kernel
theorem dX2_init_1 : decode cX2_init 1 = .ok (.invokespecial 1, 3) := by decide +kernel
theorem dX2_init_4 : decode cX2_init 4 = .ok (.aload_n 0, 1) := by decide +kernel
theorem dX2_init_5 : decode cX2_init 5 = .ok (.new 7, 3) := by decide +kernel
theorem dX2_init_8 : decode cX2_init 8 = .ok (.dup, 1) := by decide +kernel
theorem dX2_init_9 : decode cX2_init 9 = .ok (.invokespecial 9, 3) := by decide +kernel
theorem dX2_init_12 : decode cX2_init 12 = .ok (.putfield 10, 3) := by decide +kernel
theorem dX2_init_15 : decode cX2_init 15 = .ok (.aload_n 0, 1) := by decide +kernel
theorem dX2_init_16 : decode cX2_init 16 = .ok (.new 16, 3) := by decide +kernel
theorem dX2_init_19 : decode cX2_init 19 = .ok (.dup, 1) := by decide +kernel
theorem dX2_init_20 : decode cX2_init 20 = .ok (.iconst 0, 1) := by decide +kernel
theorem dX2_init_21 : decode cX2_init 21 = .ok (.iconst 0, 1) := by decide +kernel
theorem dX2_init_22 : decode cX2_init 22 = .ok (.iconst 0, 1) := by decide +kernel
theorem dX2_init_23 : decode cX2_init 23 = .ok (.invokespecial 18, 3) := by decide +kernel
theorem dX2_init_26 : decode cX2_init 26 = .ok (.putfield 21, 3) := by decide +kernel
theorem dX2_init_29 : decode cX2_init 29 = .ok (.aload_n 0, 1) := by decide +kernel
theorem dX2_init_30 : decode cX2_init 30 = .ok (.sipush 512, 3) := by decide +kernel
theorem dX2_init_33 : decode cX2_init 33 = .ok (.anewarray 16, 3) := by decide +kernel
theorem dX2_init_36 : decode cX2_init 36 = .ok (.putfield 25, 3) := by decide +kernel
theorem dX2_init_39 : decode cX2_init 39 = .ok (.aload_n 0, 1) := by decide +kernel
theorem dX2_init_40 : decode cX2_init 40 = .ok (.iconst 0, 1) := by decide +kernel
theorem dX2_init_41 : decode cX2_init 41 = .ok (.putfield 29, 3) := by decide +kernel
theorem dX2_init_44 : decode cX2_init 44 = .ok (.aload_n 0, 1) := by decide +kernel
theorem dX2_init_45 : decode cX2_init 45 = .ok (.iconst 0, 1) := by decide +kernel
theorem dX2_init_46 : decode cX2_init 46 = .ok (.putfield 33, 3) := by decide +kernel
theorem dX2_init_49 : decode cX2_init 49 = .ok (.return_, 1) := by decide +kernel
theorem dX2_clear_0 : decode cX2_clear 0 = .ok (.aload_n 0, 1) := by decide +kernel
theorem dX2_clear_1 : decode cX2_clear 1 = .ok (.getfield 10, 3) := by decide +kernel
theorem dX2_clear_4 : decode cX2_clear 4 = .ok (.invokevirtual 36, 3) := by decide +kernel
theorem dX2_clear_7 : decode cX2_clear 7 = .ok (.aload_n 0, 1) := by decide +kernel
theorem dX2_clear_8 : decode cX2_clear 8 = .ok (.getfield 21, 3) := by decide +kernel
theorem dX2_clear_11 : decode cX2_clear 11 = .ok (.iconst 0, 1) := by decide +kernel
theorem dX2_clear_12 : decode cX2_clear 12 = .ok (.putfield 39, 3) := by decide +kernel
theorem dX2_clear_15 : decode cX2_clear 15 = .ok (.aload_n 0, 1) := by decide +kernel
theorem dX2_clear_16 : decode cX2_clear 16 = .ok (.iconst 0, 1) := by decide +kernel
theorem dX2_clear_17 : decode cX2_clear 17 = .ok (.putfield 29, 3) := by decide +kernel
theorem dX2_clear_20 : decode cX2_clear 20 = .ok (.aload_n 0, 1) := by decide +kernel
theorem dX2_clear_21 : decode cX2_clear 21 = .ok (.iconst 0, 1) := by decide +kernel
theorem dX2_clear_22 : decode cX2_clear 22 = .ok (.putfield 33, 3) := by decide +kernel
theorem dX2_clear_25 : decode cX2_clear 25 = .ok (.return_, 1) := by decide +kernel
theorem dX2_insert_0 : decode cX2_insert 0 = .ok (.aload_n 0, 1) := by decide +kernel
theorem dX2_insert_1 : decode cX2_insert 1 = .ok (.iload_n 2, 1) := by decide +kernel
theorem dX2_insert_2 : decode cX2_insert 2 = .ok (.invokevirtual 42, 3) := by decide +kernel
theorem dX2_insert_5 : decode cX2_insert 5 = .ok (.astore 5, 2) := by decide +kernel
theorem dX2_insert_7 : decode cX2_insert 7 = .ok (.aload 5, 2) := by decide +kernel
theorem dX2_insert_9 : decode cX2_insert 9 = .ok (.ifnull 33, 3) := by decide +kernel
theorem dX2_insert_12 : decode cX2_insert 12 = .ok (.iload_n 1, 1) := by decide +kernel
theorem dX2_insert_13 : decode cX2_insert 13 = .ok (.iload_n 2, 1) := by decide +kernel
theorem dX2_insert_14 : decode cX2_insert 14 = .ok (.if_icmp .le 28, 3) := by decide +kernel
theorem dX2_insert_17 : decode cX2_insert 17 = .ok (.aload_n 0, 1) := by decide +kernel
theorem dX2_insert_18 : decode cX2_insert 18 = .ok (.iload_n 1, 1) := by decide +kernel
theorem dX2_insert_19 : decode cX2_insert 19 = .ok (.invokevirtual 46, 3) := by decide +kernel
theorem dX2_insert_22 : decode cX2_insert 22 = .ok (.ifCond .eq 20, 3) := by decide +kernel
theorem dX2_insert_25 : decode cX2_insert 25 = .ok (.iload_n 3, 1) := by decide +kernel
theorem dX2_insert_26 : decode cX2_insert 26 = .ok (.invokestatic 50, 3) := by decide +kernel
theorem dX2_insert_29 : decode cX2_insert 29 = .ok (.ifCond .eq 13, 3) := by decide +kernel
theorem dX2_insert_32 : decode cX2_insert 32 = .ok (.aload_n 0, 1) := by decide +kernel
theorem dX2_insert_33 : decode cX2_insert 33 = .ok (.getfield 29, 3) := by decide +kernel
theorem dX2_insert_36 : decode cX2_insert 36 = .ok (.sipush 512, 3) := by decide +kernel
theorem dX2_insert_39 : decode cX2_insert 39 = .ok (.if_icmp .lt 5, 3) := by decide +kernel
theorem dX2_insert_42 : decode cX2_insert 42 = .ok (.iconst 0, 1) := by decide +kernel
theorem dX2_insert_43 : decode cX2_insert 43 = .ok (.ireturn, 1) := by decide +kernel
theorem dX2_insert_44 : decode cX2_insert 44 = .ok (.aload_n 0, 1) := by decide +kernel
theorem dX2_insert_45 : decode cX2_insert 45 = .ok (.iload_n 1, 1) := by decide +kernel
theorem dX2_insert_46 : decode cX2_insert 46 = .ok (.aload 5, 2) := by decide +kernel
theorem dX2_insert_48 : decode cX2_insert 48 = .ok (.iload_n 3, 1) := by decide +kernel
theorem dX2_insert_49 : decode cX2_insert 49 = .ok (.iload 4, 2) := by decide +kernel
theorem dX2_insert_51 : decode cX2_insert 51 = .ok (.invokevirtual 53, 3) := by decide +kernel
theorem dX2_insert_54 : decode cX2_insert 54 = .ok (.pop, 1) := by decide +kernel
theorem dX2_insert_55 : decode cX2_insert 55 = .ok (.iconst 1, 1) := by decide +kernel
theorem dX2_insert_56 : decode cX2_insert 56 = .ok (.ireturn, 1) := by decide +kernel
theorem dX2_run_0 : decode cX2_run 0 = .ok (.iload_n 3, 1) := by decide +kernel
theorem dX2_run_1 : decode cX2_run 1 = .ok (.iconst 2, 1) := by decide +kernel
theorem dX2_run_2 : decode cX2_run 2 = .ok (.if_icmp .lt 21, 3) := by decide +kernel
theorem dX2_run_5 : decode cX2_run 5 = .ok (.iload_n 3, 1) := by decide +kernel
theorem dX2_run_6 : decode cX2_run 6 = .ok (.bipush 8, 2) := by decide +kernel
theorem dX2_run_8 : decode cX2_run 8 = .ok (.if_icmp .gt 15, 3) := by decide +kernel
theorem dX2_run_11 : decode cX2_run 11 = .ok (.aload_n 0, 1) := by decide +kernel
theorem dX2_run_12 : decode cX2_run 12 = .ok (.getfield 29, 3) := by decide +kernel
theorem dX2_run_15 : decode cX2_run 15 = .ok (.iload_n 3, 1) := by decide +kernel
theorem dX2_run_16 : decode cX2_run 16 = .ok (.iadd, 1) := by decide +kernel
theorem dX2_run_17 : decode cX2_run 17 = .ok (.sipush 512, 3) := by decide +kernel
theorem dX2_run_20 : decode cX2_run 20 = .ok (.if_icmp .le 5, 3) := by decide +kernel
theorem dX2_run_23 : decode cX2_run 23 = .ok (.iconst 0, 1) := by decide +kernel
theorem dX2_run_24 : decode cX2_run 24 = .ok (.ireturn, 1) := by decide +kernel
theorem dX2_run_25 : decode cX2_run 25 = .ok (.aload_n 0, 1) := by decide +kernel
theorem dX2_run_26 : decode cX2_run 26 = .ok (.iload_n 2, 1) := by decide +kernel
theorem dX2_run_27 : decode cX2_run 27 = .ok (.invokevirtual 42, 3) := by decide +kernel
theorem dX2_run_30 : decode cX2_run 30 = .ok (.astore 6, 2) := by decide +kernel
theorem dX2_run_32 : decode cX2_run 32 = .ok (.aload 6, 2) := by decide +kernel
theorem dX2_run_34 : decode cX2_run 34 = .ok (.ifnull 17, 3) := by decide +kernel
theorem dX2_run_37 : decode cX2_run 37 = .ok (.iload_n 1, 1) := by decide +kernel
theorem dX2_run_38 : decode cX2_run 38 = .ok (.iload_n 2, 1) := by decide +kernel
theorem dX2_run_39 : decode cX2_run 39 = .ok (.if_icmp .le 12, 3) := by decide +kernel
theorem dX2_run_42 : decode cX2_run 42 = .ok (.aload_n 0, 1) := by decide +kernel
theorem dX2_run_43 : decode cX2_run 43 = .ok (.iload_n 1, 1) := by decide +kernel
theorem dX2_run_44 : decode cX2_run 44 = .ok (.iload_n 3, 1) := by decide +kernel
theorem dX2_run_45 : decode cX2_run 45 = .ok (.invokevirtual 57, 3) := by decide +kernel
theorem dX2_run_48 : decode cX2_run 48 = .ok (.ifCond .ne 5, 3) := by decide +kernel
theorem dX2_run_51 : decode cX2_run 51 = .ok (.iconst 0, 1) := by decide +kernel
theorem dX2_run_52 : decode cX2_run 52 = .ok (.ireturn, 1) := by decide +kernel
theorem dX2_run_53 : decode cX2_run 53 = .ok (.iconst 0, 1) := by decide +kernel
theorem dX2_run_54 : decode cX2_run 54 = .ok (.istore 7, 2) := by decide +kernel
theorem dX2_run_56 : decode cX2_run 56 = .ok (.iload 7, 2) := by decide +kernel
theorem dX2_run_58 : decode cX2_run 58 = .ok (.iload_n 3, 1) := by decide +kernel
theorem dX2_run_59 : decode cX2_run 59 = .ok (.if_icmp .ge 36, 3) := by decide +kernel
theorem dX2_run_62 : decode cX2_run 62 = .ok (.aload_n 0, 1) := by decide +kernel
theorem dX2_run_63 : decode cX2_run 63 = .ok (.iload_n 1, 1) := by decide +kernel
theorem dX2_run_64 : decode cX2_run 64 = .ok (.bipush 8, 2) := by decide +kernel
theorem dX2_run_66 : decode cX2_run 66 = .ok (.iload 7, 2) := by decide +kernel
theorem dX2_run_68 : decode cX2_run 68 = .ok (.imul, 1) := by decide +kernel
theorem dX2_run_69 : decode cX2_run 69 = .ok (.iadd, 1) := by decide +kernel
theorem dX2_run_70 : decode cX2_run 70 = .ok (.aload 6, 2) := by decide +kernel
theorem dX2_run_72 : decode cX2_run 72 = .ok (.iconst 2, 1) := by decide +kernel
theorem dX2_run_73 : decode cX2_run 73 = .ok (.lload 4, 2) := by decide +kernel
theorem dX2_run_75 : decode cX2_run 75 = .ok (.iload_n 3, 1) := by decide +kernel
theorem dX2_run_76 : decode cX2_run 76 = .ok (.iconst 1, 1) := by decide +kernel
theorem dX2_run_77 : decode cX2_run 77 = .ok (.isub, 1) := by decide +kernel
theorem dX2_run_78 : decode cX2_run 78 = .ok (.iload 7, 2) := by decide +kernel
theorem dX2_run_80 : decode cX2_run 80 = .ok (.isub, 1) := by decide +kernel
theorem dX2_run_81 : decode cX2_run 81 = .ok (.invokestatic 61, 3) := by decide +kernel
theorem dX2_run_84 : decode cX2_run 84 = .ok (.invokevirtual 53, 3) := by decide +kernel
theorem dX2_run_87 : decode cX2_run 87 = .ok (.astore 6, 2) := by decide +kernel
theorem dX2_run_89 : decode cX2_run 89 = .ok (.iinc 7 1, 3) := by decide +kernel
theorem dX2_run_92 : decode cX2_run 92 = .ok (.goto (-36), 3) := by decide +kernel
theorem dX2_run_95 : decode cX2_run 95 = .ok (.iconst 1, 1) := by decide +kernel
theorem dX2_run_96 : decode cX2_run 96 = .ok (.ireturn, 1) := by decide +kernel
theorem dX2_set_0 : decode cX2_set 0 = .ok (.aload_n 0, 1) := by decide +kernel
theorem dX2_set_1 : decode cX2_set 1 = .ok (.iload_n 2, 1) := by decide +kernel
theorem dX2_set_2 : decode cX2_set 2 = .ok (.invokevirtual 65, 3) := by decide +kernel
theorem dX2_set_5 : decode cX2_set 5 = .ok (.astore 5, 2) := by decide +kernel
theorem dX2_set_7 : decode cX2_set 7 = .ok (.aload 5, 2) := by decide +kernel
theorem dX2_set_9 : decode cX2_set 9 = .ok (.ifnull 19, 3) := by decide +kernel
theorem dX2_set_12 : decode cX2_set 12 = .ok (.aload_n 0, 1) := by decide +kernel
theorem dX2_set_13 : decode cX2_set 13 = .ok (.iload_n 1, 1) := by decide +kernel
theorem dX2_set_14 : decode cX2_set 14 = .ok (.iload_n 2, 1) := by decide +kernel
theorem dX2_set_15 : decode cX2_set 15 = .ok (.invokevirtual 68, 3) := by decide +kernel
theorem dX2_set_18 : decode cX2_set 18 = .ok (.ifCond .eq 10, 3) := by decide +kernel
theorem dX2_set_21 : decode cX2_set 21 = .ok (.iload_n 3, 1) := by decide +kernel
theorem dX2_set_22 : decode cX2_set 22 = .ok (.invokestatic 50, 3) := by decide +kernel
theorem dX2_set_25 : decode cX2_set 25 = .ok (.ifCond .ne 5, 3) := by decide +kernel
theorem dX2_set_28 : decode cX2_set 28 = .ok (.iconst 0, 1) := by decide +kernel
theorem dX2_set_29 : decode cX2_set 29 = .ok (.ireturn, 1) := by decide +kernel
theorem dX2_set_30 : decode cX2_set 30 = .ok (.aload_n 0, 1) := by decide +kernel
theorem dX2_set_31 : decode cX2_set 31 = .ok (.iload_n 1, 1) := by decide +kernel
theorem dX2_set_32 : decode cX2_set 32 = .ok (.invokevirtual 71, 3) := by decide +kernel
theorem dX2_set_35 : decode cX2_set 35 = .ok (.aload 5, 2) := by decide +kernel
theorem dX2_set_37 : decode cX2_set 37 = .ok (.dup, 1) := by decide +kernel
theorem dX2_set_38 : decode cX2_set 38 = .ok (.getfield 75, 3) := by decide +kernel
theorem dX2_set_41 : decode cX2_set 41 = .ok (.iconst 1, 1) := by decide +kernel
theorem dX2_set_42 : decode cX2_set 42 = .ok (.iadd, 1) := by decide +kernel
theorem dX2_set_43 : decode cX2_set 43 = .ok (.putfield 75, 3) := by decide +kernel
theorem dX2_set_46 : decode cX2_set 46 = .ok (.aload 5, 2) := by decide +kernel
theorem dX2_set_48 : decode cX2_set 48 = .ok (.iload_n 1, 1) := by decide +kernel
theorem dX2_set_49 : decode cX2_set 49 = .ok (.iload_n 3, 1) := by decide +kernel
theorem dX2_set_50 : decode cX2_set 50 = .ok (.iload 4, 2) := by decide +kernel
theorem dX2_set_52 : decode cX2_set 52 = .ok (.invokevirtual 78, 3) := by decide +kernel
theorem dX2_set_55 : decode cX2_set 55 = .ok (.iconst 1, 1) := by decide +kernel
theorem dX2_set_56 : decode cX2_set 56 = .ok (.ireturn, 1) := by decide +kernel
theorem dX2_remove_0 : decode cX2_remove 0 = .ok (.aload_n 0, 1) := by decide +kernel
theorem dX2_remove_1 : decode cX2_remove 1 = .ok (.iload_n 2, 1) := by decide +kernel
theorem dX2_remove_2 : decode cX2_remove 2 = .ok (.invokevirtual 65, 3) := by decide +kernel
theorem dX2_remove_5 : decode cX2_remove 5 = .ok (.astore_n 3, 1) := by decide +kernel
theorem dX2_remove_6 : decode cX2_remove 6 = .ok (.aload_n 3, 1) := by decide +kernel
theorem dX2_remove_7 : decode cX2_remove 7 = .ok (.ifnull 12, 3) := by decide +kernel
theorem dX2_remove_10 : decode cX2_remove 10 = .ok (.aload_n 0, 1) := by decide +kernel
theorem dX2_remove_11 : decode cX2_remove 11 = .ok (.iload_n 1, 1) := by decide +kernel
theorem dX2_remove_12 : decode cX2_remove 12 = .ok (.iload_n 2, 1) := by decide +kernel
theorem dX2_remove_13 : decode cX2_remove 13 = .ok (.invokevirtual 68, 3) := by decide +kernel
theorem dX2_remove_16 : decode cX2_remove 16 = .ok (.ifCond .ne 5, 3) := by decide +kernel
theorem dX2_remove_19 : decode cX2_remove 19 = .ok (.iconst 0, 1) := by decide +kernel
theorem dX2_remove_20 : decode cX2_remove 20 = .ok (.ireturn, 1) := by decide +kernel
theorem dX2_remove_21 : decode cX2_remove 21 = .ok (.aload_n 0, 1) := by decide +kernel
theorem dX2_remove_22 : decode cX2_remove 22 = .ok (.iload_n 1, 1) := by decide +kernel
theorem dX2_remove_23 : decode cX2_remove 23 = .ok (.invokevirtual 71, 3) := by decide +kernel
theorem dX2_remove_26 : decode cX2_remove 26 = .ok (.aload_n 3, 1) := by decide +kernel
theorem dX2_remove_27 : decode cX2_remove 27 = .ok (.dup, 1) := by decide +kernel
theorem dX2_remove_28 : decode cX2_remove 28 = .ok (.getfield 81, 3) := by decide +kernel
theorem dX2_remove_31 : decode cX2_remove 31 = .ok (.iconst 1, 1) := by decide +kernel
theorem dX2_remove_32 : decode cX2_remove 32 = .ok (.iadd, 1) := by decide +kernel
theorem dX2_remove_33 : decode cX2_remove 33 = .ok (.putfield 81, 3) := by decide +kernel
theorem dX2_remove_36 : decode cX2_remove 36 = .ok (.iconst 1, 1) := by decide +kernel
theorem dX2_remove_37 : decode cX2_remove 37 = .ok (.ireturn, 1) := by decide +kernel
theorem dX2_size_0 : decode cX2_size 0 = .ok (.aload_n 0, 1) := by decide +kernel
theorem dX2_size_1 : decode cX2_size 1 = .ok (.aload_n 0, 1) := by decide +kernel
theorem dX2_size_2 : decode cX2_size 2 = .ok (.getfield 29, 3) := by decide +kernel
theorem dX2_size_5 : decode cX2_size 5 = .ok (.invokevirtual 84, 3) := by decide +kernel
theorem dX2_size_8 : decode cX2_size 8 = .ok (.ireturn, 1) := by decide +kernel
theorem dX2_at_0 : decode cX2_at 0 = .ok (.aload_n 0, 1) := by decide +kernel
theorem dX2_at_1 : decode cX2_at 1 = .ok (.iload_n 1, 1) := by decide +kernel
theorem dX2_at_2 : decode cX2_at 2 = .ok (.invokevirtual 88, 3) := by decide +kernel
theorem dX2_at_5 : decode cX2_at 5 = .ok (.astore_n 3, 1) := by decide +kernel
theorem dX2_at_6 : decode cX2_at 6 = .ok (.aload_n 3, 1) := by decide +kernel
theorem dX2_at_7 : decode cX2_at 7 = .ok (.ifnonnull 13, 3) := by decide +kernel
theorem dX2_at_10 : decode cX2_at 10 = .ok (.new 91, 3) := by decide +kernel
theorem dX2_at_13 : decode cX2_at 13 = .ok (.dup, 1) := by decide +kernel
theorem dX2_at_14 : decode cX2_at 14 = .ok (.ldc 93, 2) := by decide +kernel
theorem dX2_at_16 : decode cX2_at 16 = .ok (.invokespecial 95, 3) := by decide +kernel
theorem dX2_at_19 : decode cX2_at 19 = .ok (.athrow, 1) := by decide +kernel
theorem dX2_at_20 : decode cX2_at 20 = .ok (.iload_n 2, 1) := by decide +kernel
theorem dX2_at_21 : decode cX2_at 21 = .ok (.tableswitch 51 0 3 #[31, 36, 41, 46], 31) := by decide +kernel
theorem dX2_at_52 : decode cX2_at 52 = .ok (.aload_n 3, 1) := by decide +kernel
theorem dX2_at_53 : decode cX2_at 53 = .ok (.getfield 98, 3) := by decide +kernel
theorem dX2_at_56 : decode cX2_at 56 = .ok (.ireturn, 1) := by decide +kernel
theorem dX2_at_57 : decode cX2_at 57 = .ok (.aload_n 3, 1) := by decide +kernel
theorem dX2_at_58 : decode cX2_at 58 = .ok (.getfield 101, 3) := by decide +kernel
theorem dX2_at_61 : decode cX2_at 61 = .ok (.ireturn, 1) := by decide +kernel
theorem dX2_at_62 : decode cX2_at 62 = .ok (.aload_n 3, 1) := by decide +kernel
theorem dX2_at_63 : decode cX2_at 63 = .ok (.getfield 104, 3) := by decide +kernel
theorem dX2_at_66 : decode cX2_at 66 = .ok (.ireturn, 1) := by decide +kernel
theorem dX2_at_67 : decode cX2_at 67 = .ok (.aload_n 3, 1) := by decide +kernel
theorem dX2_at_68 : decode cX2_at 68 = .ok (.getfield 107, 3) := by decide +kernel
theorem dX2_at_71 : decode cX2_at 71 = .ok (.ireturn, 1) := by decide +kernel
theorem dX2_at_72 : decode cX2_at 72 = .ok (.new 91, 3) := by decide +kernel
theorem dX2_at_75 : decode cX2_at 75 = .ok (.dup, 1) := by decide +kernel
theorem dX2_at_76 : decode cX2_at 76 = .ok (.ldc 110, 2) := by decide +kernel
theorem dX2_at_78 : decode cX2_at 78 = .ok (.invokespecial 95, 3) := by decide +kernel
theorem dX2_at_81 : decode cX2_at 81 = .ok (.athrow, 1) := by decide +kernel
theorem dX2_place_0 : decode cX2_place 0 = .ok (.aload_n 0, 1) := by decide +kernel
theorem dX2_place_1 : decode cX2_place 1 = .ok (.iload_n 1, 1) := by decide +kernel
theorem dX2_place_2 : decode cX2_place 2 = .ok (.invokevirtual 112, 3) := by decide +kernel
theorem dX2_place_5 : decode cX2_place 5 = .ok (.istore_n 2, 1) := by decide +kernel
theorem dX2_place_6 : decode cX2_place 6 = .ok (.iload_n 2, 1) := by decide +kernel
theorem dX2_place_7 : decode cX2_place 7 = .ok (.iconst (-1), 1) := by decide +kernel
theorem dX2_place_8 : decode cX2_place 8 = .ok (.if_icmp .eq 15, 3) := by decide +kernel
theorem dX2_place_11 : decode cX2_place 11 = .ok (.aload_n 0, 1) := by decide +kernel
theorem dX2_place_12 : decode cX2_place 12 = .ok (.getfield 25, 3) := by decide +kernel
theorem dX2_place_15 : decode cX2_place 15 = .ok (.iload_n 2, 1) := by decide +kernel
theorem dX2_place_16 : decode cX2_place 16 = .ok (.aaload, 1) := by decide +kernel
theorem dX2_place_17 : decode cX2_place 17 = .ok (.invokevirtual 115, 3) := by decide +kernel
theorem dX2_place_20 : decode cX2_place 20 = .ok (.ifCond .ne 5, 3) := by decide +kernel
theorem dX2_place_23 : decode cX2_place 23 = .ok (.iconst (-1), 1) := by decide +kernel
theorem dX2_place_24 : decode cX2_place 24 = .ok (.ireturn, 1) := by decide +kernel
theorem dX2_place_25 : decode cX2_place 25 = .ok (.aload_n 0, 1) := by decide +kernel
theorem dX2_place_26 : decode cX2_place 26 = .ok (.iload_n 2, 1) := by decide +kernel
theorem dX2_place_27 : decode cX2_place 27 = .ok (.invokevirtual 84, 3) := by decide +kernel
theorem dX2_place_30 : decode cX2_place 30 = .ok (.ireturn, 1) := by decide +kernel
theorem dX2_ahead_0 : decode cX2_ahead 0 = .ok (.aload_n 0, 1) := by decide +kernel
theorem dX2_ahead_1 : decode cX2_ahead 1 = .ok (.iload_n 1, 1) := by decide +kernel
theorem dX2_ahead_2 : decode cX2_ahead 2 = .ok (.invokevirtual 112, 3) := by decide +kernel
theorem dX2_ahead_5 : decode cX2_ahead 5 = .ok (.istore_n 2, 1) := by decide +kernel
theorem dX2_ahead_6 : decode cX2_ahead 6 = .ok (.iload_n 2, 1) := by decide +kernel
theorem dX2_ahead_7 : decode cX2_ahead 7 = .ok (.iconst (-1), 1) := by decide +kernel
theorem dX2_ahead_8 : decode cX2_ahead 8 = .ok (.if_icmp .ne 13, 3) := by decide +kernel
theorem dX2_ahead_11 : decode cX2_ahead 11 = .ok (.new 119, 3) := by decide +kernel
theorem dX2_ahead_14 : decode cX2_ahead 14 = .ok (.dup, 1) := by decide +kernel
theorem dX2_ahead_15 : decode cX2_ahead 15 = .ok (.ldc 121, 2) := by decide +kernel
theorem dX2_ahead_17 : decode cX2_ahead 17 = .ok (.invokespecial 123, 3) := by decide +kernel
theorem dX2_ahead_20 : decode cX2_ahead 20 = .ok (.athrow, 1) := by decide +kernel
theorem dX2_ahead_21 : decode cX2_ahead 21 = .ok (.aload_n 0, 1) := by decide +kernel
theorem dX2_ahead_22 : decode cX2_ahead 22 = .ok (.iload_n 2, 1) := by decide +kernel
theorem dX2_ahead_23 : decode cX2_ahead 23 = .ok (.invokevirtual 84, 3) := by decide +kernel
theorem dX2_ahead_26 : decode cX2_ahead 26 = .ok (.ireturn, 1) := by decide +kernel
theorem dX2_before_0 : decode cX2_before 0 = .ok (.aload_n 0, 1) := by decide +kernel
theorem dX2_before_1 : decode cX2_before 1 = .ok (.iload_n 1, 1) := by decide +kernel
theorem dX2_before_2 : decode cX2_before 2 = .ok (.invokevirtual 112, 3) := by decide +kernel
theorem dX2_before_5 : decode cX2_before 5 = .ok (.istore_n 3, 1) := by decide +kernel
theorem dX2_before_6 : decode cX2_before 6 = .ok (.aload_n 0, 1) := by decide +kernel
theorem dX2_before_7 : decode cX2_before 7 = .ok (.iload_n 2, 1) := by decide +kernel
theorem dX2_before_8 : decode cX2_before 8 = .ok (.invokevirtual 112, 3) := by decide +kernel
theorem dX2_before_11 : decode cX2_before 11 = .ok (.istore 4, 2) := by decide +kernel
theorem dX2_before_13 : decode cX2_before 13 = .ok (.iload_n 3, 1) := by decide +kernel
theorem dX2_before_14 : decode cX2_before 14 = .ok (.iconst (-1), 1) := by decide +kernel
theorem dX2_before_15 : decode cX2_before 15 = .ok (.if_icmp .eq 9, 3) := by decide +kernel
theorem dX2_before_18 : decode cX2_before 18 = .ok (.iload 4, 2) := by decide +kernel
theorem dX2_before_20 : decode cX2_before 20 = .ok (.iconst (-1), 1) := by decide +kernel
theorem dX2_before_21 : decode cX2_before 21 = .ok (.if_icmp .ne 13, 3) := by decide +kernel
theorem dX2_before_24 : decode cX2_before 24 = .ok (.new 119, 3) := by decide +kernel
theorem dX2_before_27 : decode cX2_before 27 = .ok (.dup, 1) := by decide +kernel
theorem dX2_before_28 : decode cX2_before 28 = .ok (.ldc 121, 2) := by decide +kernel
theorem dX2_before_30 : decode cX2_before 30 = .ok (.invokespecial 123, 3) := by decide +kernel
theorem dX2_before_33 : decode cX2_before 33 = .ok (.athrow, 1) := by decide +kernel
theorem dX2_before_34 : decode cX2_before 34 = .ok (.iload_n 3, 1) := by decide +kernel
theorem dX2_before_35 : decode cX2_before 35 = .ok (.iload 4, 2) := by decide +kernel
theorem dX2_before_37 : decode cX2_before 37 = .ok (.if_icmp .ge 7, 3) := by decide +kernel
theorem dX2_before_40 : decode cX2_before 40 = .ok (.iconst 1, 1) := by decide +kernel
theorem dX2_before_41 : decode cX2_before 41 = .ok (.goto 4, 3) := by decide +kernel
theorem dX2_before_44 : decode cX2_before 44 = .ok (.iconst 0, 1) := by decide +kernel
theorem dX2_before_45 : decode cX2_before 45 = .ok (.ireturn, 1) := by decide +kernel
theorem dX2_row_0 : decode cX2_row 0 = .ok (.iload_n 1, 1) := by decide +kernel
theorem dX2_row_1 : decode cX2_row 1 = .ok (.ifCond .lt 11, 3) := by decide +kernel
theorem dX2_row_4 : decode cX2_row 4 = .ok (.iload_n 1, 1) := by decide +kernel
theorem dX2_row_5 : decode cX2_row 5 = .ok (.aload_n 0, 1) := by decide +kernel
theorem dX2_row_6 : decode cX2_row 6 = .ok (.getfield 29, 3) := by decide +kernel
theorem dX2_row_9 : decode cX2_row 9 = .ok (.if_icmp .lt 13, 3) := by decide +kernel
theorem dX2_row_12 : decode cX2_row 12 = .ok (.new 91, 3) := by decide +kernel
theorem dX2_row_15 : decode cX2_row 15 = .ok (.dup, 1) := by decide +kernel
theorem dX2_row_16 : decode cX2_row 16 = .ok (.ldc 124, 2) := by decide +kernel
theorem dX2_row_18 : decode cX2_row 18 = .ok (.invokespecial 95, 3) := by decide +kernel
theorem dX2_row_21 : decode cX2_row 21 = .ok (.athrow, 1) := by decide +kernel
theorem dX2_row_22 : decode cX2_row 22 = .ok (.aload_n 0, 1) := by decide +kernel
theorem dX2_row_23 : decode cX2_row 23 = .ok (.getfield 25, 3) := by decide +kernel
theorem dX2_row_26 : decode cX2_row 26 = .ok (.iload_n 1, 1) := by decide +kernel
theorem dX2_row_27 : decode cX2_row 27 = .ok (.aaload, 1) := by decide +kernel
theorem dX2_row_28 : decode cX2_row 28 = .ok (.astore_n 2, 1) := by decide +kernel
theorem dX2_row_29 : decode cX2_row 29 = .ok (.aload_n 2, 1) := by decide +kernel
theorem dX2_row_30 : decode cX2_row 30 = .ok (.invokevirtual 115, 3) := by decide +kernel
theorem dX2_row_33 : decode cX2_row 33 = .ok (.ifCond .eq 10, 3) := by decide +kernel
theorem dX2_row_36 : decode cX2_row 36 = .ok (.aload_n 2, 1) := by decide +kernel
theorem dX2_row_37 : decode cX2_row 37 = .ok (.getfield 98, 3) := by decide +kernel
theorem dX2_row_40 : decode cX2_row 40 = .ok (.goto 8, 3) := by decide +kernel
theorem dX2_row_43 : decode cX2_row 43 = .ok (.aload_n 2, 1) := by decide +kernel
theorem dX2_row_44 : decode cX2_row 44 = .ok (.getfield 98, 3) := by decide +kernel
theorem dX2_row_47 : decode cX2_row 47 = .ok (.ineg, 1) := by decide +kernel
theorem dX2_row_48 : decode cX2_row 48 = .ok (.ireturn, 1) := by decide +kernel
theorem dX2_of_0 : decode cX2_of 0 = .ok (.aload_n 0, 1) := by decide +kernel
theorem dX2_of_1 : decode cX2_of 1 = .ok (.iload_n 1, 1) := by decide +kernel
theorem dX2_of_2 : decode cX2_of 2 = .ok (.invokevirtual 42, 3) := by decide +kernel
theorem dX2_of_5 : decode cX2_of 5 = .ok (.astore_n 3, 1) := by decide +kernel
theorem dX2_of_6 : decode cX2_of 6 = .ok (.aload_n 3, 1) := by decide +kernel
theorem dX2_of_7 : decode cX2_of 7 = .ok (.ifnonnull 13, 3) := by decide +kernel
theorem dX2_of_10 : decode cX2_of 10 = .ok (.new 119, 3) := by decide +kernel
theorem dX2_of_13 : decode cX2_of 13 = .ok (.dup, 1) := by decide +kernel
theorem dX2_of_14 : decode cX2_of 14 = .ok (.ldc 121, 2) := by decide +kernel
theorem dX2_of_16 : decode cX2_of 16 = .ok (.invokespecial 123, 3) := by decide +kernel
theorem dX2_of_19 : decode cX2_of 19 = .ok (.athrow, 1) := by decide +kernel
theorem dX2_of_20 : decode cX2_of 20 = .ok (.iload_n 1, 1) := by decide +kernel
theorem dX2_of_21 : decode cX2_of 21 = .ok (.ifCond .ne 18, 3) := by decide +kernel
theorem dX2_of_24 : decode cX2_of 24 = .ok (.iload_n 2, 1) := by decide +kernel
theorem dX2_of_25 : decode cX2_of 25 = .ok (.iconst 1, 1) := by decide +kernel
theorem dX2_of_26 : decode cX2_of 26 = .ok (.if_icmp .le 13, 3) := by decide +kernel
theorem dX2_of_29 : decode cX2_of 29 = .ok (.new 119, 3) := by decide +kernel
theorem dX2_of_32 : decode cX2_of 32 = .ok (.dup, 1) := by decide +kernel
theorem dX2_of_33 : decode cX2_of 33 = .ok (.ldc 126, 2) := by decide +kernel
theorem dX2_of_35 : decode cX2_of 35 = .ok (.invokespecial 123, 3) := by decide +kernel
theorem dX2_of_38 : decode cX2_of 38 = .ok (.athrow, 1) := by decide +kernel
theorem dX2_of_39 : decode cX2_of 39 = .ok (.iload_n 2, 1) := by decide +kernel
theorem dX2_of_40 : decode cX2_of 40 = .ok (.tableswitch 79 0 6 #[44, 49, 54, 59, 64, 69, 74], 44) := by decide +kernel
theorem dX2_of_84 : decode cX2_of 84 = .ok (.aload_n 3, 1) := by decide +kernel
theorem dX2_of_85 : decode cX2_of 85 = .ok (.getfield 128, 3) := by decide +kernel
theorem dX2_of_88 : decode cX2_of 88 = .ok (.ireturn, 1) := by decide +kernel
theorem dX2_of_89 : decode cX2_of 89 = .ok (.aload_n 3, 1) := by decide +kernel
theorem dX2_of_90 : decode cX2_of 90 = .ok (.getfield 39, 3) := by decide +kernel
theorem dX2_of_93 : decode cX2_of 93 = .ok (.ireturn, 1) := by decide +kernel
theorem dX2_of_94 : decode cX2_of 94 = .ok (.aload_n 3, 1) := by decide +kernel
theorem dX2_of_95 : decode cX2_of 95 = .ok (.getfield 75, 3) := by decide +kernel
theorem dX2_of_98 : decode cX2_of 98 = .ok (.ireturn, 1) := by decide +kernel
theorem dX2_of_99 : decode cX2_of 99 = .ok (.aload_n 3, 1) := by decide +kernel
theorem dX2_of_100 : decode cX2_of 100 = .ok (.getfield 81, 3) := by decide +kernel
theorem dX2_of_103 : decode cX2_of 103 = .ok (.ireturn, 1) := by decide +kernel
theorem dX2_of_104 : decode cX2_of 104 = .ok (.aload_n 3, 1) := by decide +kernel
theorem dX2_of_105 : decode cX2_of 105 = .ok (.getfield 107, 3) := by decide +kernel
theorem dX2_of_108 : decode cX2_of 108 = .ok (.ireturn, 1) := by decide +kernel
theorem dX2_of_109 : decode cX2_of 109 = .ok (.aload_n 3, 1) := by decide +kernel
theorem dX2_of_110 : decode cX2_of 110 = .ok (.getfield 101, 3) := by decide +kernel
theorem dX2_of_113 : decode cX2_of 113 = .ok (.ireturn, 1) := by decide +kernel
theorem dX2_of_114 : decode cX2_of 114 = .ok (.aload_n 3, 1) := by decide +kernel
theorem dX2_of_115 : decode cX2_of 115 = .ok (.getfield 104, 3) := by decide +kernel
theorem dX2_of_118 : decode cX2_of 118 = .ok (.ireturn, 1) := by decide +kernel
theorem dX2_of_119 : decode cX2_of 119 = .ok (.new 119, 3) := by decide +kernel
theorem dX2_of_122 : decode cX2_of 122 = .ok (.dup, 1) := by decide +kernel
theorem dX2_of_123 : decode cX2_of 123 = .ok (.ldc 110, 2) := by decide +kernel
theorem dX2_of_125 : decode cX2_of 125 = .ok (.invokespecial 123, 3) := by decide +kernel
theorem dX2_of_128 : decode cX2_of 128 = .ok (.athrow, 1) := by decide +kernel
theorem dX2_sum_0 : decode cX2_sum 0 = .ok (.lconst 0, 1) := by decide +kernel
theorem dX2_sum_1 : decode cX2_sum 1 = .ok (.lstore_n 3, 1) := by decide +kernel
theorem dX2_sum_2 : decode cX2_sum 2 = .ok (.iconst 0, 1) := by decide +kernel
theorem dX2_sum_3 : decode cX2_sum 3 = .ok (.istore 5, 2) := by decide +kernel
theorem dX2_sum_5 : decode cX2_sum 5 = .ok (.iconst 0, 1) := by decide +kernel
theorem dX2_sum_6 : decode cX2_sum 6 = .ok (.istore 6, 2) := by decide +kernel
theorem dX2_sum_8 : decode cX2_sum 8 = .ok (.iload 6, 2) := by decide +kernel
theorem dX2_sum_10 : decode cX2_sum 10 = .ok (.aload_n 0, 1) := by decide +kernel
theorem dX2_sum_11 : decode cX2_sum 11 = .ok (.getfield 29, 3) := by decide +kernel
theorem dX2_sum_14 : decode cX2_sum 14 = .ok (.if_icmp .ge 62, 3) := by decide +kernel
theorem dX2_sum_17 : decode cX2_sum 17 = .ok (.iload 5, 2) := by decide +kernel
theorem dX2_sum_19 : decode cX2_sum 19 = .ok (.iload_n 2, 1) := by decide +kernel
theorem dX2_sum_20 : decode cX2_sum 20 = .ok (.if_icmp .ge 56, 3) := by decide +kernel
theorem dX2_sum_23 : decode cX2_sum 23 = .ok (.aload_n 0, 1) := by decide +kernel
theorem dX2_sum_24 : decode cX2_sum 24 = .ok (.getfield 25, 3) := by decide +kernel
theorem dX2_sum_27 : decode cX2_sum 27 = .ok (.iload 6, 2) := by decide +kernel
theorem dX2_sum_29 : decode cX2_sum 29 = .ok (.aaload, 1) := by decide +kernel
theorem dX2_sum_30 : decode cX2_sum 30 = .ok (.astore 7, 2) := by decide +kernel
theorem dX2_sum_32 : decode cX2_sum 32 = .ok (.aload 7, 2) := by decide +kernel
theorem dX2_sum_34 : decode cX2_sum 34 = .ok (.invokevirtual 115, 3) := by decide +kernel
theorem dX2_sum_37 : decode cX2_sum 37 = .ok (.ifCond .ne 6, 3) := by decide +kernel
theorem dX2_sum_40 : decode cX2_sum 40 = .ok (.goto 30, 3) := by decide +kernel
theorem dX2_sum_43 : decode cX2_sum 43 = .ok (.iload 5, 2) := by decide +kernel
theorem dX2_sum_45 : decode cX2_sum 45 = .ok (.iload_n 1, 1) := by decide +kernel
theorem dX2_sum_46 : decode cX2_sum 46 = .ok (.if_icmp .lt 21, 3) := by decide +kernel
theorem dX2_sum_49 : decode cX2_sum 49 = .ok (.aload 7, 2) := by decide +kernel
theorem dX2_sum_51 : decode cX2_sum 51 = .ok (.getfield 101, 3) := by decide +kernel
theorem dX2_sum_54 : decode cX2_sum 54 = .ok (.iconst 2, 1) := by decide +kernel
theorem dX2_sum_55 : decode cX2_sum 55 = .ok (.if_icmp .ne 12, 3) := by decide +kernel
theorem dX2_sum_58 : decode cX2_sum 58 = .ok (.lload_n 3, 1) := by decide +kernel
theorem dX2_sum_59 : decode cX2_sum 59 = .ok (.aload 7, 2) := by decide +kernel
theorem dX2_sum_61 : decode cX2_sum 61 = .ok (.getfield 104, 3) := by decide +kernel
theorem dX2_sum_64 : decode cX2_sum 64 = .ok (.i2l, 1) := by decide +kernel
theorem dX2_sum_65 : decode cX2_sum 65 = .ok (.ladd, 1) := by decide +kernel
theorem dX2_sum_66 : decode cX2_sum 66 = .ok (.lstore_n 3, 1) := by decide +kernel
theorem dX2_sum_67 : decode cX2_sum 67 = .ok (.iinc 5 1, 3) := by decide +kernel
theorem dX2_sum_70 : decode cX2_sum 70 = .ok (.iinc 6 1, 3) := by decide +kernel
theorem dX2_sum_73 : decode cX2_sum 73 = .ok (.goto (-65), 3) := by decide +kernel
theorem dX2_sum_76 : decode cX2_sum 76 = .ok (.lload_n 3, 1) := by decide +kernel
theorem dX2_sum_77 : decode cX2_sum 77 = .ok (.lreturn, 1) := by decide +kernel
theorem dX2_look_0 : decode cX2_look 0 = .ok (.iload_n 1, 1) := by decide +kernel
theorem dX2_look_1 : decode cX2_look 1 = .ok (.tableswitch 67 0 4 #[35, 40, 49, 54, 62], 35) := by decide +kernel
theorem dX2_look_36 : decode cX2_look 36 = .ok (.aload_n 0, 1) := by decide +kernel
theorem dX2_look_37 : decode cX2_look 37 = .ok (.getfield 29, 3) := by decide +kernel
theorem dX2_look_40 : decode cX2_look 40 = .ok (.ireturn, 1) := by decide +kernel
theorem dX2_look_41 : decode cX2_look 41 = .ok (.aload_n 0, 1) := by decide +kernel
theorem dX2_look_42 : decode cX2_look 42 = .ok (.aload_n 0, 1) := by decide +kernel
theorem dX2_look_43 : decode cX2_look 43 = .ok (.getfield 29, 3) := by decide +kernel
theorem dX2_look_46 : decode cX2_look 46 = .ok (.invokevirtual 84, 3) := by decide +kernel
theorem dX2_look_49 : decode cX2_look 49 = .ok (.ireturn, 1) := by decide +kernel
theorem dX2_look_50 : decode cX2_look 50 = .ok (.aload_n 0, 1) := by decide +kernel
theorem dX2_look_51 : decode cX2_look 51 = .ok (.getfield 33, 3) := by decide +kernel
theorem dX2_look_54 : decode cX2_look 54 = .ok (.ireturn, 1) := by decide +kernel
theorem dX2_look_55 : decode cX2_look 55 = .ok (.aload_n 0, 1) := by decide +kernel
theorem dX2_look_56 : decode cX2_look 56 = .ok (.getfield 10, 3) := by decide +kernel
theorem dX2_look_59 : decode cX2_look 59 = .ok (.invokevirtual 131, 3) := by decide +kernel
theorem dX2_look_62 : decode cX2_look 62 = .ok (.ireturn, 1) := by decide +kernel
theorem dX2_look_63 : decode cX2_look 63 = .ok (.aload_n 0, 1) := by decide +kernel
theorem dX2_look_64 : decode cX2_look 64 = .ok (.invokevirtual 135, 3) := by decide +kernel
theorem dX2_look_67 : decode cX2_look 67 = .ok (.ireturn, 1) := by decide +kernel
theorem dX2_look_68 : decode cX2_look 68 = .ok (.iconst (-1), 1) := by decide +kernel
theorem dX2_look_69 : decode cX2_look 69 = .ok (.ireturn, 1) := by decide +kernel
theorem dX2_isFree_0 : decode cX2_isFree 0 = .ok (.iload_n 1, 1) := by decide +kernel
theorem dX2_isFree_1 : decode cX2_isFree 1 = .ok (.bipush 8, 2) := by decide +kernel
theorem dX2_isFree_3 : decode cX2_isFree 3 = .ok (.if_icmp .lt 24, 3) := by decide +kernel
theorem dX2_isFree_6 : decode cX2_isFree 6 = .ok (.iload_n 1, 1) := by decide +kernel
theorem dX2_isFree_7 : decode cX2_isFree 7 = .ok (.ldc 138, 2) := by decide +kernel
theorem dX2_isFree_9 : decode cX2_isFree 9 = .ok (.if_icmp .gt 18, 3) := by decide +kernel
theorem dX2_isFree_12 : decode cX2_isFree 12 = .ok (.aload_n 0, 1) := by decide +kernel
theorem dX2_isFree_13 : decode cX2_isFree 13 = .ok (.getfield 10, 3) := by decide +kernel
theorem dX2_isFree_16 : decode cX2_isFree 16 = .ok (.iload_n 1, 1) := by decide +kernel
theorem dX2_isFree_17 : decode cX2_isFree 17 = .ok (.invokevirtual 139, 3) := by decide +kernel
theorem dX2_isFree_20 : decode cX2_isFree 20 = .ok (.ifCond .ne 7, 3) := by decide +kernel
theorem dX2_isFree_23 : decode cX2_isFree 23 = .ok (.iconst 1, 1) := by decide +kernel
theorem dX2_isFree_24 : decode cX2_isFree 24 = .ok (.goto 4, 3) := by decide +kernel
theorem dX2_isFree_27 : decode cX2_isFree 27 = .ok (.iconst 0, 1) := by decide +kernel
theorem dX2_isFree_28 : decode cX2_isFree 28 = .ok (.ireturn, 1) := by decide +kernel
theorem dX2_areFree_0 : decode cX2_areFree 0 = .ok (.iconst 0, 1) := by decide +kernel
theorem dX2_areFree_1 : decode cX2_areFree 1 = .ok (.istore_n 3, 1) := by decide +kernel
theorem dX2_areFree_2 : decode cX2_areFree 2 = .ok (.iload_n 3, 1) := by decide +kernel
theorem dX2_areFree_3 : decode cX2_areFree 3 = .ok (.iload_n 2, 1) := by decide +kernel
theorem dX2_areFree_4 : decode cX2_areFree 4 = .ok (.if_icmp .ge 24, 3) := by decide +kernel
theorem dX2_areFree_7 : decode cX2_areFree 7 = .ok (.aload_n 0, 1) := by decide +kernel
theorem dX2_areFree_8 : decode cX2_areFree 8 = .ok (.iload_n 1, 1) := by decide +kernel
theorem dX2_areFree_9 : decode cX2_areFree 9 = .ok (.bipush 8, 2) := by decide +kernel
theorem dX2_areFree_11 : decode cX2_areFree 11 = .ok (.iload_n 3, 1) := by decide +kernel
theorem dX2_areFree_12 : decode cX2_areFree 12 = .ok (.imul, 1) := by decide +kernel
theorem dX2_areFree_13 : decode cX2_areFree 13 = .ok (.iadd, 1) := by decide +kernel
theorem dX2_areFree_14 : decode cX2_areFree 14 = .ok (.invokevirtual 46, 3) := by decide +kernel
theorem dX2_areFree_17 : decode cX2_areFree 17 = .ok (.ifCond .ne 5, 3) := by decide +kernel
theorem dX2_areFree_20 : decode cX2_areFree 20 = .ok (.iconst 0, 1) := by decide +kernel
theorem dX2_areFree_21 : decode cX2_areFree 21 = .ok (.ireturn, 1) := by decide +kernel
theorem dX2_areFree_22 : decode cX2_areFree 22 = .ok (.iinc 3 1, 3) := by decide +kernel
theorem dX2_areFree_25 : decode cX2_areFree 25 = .ok (.goto (-23), 3) := by decide +kernel
theorem dX2_areFree_28 : decode cX2_areFree 28 = .ok (.iconst 1, 1) := by decide +kernel
theorem dX2_areFree_29 : decode cX2_areFree 29 = .ok (.ireturn, 1) := by decide +kernel
theorem dX2_isKind_0 : decode cX2_isKind 0 = .ok (.iload_n 0, 1) := by decide +kernel
theorem dX2_isKind_1 : decode cX2_isKind 1 = .ok (.ifCond .lt 13, 3) := by decide +kernel
theorem dX2_isKind_4 : decode cX2_isKind 4 = .ok (.iload_n 0, 1) := by decide +kernel
theorem dX2_isKind_5 : decode cX2_isKind 5 = .ok (.bipush 7, 2) := by decide +kernel
theorem dX2_isKind_7 : decode cX2_isKind 7 = .ok (.if_icmp .ge 7, 3) := by decide +kernel
theorem dX2_isKind_10 : decode cX2_isKind 10 = .ok (.iconst 1, 1) := by decide +kernel
theorem dX2_isKind_11 : decode cX2_isKind 11 = .ok (.goto 4, 3) := by decide +kernel
theorem dX2_isKind_14 : decode cX2_isKind 14 = .ok (.iconst 0, 1) := by decide +kernel
theorem dX2_isKind_15 : decode cX2_isKind 15 = .ok (.ireturn, 1) := by decide +kernel
theorem dX2_mayChange_0 : decode cX2_mayChange 0 = .ok (.aload_n 0, 1) := by decide +kernel
theorem dX2_mayChange_1 : decode cX2_mayChange 1 = .ok (.iload_n 1, 1) := by decide +kernel
theorem dX2_mayChange_2 : decode cX2_mayChange 2 = .ok (.invokevirtual 46, 3) := by decide +kernel
theorem dX2_mayChange_5 : decode cX2_mayChange 5 = .ok (.ifCond .eq 22, 3) := by decide +kernel
theorem dX2_mayChange_8 : decode cX2_mayChange 8 = .ok (.iload_n 1, 1) := by decide +kernel
theorem dX2_mayChange_9 : decode cX2_mayChange 9 = .ok (.iload_n 2, 1) := by decide +kernel
theorem dX2_mayChange_10 : decode cX2_mayChange 10 = .ok (.if_icmp .le 17, 3) := by decide +kernel
theorem dX2_mayChange_13 : decode cX2_mayChange 13 = .ok (.aload_n 0, 1) := by decide +kernel
theorem dX2_mayChange_14 : decode cX2_mayChange 14 = .ok (.getfield 33, 3) := by decide +kernel
theorem dX2_mayChange_17 : decode cX2_mayChange 17 = .ok (.sipush 1024, 3) := by decide +kernel
theorem dX2_mayChange_20 : decode cX2_mayChange 20 = .ok (.if_icmp .ge 7, 3) := by decide +kernel
theorem dX2_mayChange_23 : decode cX2_mayChange 23 = .ok (.iconst 1, 1) := by decide +kernel
theorem dX2_mayChange_24 : decode cX2_mayChange 24 = .ok (.goto 4, 3) := by decide +kernel
theorem dX2_mayChange_27 : decode cX2_mayChange 27 = .ok (.iconst 0, 1) := by decide +kernel
theorem dX2_mayChange_28 : decode cX2_mayChange 28 = .ok (.ireturn, 1) := by decide +kernel
theorem dX2_countChange_0 : decode cX2_countChange 0 = .ok (.aload_n 0, 1) := by decide +kernel
theorem dX2_countChange_1 : decode cX2_countChange 1 = .ok (.getfield 10, 3) := by decide +kernel
theorem dX2_countChange_4 : decode cX2_countChange 4 = .ok (.iload_n 1, 1) := by decide +kernel
theorem dX2_countChange_5 : decode cX2_countChange 5 = .ok (.invokevirtual 142, 3) := by decide +kernel
theorem dX2_countChange_8 : decode cX2_countChange 8 = .ok (.aload_n 0, 1) := by decide +kernel
theorem dX2_countChange_9 : decode cX2_countChange 9 = .ok (.dup, 1) := by decide +kernel
theorem dX2_countChange_10 : decode cX2_countChange 10 = .ok (.getfield 33, 3) := by decide +kernel
theorem dX2_countChange_13 : decode cX2_countChange 13 = .ok (.iconst 1, 1) := by decide +kernel
theorem dX2_countChange_14 : decode cX2_countChange 14 = .ok (.iadd, 1) := by decide +kernel
theorem dX2_countChange_15 : decode cX2_countChange 15 = .ok (.putfield 33, 3) := by decide +kernel
theorem dX2_countChange_18 : decode cX2_countChange 18 = .ok (.return_, 1) := by decide +kernel
theorem dX2_byteOf_0 : decode cX2_byteOf 0 = .ok (.lload_n 0, 1) := by decide +kernel
theorem dX2_byteOf_1 : decode cX2_byteOf 1 = .ok (.bipush 8, 2) := by decide +kernel
theorem dX2_byteOf_3 : decode cX2_byteOf 3 = .ok (.iload_n 2, 1) := by decide +kernel
theorem dX2_byteOf_4 : decode cX2_byteOf 4 = .ok (.imul, 1) := by decide +kernel
theorem dX2_byteOf_5 : decode cX2_byteOf 5 = .ok (.lushr, 1) := by decide +kernel
theorem dX2_byteOf_6 : decode cX2_byteOf 6 = .ok (.ldc2_w 145, 3) := by decide +kernel
theorem dX2_byteOf_9 : decode cX2_byteOf 9 = .ok (.land, 1) := by decide +kernel
theorem dX2_byteOf_10 : decode cX2_byteOf 10 = .ok (.l2i, 1) := by decide +kernel
theorem dX2_byteOf_11 : decode cX2_byteOf 11 = .ok (.ireturn, 1) := by decide +kernel
theorem dX2_weave_0 : decode cX2_weave 0 = .ok (.aload_n 0, 1) := by decide +kernel
theorem dX2_weave_1 : decode cX2_weave 1 = .ok (.iload_n 1, 1) := by decide +kernel
theorem dX2_weave_2 : decode cX2_weave 2 = .ok (.aload_n 2, 1) := by decide +kernel
theorem dX2_weave_3 : decode cX2_weave 3 = .ok (.invokevirtual 147, 3) := by decide +kernel
theorem dX2_weave_6 : decode cX2_weave 6 = .ok (.istore 5, 2) := by decide +kernel
theorem dX2_weave_8 : decode cX2_weave 8 = .ok (.aload_n 0, 1) := by decide +kernel
theorem dX2_weave_9 : decode cX2_weave 9 = .ok (.getfield 29, 3) := by decide +kernel
theorem dX2_weave_12 : decode cX2_weave 12 = .ok (.istore 6, 2) := by decide +kernel
theorem dX2_weave_14 : decode cX2_weave 14 = .ok (.iload 6, 2) := by decide +kernel
theorem dX2_weave_16 : decode cX2_weave 16 = .ok (.iload 5, 2) := by decide +kernel
theorem dX2_weave_18 : decode cX2_weave 18 = .ok (.if_icmp .le 25, 3) := by decide +kernel
theorem dX2_weave_21 : decode cX2_weave 21 = .ok (.aload_n 0, 1) := by decide +kernel
theorem dX2_weave_22 : decode cX2_weave 22 = .ok (.getfield 25, 3) := by decide +kernel
theorem dX2_weave_25 : decode cX2_weave 25 = .ok (.iload 6, 2) := by decide +kernel
theorem dX2_weave_27 : decode cX2_weave 27 = .ok (.aload_n 0, 1) := by decide +kernel
theorem dX2_weave_28 : decode cX2_weave 28 = .ok (.getfield 25, 3) := by decide +kernel
theorem dX2_weave_31 : decode cX2_weave 31 = .ok (.iload 6, 2) := by decide +kernel
theorem dX2_weave_33 : decode cX2_weave 33 = .ok (.iconst 1, 1) := by decide +kernel
theorem dX2_weave_34 : decode cX2_weave 34 = .ok (.isub, 1) := by decide +kernel
theorem dX2_weave_35 : decode cX2_weave 35 = .ok (.aaload, 1) := by decide +kernel
theorem dX2_weave_36 : decode cX2_weave 36 = .ok (.aastore, 1) := by decide +kernel
theorem dX2_weave_37 : decode cX2_weave 37 = .ok (.iinc 6 (-1), 3) := by decide +kernel
theorem dX2_weave_40 : decode cX2_weave 40 = .ok (.goto (-26), 3) := by decide +kernel
theorem dX2_weave_43 : decode cX2_weave 43 = .ok (.new 16, 3) := by decide +kernel
theorem dX2_weave_46 : decode cX2_weave 46 = .ok (.dup, 1) := by decide +kernel
theorem dX2_weave_47 : decode cX2_weave 47 = .ok (.iload_n 1, 1) := by decide +kernel
theorem dX2_weave_48 : decode cX2_weave 48 = .ok (.aload_n 2, 1) := by decide +kernel
theorem dX2_weave_49 : decode cX2_weave 49 = .ok (.getfield 98, 3) := by decide +kernel
theorem dX2_weave_52 : decode cX2_weave 52 = .ok (.aload_n 2, 1) := by decide +kernel
theorem dX2_weave_53 : decode cX2_weave 53 = .ok (.getfield 151, 3) := by decide +kernel
theorem dX2_weave_56 : decode cX2_weave 56 = .ok (.iconst 1, 1) := by decide +kernel
theorem dX2_weave_57 : decode cX2_weave 57 = .ok (.iadd, 1) := by decide +kernel
theorem dX2_weave_58 : decode cX2_weave 58 = .ok (.invokespecial 18, 3) := by decide +kernel
theorem dX2_weave_61 : decode cX2_weave 61 = .ok (.astore 6, 2) := by decide +kernel
theorem dX2_weave_63 : decode cX2_weave 63 = .ok (.aload 6, 2) := by decide +kernel
theorem dX2_weave_65 : decode cX2_weave 65 = .ok (.iload_n 1, 1) := by decide +kernel
theorem dX2_weave_66 : decode cX2_weave 66 = .ok (.iload_n 3, 1) := by decide +kernel
theorem dX2_weave_67 : decode cX2_weave 67 = .ok (.iload 4, 2) := by decide +kernel
theorem dX2_weave_69 : decode cX2_weave 69 = .ok (.invokevirtual 78, 3) := by decide +kernel
theorem dX2_weave_72 : decode cX2_weave 72 = .ok (.aload_n 0, 1) := by decide +kernel
theorem dX2_weave_73 : decode cX2_weave 73 = .ok (.getfield 25, 3) := by decide +kernel
theorem dX2_weave_76 : decode cX2_weave 76 = .ok (.iload 5, 2) := by decide +kernel
theorem dX2_weave_78 : decode cX2_weave 78 = .ok (.aload 6, 2) := by decide +kernel
theorem dX2_weave_80 : decode cX2_weave 80 = .ok (.aastore, 1) := by decide +kernel
theorem dX2_weave_81 : decode cX2_weave 81 = .ok (.aload_n 0, 1) := by decide +kernel
theorem dX2_weave_82 : decode cX2_weave 82 = .ok (.dup, 1) := by decide +kernel
theorem dX2_weave_83 : decode cX2_weave 83 = .ok (.getfield 29, 3) := by decide +kernel
theorem dX2_weave_86 : decode cX2_weave 86 = .ok (.iconst 1, 1) := by decide +kernel
theorem dX2_weave_87 : decode cX2_weave 87 = .ok (.iadd, 1) := by decide +kernel
theorem dX2_weave_88 : decode cX2_weave 88 = .ok (.putfield 29, 3) := by decide +kernel
theorem dX2_weave_91 : decode cX2_weave 91 = .ok (.aload_n 2, 1) := by decide +kernel
theorem dX2_weave_92 : decode cX2_weave 92 = .ok (.dup, 1) := by decide +kernel
theorem dX2_weave_93 : decode cX2_weave 93 = .ok (.getfield 39, 3) := by decide +kernel
theorem dX2_weave_96 : decode cX2_weave 96 = .ok (.iconst 1, 1) := by decide +kernel
theorem dX2_weave_97 : decode cX2_weave 97 = .ok (.iadd, 1) := by decide +kernel
theorem dX2_weave_98 : decode cX2_weave 98 = .ok (.putfield 39, 3) := by decide +kernel
theorem dX2_weave_101 : decode cX2_weave 101 = .ok (.aload_n 0, 1) := by decide +kernel
theorem dX2_weave_102 : decode cX2_weave 102 = .ok (.getfield 10, 3) := by decide +kernel
theorem dX2_weave_105 : decode cX2_weave 105 = .ok (.iload_n 1, 1) := by decide +kernel
theorem dX2_weave_106 : decode cX2_weave 106 = .ok (.invokevirtual 142, 3) := by decide +kernel
theorem dX2_weave_109 : decode cX2_weave 109 = .ok (.aload 6, 2) := by decide +kernel
theorem dX2_weave_111 : decode cX2_weave 111 = .ok (.areturn, 1) := by decide +kernel
theorem dX2_rowForNew_0 : decode cX2_rowForNew 0 = .ok (.aload_n 2, 1) := by decide +kernel
theorem dX2_rowForNew_1 : decode cX2_rowForNew 1 = .ok (.getfield 98, 3) := by decide +kernel
theorem dX2_rowForNew_4 : decode cX2_rowForNew 4 = .ok (.ifCond .ne 7, 3) := by decide +kernel
theorem dX2_rowForNew_7 : decode cX2_rowForNew 7 = .ok (.iconst 0, 1) := by decide +kernel
theorem dX2_rowForNew_8 : decode cX2_rowForNew 8 = .ok (.goto 13, 3) := by decide +kernel
theorem dX2_rowForNew_11 : decode cX2_rowForNew 11 = .ok (.aload_n 0, 1) := by decide +kernel
theorem dX2_rowForNew_12 : decode cX2_rowForNew 12 = .ok (.aload_n 2, 1) := by decide +kernel
theorem dX2_rowForNew_13 : decode cX2_rowForNew 13 = .ok (.getfield 98, 3) := by decide +kernel
theorem dX2_rowForNew_16 : decode cX2_rowForNew 16 = .ok (.invokevirtual 112, 3) := by decide +kernel
theorem dX2_rowForNew_19 : decode cX2_rowForNew 19 = .ok (.iconst 1, 1) := by decide +kernel
theorem dX2_rowForNew_20 : decode cX2_rowForNew 20 = .ok (.iadd, 1) := by decide +kernel
theorem dX2_rowForNew_21 : decode cX2_rowForNew 21 = .ok (.istore_n 3, 1) := by decide +kernel
theorem dX2_rowForNew_22 : decode cX2_rowForNew 22 = .ok (.iload_n 3, 1) := by decide +kernel
theorem dX2_rowForNew_23 : decode cX2_rowForNew 23 = .ok (.aload_n 0, 1) := by decide +kernel
theorem dX2_rowForNew_24 : decode cX2_rowForNew 24 = .ok (.getfield 29, 3) := by decide +kernel
theorem dX2_rowForNew_27 : decode cX2_rowForNew 27 = .ok (.if_icmp .ge 22, 3) := by decide +kernel
theorem dX2_rowForNew_30 : decode cX2_rowForNew 30 = .ok (.aload_n 0, 1) := by decide +kernel
theorem dX2_rowForNew_31 : decode cX2_rowForNew 31 = .ok (.getfield 25, 3) := by decide +kernel
theorem dX2_rowForNew_34 : decode cX2_rowForNew 34 = .ok (.iload_n 3, 1) := by decide +kernel
theorem dX2_rowForNew_35 : decode cX2_rowForNew 35 = .ok (.aaload, 1) := by decide +kernel
theorem dX2_rowForNew_36 : decode cX2_rowForNew 36 = .ok (.getfield 98, 3) := by decide +kernel
theorem dX2_rowForNew_39 : decode cX2_rowForNew 39 = .ok (.iload_n 1, 1) := by decide +kernel
theorem dX2_rowForNew_40 : decode cX2_rowForNew 40 = .ok (.if_icmp .le 9, 3) := by decide +kernel
theorem dX2_rowForNew_43 : decode cX2_rowForNew 43 = .ok (.iinc 3 1, 3) := by decide +kernel
theorem dX2_rowForNew_46 : decode cX2_rowForNew 46 = .ok (.goto (-24), 3) := by decide +kernel
theorem dX2_rowForNew_49 : decode cX2_rowForNew 49 = .ok (.iload_n 3, 1) := by decide +kernel
theorem dX2_rowForNew_50 : decode cX2_rowForNew 50 = .ok (.ireturn, 1) := by decide +kernel
theorem dX2_rowOf_0 : decode cX2_rowOf 0 = .ok (.iconst 0, 1) := by decide +kernel
theorem dX2_rowOf_1 : decode cX2_rowOf 1 = .ok (.istore_n 2, 1) := by decide +kernel
theorem dX2_rowOf_2 : decode cX2_rowOf 2 = .ok (.iload_n 2, 1) := by decide +kernel
theorem dX2_rowOf_3 : decode cX2_rowOf 3 = .ok (.aload_n 0, 1) := by decide +kernel
theorem dX2_rowOf_4 : decode cX2_rowOf 4 = .ok (.getfield 29, 3) := by decide +kernel
theorem dX2_rowOf_7 : decode cX2_rowOf 7 = .ok (.if_icmp .ge 24, 3) := by decide +kernel
theorem dX2_rowOf_10 : decode cX2_rowOf 10 = .ok (.aload_n 0, 1) := by decide +kernel
theorem dX2_rowOf_11 : decode cX2_rowOf 11 = .ok (.getfield 25, 3) := by decide +kernel
theorem dX2_rowOf_14 : decode cX2_rowOf 14 = .ok (.iload_n 2, 1) := by decide +kernel
theorem dX2_rowOf_15 : decode cX2_rowOf 15 = .ok (.aaload, 1) := by decide +kernel
theorem dX2_rowOf_16 : decode cX2_rowOf 16 = .ok (.getfield 98, 3) := by decide +kernel
theorem dX2_rowOf_19 : decode cX2_rowOf 19 = .ok (.iload_n 1, 1) := by decide +kernel
theorem dX2_rowOf_20 : decode cX2_rowOf 20 = .ok (.if_icmp .ne 5, 3) := by decide +kernel
theorem dX2_rowOf_23 : decode cX2_rowOf 23 = .ok (.iload_n 2, 1) := by decide +kernel
theorem dX2_rowOf_24 : decode cX2_rowOf 24 = .ok (.ireturn, 1) := by decide +kernel
theorem dX2_rowOf_25 : decode cX2_rowOf 25 = .ok (.iinc 2 1, 3) := by decide +kernel
theorem dX2_rowOf_28 : decode cX2_rowOf 28 = .ok (.goto (-26), 3) := by decide +kernel
theorem dX2_rowOf_31 : decode cX2_rowOf 31 = .ok (.iconst (-1), 1) := by decide +kernel
theorem dX2_rowOf_32 : decode cX2_rowOf 32 = .ok (.ireturn, 1) := by decide +kernel
theorem dX2_elementOf_0 : decode cX2_elementOf 0 = .ok (.aload_n 0, 1) := by decide +kernel
theorem dX2_elementOf_1 : decode cX2_elementOf 1 = .ok (.iload_n 1, 1) := by decide +kernel
theorem dX2_elementOf_2 : decode cX2_elementOf 2 = .ok (.invokevirtual 112, 3) := by decide +kernel
theorem dX2_elementOf_5 : decode cX2_elementOf 5 = .ok (.istore_n 2, 1) := by decide +kernel
theorem dX2_elementOf_6 : decode cX2_elementOf 6 = .ok (.iload_n 2, 1) := by decide +kernel
theorem dX2_elementOf_7 : decode cX2_elementOf 7 = .ok (.iconst (-1), 1) := by decide +kernel
theorem dX2_elementOf_8 : decode cX2_elementOf 8 = .ok (.if_icmp .ne 7, 3) := by decide +kernel
theorem dX2_elementOf_11 : decode cX2_elementOf 11 = .ok (.aconst_null, 1) := by decide +kernel
theorem dX2_elementOf_12 : decode cX2_elementOf 12 = .ok (.goto 9, 3) := by decide +kernel
theorem dX2_elementOf_15 : decode cX2_elementOf 15 = .ok (.aload_n 0, 1) := by decide +kernel
theorem dX2_elementOf_16 : decode cX2_elementOf 16 = .ok (.getfield 25, 3) := by decide +kernel
theorem dX2_elementOf_19 : decode cX2_elementOf 19 = .ok (.iload_n 2, 1) := by decide +kernel
theorem dX2_elementOf_20 : decode cX2_elementOf 20 = .ok (.aaload, 1) := by decide +kernel
theorem dX2_elementOf_21 : decode cX2_elementOf 21 = .ok (.areturn, 1) := by decide +kernel
theorem dX2_elementOrBeginning_0 : decode cX2_elementOrBeginning 0 = .ok (.iload_n 1, 1) := by decide +kernel
theorem dX2_elementOrBeginning_1 : decode cX2_elementOrBeginning 1 = .ok (.ifCond .ne 10, 3) := by decide +kernel
theorem dX2_elementOrBeginning_4 : decode cX2_elementOrBeginning 4 = .ok (.aload_n 0, 1) := by decide +kernel
theorem dX2_elementOrBeginning_5 : decode cX2_elementOrBeginning 5 = .ok (.getfield 21, 3) := by decide +kernel
theorem dX2_elementOrBeginning_8 : decode cX2_elementOrBeginning 8 = .ok (.goto 8, 3) := by decide +kernel
theorem dX2_elementOrBeginning_11 : decode cX2_elementOrBeginning 11 = .ok (.aload_n 0, 1) := by decide +kernel
theorem dX2_elementOrBeginning_12 : decode cX2_elementOrBeginning 12 = .ok (.iload_n 1, 1) := by decide +kernel
theorem dX2_elementOrBeginning_13 : decode cX2_elementOrBeginning 13 = .ok (.invokevirtual 65, 3) := by decide +kernel
theorem dX2_elementOrBeginning_16 : decode cX2_elementOrBeginning 16 = .ok (.areturn, 1) := by decide +kernel
theorem dX2_elementAt_0 : decode cX2_elementAt 0 = .ok (.iconst 0, 1) := by decide +kernel
theorem dX2_elementAt_1 : decode cX2_elementAt 1 = .ok (.istore_n 2, 1) := by decide +kernel
theorem dX2_elementAt_2 : decode cX2_elementAt 2 = .ok (.iconst 0, 1) := by decide +kernel
theorem dX2_elementAt_3 : decode cX2_elementAt 3 = .ok (.istore_n 3, 1) := by decide +kernel
theorem dX2_elementAt_4 : decode cX2_elementAt 4 = .ok (.iload_n 3, 1) := by decide +kernel
theorem dX2_elementAt_5 : decode cX2_elementAt 5 = .ok (.aload_n 0, 1) := by decide +kernel
theorem dX2_elementAt_6 : decode cX2_elementAt 6 = .ok (.getfield 29, 3) := by decide +kernel
theorem dX2_elementAt_9 : decode cX2_elementAt 9 = .ok (.if_icmp .ge 39, 3) := by decide +kernel
theorem dX2_elementAt_12 : decode cX2_elementAt 12 = .ok (.aload_n 0, 1) := by decide +kernel
theorem dX2_elementAt_13 : decode cX2_elementAt 13 = .ok (.getfield 25, 3) := by decide +kernel
theorem dX2_elementAt_16 : decode cX2_elementAt 16 = .ok (.iload_n 3, 1) := by decide +kernel
theorem dX2_elementAt_17 : decode cX2_elementAt 17 = .ok (.aaload, 1) := by decide +kernel
theorem dX2_elementAt_18 : decode cX2_elementAt 18 = .ok (.invokevirtual 115, 3) := by decide +kernel
theorem dX2_elementAt_21 : decode cX2_elementAt 21 = .ok (.ifCond .ne 6, 3) := by decide +kernel
theorem dX2_elementAt_24 : decode cX2_elementAt 24 = .ok (.goto 18, 3) := by decide +kernel
theorem dX2_elementAt_27 : decode cX2_elementAt 27 = .ok (.iload_n 2, 1) := by decide +kernel
theorem dX2_elementAt_28 : decode cX2_elementAt 28 = .ok (.iload_n 1, 1) := by decide +kernel
theorem dX2_elementAt_29 : decode cX2_elementAt 29 = .ok (.if_icmp .ne 10, 3) := by decide +kernel
theorem dX2_elementAt_32 : decode cX2_elementAt 32 = .ok (.aload_n 0, 1) := by decide +kernel
theorem dX2_elementAt_33 : decode cX2_elementAt 33 = .ok (.getfield 25, 3) := by decide +kernel
theorem dX2_elementAt_36 : decode cX2_elementAt 36 = .ok (.iload_n 3, 1) := by decide +kernel
theorem dX2_elementAt_37 : decode cX2_elementAt 37 = .ok (.aaload, 1) := by decide +kernel
theorem dX2_elementAt_38 : decode cX2_elementAt 38 = .ok (.areturn, 1) := by decide +kernel
theorem dX2_elementAt_39 : decode cX2_elementAt 39 = .ok (.iinc 2 1, 3) := by decide +kernel
theorem dX2_elementAt_42 : decode cX2_elementAt 42 = .ok (.iinc 3 1, 3) := by decide +kernel
theorem dX2_elementAt_45 : decode cX2_elementAt 45 = .ok (.goto (-41), 3) := by decide +kernel
theorem dX2_elementAt_48 : decode cX2_elementAt 48 = .ok (.aconst_null, 1) := by decide +kernel
theorem dX2_elementAt_49 : decode cX2_elementAt 49 = .ok (.areturn, 1) := by decide +kernel
theorem dX2_visibleUpTo_0 : decode cX2_visibleUpTo 0 = .ok (.iconst 0, 1) := by decide +kernel
theorem dX2_visibleUpTo_1 : decode cX2_visibleUpTo 1 = .ok (.istore_n 2, 1) := by decide +kernel
theorem dX2_visibleUpTo_2 : decode cX2_visibleUpTo 2 = .ok (.iconst 0, 1) := by decide +kernel
theorem dX2_visibleUpTo_3 : decode cX2_visibleUpTo 3 = .ok (.istore_n 3, 1) := by decide +kernel
theorem dX2_visibleUpTo_4 : decode cX2_visibleUpTo 4 = .ok (.iload_n 3, 1) := by decide +kernel
theorem dX2_visibleUpTo_5 : decode cX2_visibleUpTo 5 = .ok (.iload_n 1, 1) := by decide +kernel
theorem dX2_visibleUpTo_6 : decode cX2_visibleUpTo 6 = .ok (.if_icmp .ge 24, 3) := by decide +kernel
theorem dX2_visibleUpTo_9 : decode cX2_visibleUpTo 9 = .ok (.aload_n 0, 1) := by decide +kernel
theorem dX2_visibleUpTo_10 : decode cX2_visibleUpTo 10 = .ok (.getfield 25, 3) := by decide +kernel
theorem dX2_visibleUpTo_13 : decode cX2_visibleUpTo 13 = .ok (.iload_n 3, 1) := by decide +kernel
theorem dX2_visibleUpTo_14 : decode cX2_visibleUpTo 14 = .ok (.aaload, 1) := by decide +kernel
theorem dX2_visibleUpTo_15 : decode cX2_visibleUpTo 15 = .ok (.invokevirtual 115, 3) := by decide +kernel
theorem dX2_visibleUpTo_18 : decode cX2_visibleUpTo 18 = .ok (.ifCond .eq 6, 3) := by decide +kernel
theorem dX2_visibleUpTo_21 : decode cX2_visibleUpTo 21 = .ok (.iinc 2 1, 3) := by decide +kernel
theorem dX2_visibleUpTo_24 : decode cX2_visibleUpTo 24 = .ok (.iinc 3 1, 3) := by decide +kernel
theorem dX2_visibleUpTo_27 : decode cX2_visibleUpTo 27 = .ok (.goto (-23), 3) := by decide +kernel
theorem dX2_visibleUpTo_30 : decode cX2_visibleUpTo 30 = .ok (.iload_n 2, 1) := by decide +kernel
theorem dX2_visibleUpTo_31 : decode cX2_visibleUpTo 31 = .ok (.ireturn, 1) := by decide +kernel
theorem dX2_longestWay_0 : decode cX2_longestWay 0 = .ok (.iconst 0, 1) := by decide +kernel
theorem dX2_longestWay_1 : decode cX2_longestWay 1 = .ok (.istore_n 1, 1) := by decide +kernel
theorem dX2_longestWay_2 : decode cX2_longestWay 2 = .ok (.iconst 0, 1) := by decide +kernel
theorem dX2_longestWay_3 : decode cX2_longestWay 3 = .ok (.istore_n 2, 1) := by decide +kernel
theorem dX2_longestWay_4 : decode cX2_longestWay 4 = .ok (.iload_n 2, 1) := by decide +kernel
theorem dX2_longestWay_5 : decode cX2_longestWay 5 = .ok (.aload_n 0, 1) := by decide +kernel
theorem dX2_longestWay_6 : decode cX2_longestWay 6 = .ok (.getfield 29, 3) := by decide +kernel
theorem dX2_longestWay_9 : decode cX2_longestWay 9 = .ok (.if_icmp .ge 23, 3) := by decide +kernel
theorem dX2_longestWay_12 : decode cX2_longestWay 12 = .ok (.iload_n 1, 1) := by decide +kernel
theorem dX2_longestWay_13 : decode cX2_longestWay 13 = .ok (.aload_n 0, 1) := by decide +kernel
theorem dX2_longestWay_14 : decode cX2_longestWay 14 = .ok (.getfield 25, 3) := by decide +kernel
theorem dX2_longestWay_17 : decode cX2_longestWay 17 = .ok (.iload_n 2, 1) := by decide +kernel
theorem dX2_longestWay_18 : decode cX2_longestWay 18 = .ok (.aaload, 1) := by decide +kernel
theorem dX2_longestWay_19 : decode cX2_longestWay 19 = .ok (.getfield 151, 3) := by decide +kernel
theorem dX2_longestWay_22 : decode cX2_longestWay 22 = .ok (.invokestatic 154, 3) := by decide +kernel
theorem dX2_longestWay_25 : decode cX2_longestWay 25 = .ok (.istore_n 1, 1) := by decide +kernel
theorem dX2_longestWay_26 : decode cX2_longestWay 26 = .ok (.iinc 2 1, 3) := by decide +kernel
theorem dX2_longestWay_29 : decode cX2_longestWay 29 = .ok (.goto (-25), 3) := by decide +kernel
theorem dX2_longestWay_32 : decode cX2_longestWay 32 = .ok (.iload_n 1, 1) := by decide +kernel
theorem dX2_longestWay_33 : decode cX2_longestWay 33 = .ok (.ireturn, 1) := by decide +kernel
end
section
theorem dX3_init_0 : decode cX3_init 0 = .ok (.aload_n 0, 1) := by decide +kernel
theorem dX3_init_1 : decode cX3_init 1 = .ok (.invokespecial 1, 3) := by decide +kernel
theorem dX3_init_4 : decode cX3_init 4 = .ok (.aload_n 0, 1) := by decide +kernel
theorem dX3_init_5 : decode cX3_init 5 = .ok (.sipush 512, 3) := by decide +kernel
theorem dX3_init_8 : decode cX3_init 8 = .ok (.newarray .int, 2) := by decide +kernel
theorem dX3_init_10 : decode cX3_init 10 = .ok (.putfield 7, 3) := by decide +kernel
theorem dX3_init_13 : decode cX3_init 13 = .ok (.aload_n 0, 1) := by decide +kernel
theorem dX3_init_14 : decode cX3_init 14 = .ok (.sipush 512, 3) := by decide +kernel
theorem dX3_init_17 : decode cX3_init 17 = .ok (.newarray .int, 2) := by decide +kernel
theorem dX3_init_19 : decode cX3_init 19 = .ok (.putfield 13, 3) := by decide +kernel
theorem dX3_init_22 : decode cX3_init 22 = .ok (.aload_n 0, 1) := by decide +kernel
theorem dX3_init_23 : decode cX3_init 23 = .ok (.sipush 512, 3) := by decide +kernel
theorem dX3_init_26 : decode cX3_init 26 = .ok (.newarray .int, 2) := by decide +kernel
theorem dX3_init_28 : decode cX3_init 28 = .ok (.putfield 16, 3) := by decide +kernel
theorem dX3_init_31 : decode cX3_init 31 = .ok (.aload_n 0, 1) := by decide +kernel
theorem dX3_init_32 : decode cX3_init 32 = .ok (.sipush 512, 3) := by decide +kernel
theorem dX3_init_35 : decode cX3_init 35 = .ok (.newarray .int, 2) := by decide +kernel
theorem dX3_init_37 : decode cX3_init 37 = .ok (.putfield 19, 3) := by decide +kernel
theorem dX3_init_40 : decode cX3_init 40 = .ok (.aload_n 0, 1) := by decide +kernel
theorem dX3_init_41 : decode cX3_init 41 = .ok (.sipush 1024, 3) := by decide +kernel
theorem dX3_init_44 : decode cX3_init 44 = .ok (.newarray .int, 2) := by decide +kernel
theorem dX3_init_46 : decode cX3_init 46 = .ok (.putfield 22, 3) := by decide +kernel
theorem dX3_init_49 : decode cX3_init 49 = .ok (.aload_n 0, 1) := by decide +kernel
theorem dX3_init_50 : decode cX3_init 50 = .ok (.sipush 1024, 3) := by decide +kernel
theorem dX3_init_53 : decode cX3_init 53 = .ok (.newarray .int, 2) := by decide +kernel
theorem dX3_init_55 : decode cX3_init 55 = .ok (.putfield 25, 3) := by decide +kernel
theorem dX3_init_58 : decode cX3_init 58 = .ok (.aload_n 0, 1) := by decide +kernel
theorem dX3_init_59 : decode cX3_init 59 = .ok (.sipush 1024, 3) := by decide +kernel
theorem dX3_init_62 : decode cX3_init 62 = .ok (.newarray .int, 2) := by decide +kernel
theorem dX3_init_64 : decode cX3_init 64 = .ok (.putfield 28, 3) := by decide +kernel
theorem dX3_init_67 : decode cX3_init 67 = .ok (.aload_n 0, 1) := by decide +kernel
theorem dX3_init_68 : decode cX3_init 68 = .ok (.sipush 1024, 3) := by decide +kernel
theorem dX3_init_71 : decode cX3_init 71 = .ok (.newarray .int, 2) := by decide +kernel
theorem dX3_init_73 : decode cX3_init 73 = .ok (.putfield 31, 3) := by decide +kernel
theorem dX3_init_76 : decode cX3_init 76 = .ok (.aload_n 0, 1) := by decide +kernel
theorem dX3_init_77 : decode cX3_init 77 = .ok (.sipush 512, 3) := by decide +kernel
theorem dX3_init_80 : decode cX3_init 80 = .ok (.newarray .int, 2) := by decide +kernel
theorem dX3_init_82 : decode cX3_init 82 = .ok (.putfield 34, 3) := by decide +kernel
theorem dX3_init_85 : decode cX3_init 85 = .ok (.aload_n 0, 1) := by decide +kernel
theorem dX3_init_86 : decode cX3_init 86 = .ok (.sipush 512, 3) := by decide +kernel
theorem dX3_init_89 : decode cX3_init 89 = .ok (.newarray .int, 2) := by decide +kernel
theorem dX3_init_91 : decode cX3_init 91 = .ok (.putfield 37, 3) := by decide +kernel
theorem dX3_init_94 : decode cX3_init 94 = .ok (.return_, 1) := by decide +kernel
theorem dX3_thrown_0 : decode cX3_thrown 0 = .ok (.aload_n 0, 1) := by decide +kernel
theorem dX3_thrown_1 : decode cX3_thrown 1 = .ok (.getfield 40, 3) := by decide +kernel
theorem dX3_thrown_4 : decode cX3_thrown 4 = .ok (.ireturn, 1) := by decide +kernel
theorem dX3_placeOf_0 : decode cX3_placeOf 0 = .ok (.iconst (-1), 1) := by decide +kernel
theorem dX3_placeOf_1 : decode cX3_placeOf 1 = .ok (.istore_n 2, 1) := by decide +kernel
theorem dX3_placeOf_2 : decode cX3_placeOf 2 = .ok (.iconst 0, 1) := by decide +kernel
theorem dX3_placeOf_3 : decode cX3_placeOf 3 = .ok (.istore_n 3, 1) := by decide +kernel
theorem dX3_placeOf_4 : decode cX3_placeOf 4 = .ok (.iload_n 3, 1) := by decide +kernel
theorem dX3_placeOf_5 : decode cX3_placeOf 5 = .ok (.aload_n 0, 1) := by decide +kernel
theorem dX3_placeOf_6 : decode cX3_placeOf 6 = .ok (.getfield 44, 3) := by decide +kernel
theorem dX3_placeOf_9 : decode cX3_placeOf 9 = .ok (.if_icmp .ge 25, 3) := by decide +kernel
theorem dX3_placeOf_12 : decode cX3_placeOf 12 = .ok (.aload_n 0, 1) := by decide +kernel
theorem dX3_placeOf_13 : decode cX3_placeOf 13 = .ok (.getfield 7, 3) := by decide +kernel
theorem dX3_placeOf_16 : decode cX3_placeOf 16 = .ok (.iload_n 3, 1) := by decide +kernel
theorem dX3_placeOf_17 : decode cX3_placeOf 17 = .ok (.iaload, 1) := by decide +kernel
theorem dX3_placeOf_18 : decode cX3_placeOf 18 = .ok (.iload_n 1, 1) := by decide +kernel
theorem dX3_placeOf_19 : decode cX3_placeOf 19 = .ok (.if_icmp .ne 7, 3) := by decide +kernel
theorem dX3_placeOf_22 : decode cX3_placeOf 22 = .ok (.iload_n 3, 1) := by decide +kernel
theorem dX3_placeOf_23 : decode cX3_placeOf 23 = .ok (.goto 4, 3) := by decide +kernel
theorem dX3_placeOf_26 : decode cX3_placeOf 26 = .ok (.iload_n 2, 1) := by decide +kernel
theorem dX3_placeOf_27 : decode cX3_placeOf 27 = .ok (.istore_n 2, 1) := by decide +kernel
theorem dX3_placeOf_28 : decode cX3_placeOf 28 = .ok (.iinc 3 1, 3) := by decide +kernel
theorem dX3_placeOf_31 : decode cX3_placeOf 31 = .ok (.goto (-27), 3) := by decide +kernel
theorem dX3_placeOf_34 : decode cX3_placeOf 34 = .ok (.iload_n 2, 1) := by decide +kernel
theorem dX3_placeOf_35 : decode cX3_placeOf 35 = .ok (.ireturn, 1) := by decide +kernel
theorem dX3_isNew_0 : decode cX3_isNew 0 = .ok (.iload_n 1, 1) := by decide +kernel
theorem dX3_isNew_1 : decode cX3_isNew 1 = .ok (.bipush 8, 2) := by decide +kernel
theorem dX3_isNew_3 : decode cX3_isNew 3 = .ok (.if_icmp .lt 21, 3) := by decide +kernel
theorem dX3_isNew_6 : decode cX3_isNew 6 = .ok (.iload_n 1, 1) := by decide +kernel
theorem dX3_isNew_7 : decode cX3_isNew 7 = .ok (.ldc 47, 2) := by decide +kernel
theorem dX3_isNew_9 : decode cX3_isNew 9 = .ok (.if_icmp .gt 15, 3) := by decide +kernel
theorem dX3_isNew_12 : decode cX3_isNew 12 = .ok (.aload_n 0, 1) := by decide +kernel
theorem dX3_isNew_13 : decode cX3_isNew 13 = .ok (.iload_n 1, 1) := by decide +kernel
theorem dX3_isNew_14 : decode cX3_isNew 14 = .ok (.invokevirtual 48, 3) := by decide +kernel
theorem dX3_isNew_17 : decode cX3_isNew 17 = .ok (.ifCond .ge 7, 3) := by decide +kernel
theorem dX3_isNew_20 : decode cX3_isNew 20 = .ok (.iconst 1, 1) := by decide +kernel
theorem dX3_isNew_21 : decode cX3_isNew 21 = .ok (.goto 4, 3) := by decide +kernel
theorem dX3_isNew_24 : decode cX3_isNew 24 = .ok (.iconst 0, 1) := by decide +kernel
theorem dX3_isNew_25 : decode cX3_isNew 25 = .ok (.istore_n 2, 1) := by decide +kernel
theorem dX3_isNew_26 : decode cX3_isNew 26 = .ok (.iconst 0, 1) := by decide +kernel
theorem dX3_isNew_27 : decode cX3_isNew 27 = .ok (.istore_n 3, 1) := by decide +kernel
theorem dX3_isNew_28 : decode cX3_isNew 28 = .ok (.iload_n 3, 1) := by decide +kernel
theorem dX3_isNew_29 : decode cX3_isNew 29 = .ok (.aload_n 0, 1) := by decide +kernel
theorem dX3_isNew_30 : decode cX3_isNew 30 = .ok (.getfield 52, 3) := by decide +kernel
theorem dX3_isNew_33 : decode cX3_isNew 33 = .ok (.if_icmp .ge 29, 3) := by decide +kernel
theorem dX3_isNew_36 : decode cX3_isNew 36 = .ok (.iload_n 2, 1) := by decide +kernel
theorem dX3_isNew_37 : decode cX3_isNew 37 = .ok (.ifCond .eq 17, 3) := by decide +kernel
theorem dX3_isNew_40 : decode cX3_isNew 40 = .ok (.aload_n 0, 1) := by decide +kernel
theorem dX3_isNew_41 : decode cX3_isNew 41 = .ok (.getfield 22, 3) := by decide +kernel
theorem dX3_isNew_44 : decode cX3_isNew 44 = .ok (.iload_n 3, 1) := by decide +kernel
theorem dX3_isNew_45 : decode cX3_isNew 45 = .ok (.iaload, 1) := by decide +kernel
theorem dX3_isNew_46 : decode cX3_isNew 46 = .ok (.iload_n 1, 1) := by decide +kernel
theorem dX3_isNew_47 : decode cX3_isNew 47 = .ok (.if_icmp .eq 7, 3) := by decide +kernel
theorem dX3_isNew_50 : decode cX3_isNew 50 = .ok (.iconst 1, 1) := by decide +kernel
theorem dX3_isNew_51 : decode cX3_isNew 51 = .ok (.goto 4, 3) := by decide +kernel
theorem dX3_isNew_54 : decode cX3_isNew 54 = .ok (.iconst 0, 1) := by decide +kernel
theorem dX3_isNew_55 : decode cX3_isNew 55 = .ok (.istore_n 2, 1) := by decide +kernel
theorem dX3_isNew_56 : decode cX3_isNew 56 = .ok (.iinc 3 1, 3) := by decide +kernel
theorem dX3_isNew_59 : decode cX3_isNew 59 = .ok (.goto (-31), 3) := by decide +kernel
theorem dX3_isNew_62 : decode cX3_isNew 62 = .ok (.iload_n 2, 1) := by decide +kernel
theorem dX3_isNew_63 : decode cX3_isNew 63 = .ok (.ireturn, 1) := by decide +kernel
theorem dX3_isKind_0 : decode cX3_isKind 0 = .ok (.iload_n 0, 1) := by decide +kernel
theorem dX3_isKind_1 : decode cX3_isKind 1 = .ok (.ifCond .lt 13, 3) := by decide +kernel
theorem dX3_isKind_4 : decode cX3_isKind 4 = .ok (.iload_n 0, 1) := by decide +kernel
theorem dX3_isKind_5 : decode cX3_isKind 5 = .ok (.bipush 6, 2) := by decide +kernel
theorem dX3_isKind_7 : decode cX3_isKind 7 = .ok (.if_icmp .gt 7, 3) := by decide +kernel
theorem dX3_isKind_10 : decode cX3_isKind 10 = .ok (.iconst 1, 1) := by decide +kernel
theorem dX3_isKind_11 : decode cX3_isKind 11 = .ok (.goto 4, 3) := by decide +kernel
theorem dX3_isKind_14 : decode cX3_isKind 14 = .ok (.iconst 0, 1) := by decide +kernel
theorem dX3_isKind_15 : decode cX3_isKind 15 = .ok (.ireturn, 1) := by decide +kernel
theorem dX3_keep_0 : decode cX3_keep 0 = .ok (.aload_n 0, 1) := by decide +kernel
theorem dX3_keep_1 : decode cX3_keep 1 = .ok (.getfield 7, 3) := by decide +kernel
theorem dX3_keep_4 : decode cX3_keep 4 = .ok (.aload_n 0, 1) := by decide +kernel
theorem dX3_keep_5 : decode cX3_keep 5 = .ok (.getfield 44, 3) := by decide +kernel
theorem dX3_keep_8 : decode cX3_keep 8 = .ok (.iload_n 1, 1) := by decide +kernel
theorem dX3_keep_9 : decode cX3_keep 9 = .ok (.iastore, 1) := by decide +kernel
theorem dX3_keep_10 : decode cX3_keep 10 = .ok (.aload_n 0, 1) := by decide +kernel
theorem dX3_keep_11 : decode cX3_keep 11 = .ok (.getfield 13, 3) := by decide +kernel
theorem dX3_keep_14 : decode cX3_keep 14 = .ok (.aload_n 0, 1) := by decide +kernel
theorem dX3_keep_15 : decode cX3_keep 15 = .ok (.getfield 44, 3) := by decide +kernel
theorem dX3_keep_18 : decode cX3_keep 18 = .ok (.iload_n 2, 1) := by decide +kernel
theorem dX3_keep_19 : decode cX3_keep 19 = .ok (.iastore, 1) := by decide +kernel
theorem dX3_keep_20 : decode cX3_keep 20 = .ok (.aload_n 0, 1) := by decide +kernel
theorem dX3_keep_21 : decode cX3_keep 21 = .ok (.getfield 16, 3) := by decide +kernel
theorem dX3_keep_24 : decode cX3_keep 24 = .ok (.aload_n 0, 1) := by decide +kernel
theorem dX3_keep_25 : decode cX3_keep 25 = .ok (.getfield 44, 3) := by decide +kernel
theorem dX3_keep_28 : decode cX3_keep 28 = .ok (.iload_n 3, 1) := by decide +kernel
theorem dX3_keep_29 : decode cX3_keep 29 = .ok (.iastore, 1) := by decide +kernel
theorem dX3_keep_30 : decode cX3_keep 30 = .ok (.aload_n 0, 1) := by decide +kernel
theorem dX3_keep_31 : decode cX3_keep 31 = .ok (.getfield 19, 3) := by decide +kernel
theorem dX3_keep_34 : decode cX3_keep 34 = .ok (.aload_n 0, 1) := by decide +kernel
theorem dX3_keep_35 : decode cX3_keep 35 = .ok (.getfield 44, 3) := by decide +kernel
theorem dX3_keep_38 : decode cX3_keep 38 = .ok (.iload 4, 2) := by decide +kernel
theorem dX3_keep_40 : decode cX3_keep 40 = .ok (.iastore, 1) := by decide +kernel
theorem dX3_keep_41 : decode cX3_keep 41 = .ok (.aload_n 0, 1) := by decide +kernel
theorem dX3_keep_42 : decode cX3_keep 42 = .ok (.dup, 1) := by decide +kernel
theorem dX3_keep_43 : decode cX3_keep 43 = .ok (.getfield 44, 3) := by decide +kernel
theorem dX3_keep_46 : decode cX3_keep 46 = .ok (.iconst 1, 1) := by decide +kernel
theorem dX3_keep_47 : decode cX3_keep 47 = .ok (.iadd, 1) := by decide +kernel
theorem dX3_keep_48 : decode cX3_keep 48 = .ok (.putfield 44, 3) := by decide +kernel
theorem dX3_keep_51 : decode cX3_keep 51 = .ok (.return_, 1) := by decide +kernel
theorem dX3_canInsert_0 : decode cX3_canInsert 0 = .ok (.aload_n 0, 1) := by decide +kernel
theorem dX3_canInsert_1 : decode cX3_canInsert 1 = .ok (.iload_n 1, 1) := by decide +kernel
theorem dX3_canInsert_2 : decode cX3_canInsert 2 = .ok (.invokevirtual 55, 3) := by decide +kernel
theorem dX3_canInsert_5 : decode cX3_canInsert 5 = .ok (.ifCond .eq 34, 3) := by decide +kernel
theorem dX3_canInsert_8 : decode cX3_canInsert 8 = .ok (.iload_n 2, 1) := by decide +kernel
theorem dX3_canInsert_9 : decode cX3_canInsert 9 = .ok (.ifCond .eq 11, 3) := by decide +kernel
theorem dX3_canInsert_12 : decode cX3_canInsert 12 = .ok (.aload_n 0, 1) := by decide +kernel
theorem dX3_canInsert_13 : decode cX3_canInsert 13 = .ok (.iload_n 2, 1) := by decide +kernel
theorem dX3_canInsert_14 : decode cX3_canInsert 14 = .ok (.invokevirtual 48, 3) := by decide +kernel
theorem dX3_canInsert_17 : decode cX3_canInsert 17 = .ok (.ifCond .lt 22, 3) := by decide +kernel
theorem dX3_canInsert_20 : decode cX3_canInsert 20 = .ok (.iload_n 1, 1) := by decide +kernel
theorem dX3_canInsert_21 : decode cX3_canInsert 21 = .ok (.iload_n 2, 1) := by decide +kernel
theorem dX3_canInsert_22 : decode cX3_canInsert 22 = .ok (.if_icmp .le 17, 3) := by decide +kernel
theorem dX3_canInsert_25 : decode cX3_canInsert 25 = .ok (.aload_n 0, 1) := by decide +kernel
theorem dX3_canInsert_26 : decode cX3_canInsert 26 = .ok (.getfield 44, 3) := by decide +kernel
theorem dX3_canInsert_29 : decode cX3_canInsert 29 = .ok (.sipush 512, 3) := by decide +kernel
theorem dX3_canInsert_32 : decode cX3_canInsert 32 = .ok (.if_icmp .ge 7, 3) := by decide +kernel
theorem dX3_canInsert_35 : decode cX3_canInsert 35 = .ok (.iconst 1, 1) := by decide +kernel
theorem dX3_canInsert_36 : decode cX3_canInsert 36 = .ok (.goto 4, 3) := by decide +kernel
theorem dX3_canInsert_39 : decode cX3_canInsert 39 = .ok (.iconst 0, 1) := by decide +kernel
theorem dX3_canInsert_40 : decode cX3_canInsert 40 = .ok (.ireturn, 1) := by decide +kernel
theorem dX3_clear_0 : decode cX3_clear 0 = .ok (.aload_n 0, 1) := by decide +kernel
theorem dX3_clear_1 : decode cX3_clear 1 = .ok (.iconst 0, 1) := by decide +kernel
theorem dX3_clear_2 : decode cX3_clear 2 = .ok (.putfield 40, 3) := by decide +kernel
theorem dX3_clear_5 : decode cX3_clear 5 = .ok (.aload_n 0, 1) := by decide +kernel
theorem dX3_clear_6 : decode cX3_clear 6 = .ok (.iconst 0, 1) := by decide +kernel
theorem dX3_clear_7 : decode cX3_clear 7 = .ok (.putfield 44, 3) := by decide +kernel
theorem dX3_clear_10 : decode cX3_clear 10 = .ok (.aload_n 0, 1) := by decide +kernel
theorem dX3_clear_11 : decode cX3_clear 11 = .ok (.iconst 0, 1) := by decide +kernel
theorem dX3_clear_12 : decode cX3_clear 12 = .ok (.putfield 52, 3) := by decide +kernel
theorem dX3_clear_15 : decode cX3_clear 15 = .ok (.return_, 1) := by decide +kernel
theorem dX3_insert_0 : decode cX3_insert 0 = .ok (.aload_n 0, 1) := by decide +kernel
theorem dX3_insert_1 : decode cX3_insert 1 = .ok (.iconst 0, 1) := by decide +kernel
theorem dX3_insert_2 : decode cX3_insert 2 = .ok (.putfield 40, 3) := by decide +kernel
theorem dX3_insert_5 : decode cX3_insert 5 = .ok (.aload_n 0, 1) := by decide +kernel
theorem dX3_insert_6 : decode cX3_insert 6 = .ok (.iload_n 1, 1) := by decide +kernel
theorem dX3_insert_7 : decode cX3_insert 7 = .ok (.iload_n 2, 1) := by decide +kernel
theorem dX3_insert_8 : decode cX3_insert 8 = .ok (.invokevirtual 59, 3) := by decide +kernel
theorem dX3_insert_11 : decode cX3_insert 11 = .ok (.ifCond .eq 10, 3) := by decide +kernel
theorem dX3_insert_14 : decode cX3_insert 14 = .ok (.iload_n 3, 1) := by decide +kernel
theorem dX3_insert_15 : decode cX3_insert 15 = .ok (.invokestatic 63, 3) := by decide +kernel
theorem dX3_insert_18 : decode cX3_insert 18 = .ok (.ifCond .ne 5, 3) := by decide +kernel
theorem dX3_insert_21 : decode cX3_insert 21 = .ok (.iconst 0, 1) := by decide +kernel
theorem dX3_insert_22 : decode cX3_insert 22 = .ok (.ireturn, 1) := by decide +kernel
theorem dX3_insert_23 : decode cX3_insert 23 = .ok (.aload_n 0, 1) := by decide +kernel
theorem dX3_insert_24 : decode cX3_insert 24 = .ok (.iload_n 1, 1) := by decide +kernel
theorem dX3_insert_25 : decode cX3_insert 25 = .ok (.iload_n 2, 1) := by decide +kernel
theorem dX3_insert_26 : decode cX3_insert 26 = .ok (.iload_n 3, 1) := by decide +kernel
theorem dX3_insert_27 : decode cX3_insert 27 = .ok (.iload 4, 2) := by decide +kernel
theorem dX3_insert_29 : decode cX3_insert 29 = .ok (.invokevirtual 66, 3) := by decide +kernel
theorem dX3_insert_32 : decode cX3_insert 32 = .ok (.iconst 1, 1) := by decide +kernel
theorem dX3_insert_33 : decode cX3_insert 33 = .ok (.ireturn, 1) := by decide +kernel
theorem dX3_run_0 : decode cX3_run 0 = .ok (.aload_n 0, 1) := by decide +kernel
theorem dX3_run_1 : decode cX3_run 1 = .ok (.iconst 0, 1) := by decide +kernel
theorem dX3_run_2 : decode cX3_run 2 = .ok (.putfield 40, 3) := by decide +kernel
theorem dX3_run_5 : decode cX3_run 5 = .ok (.iload_n 3, 1) := by decide +kernel
theorem dX3_run_6 : decode cX3_run 6 = .ok (.iconst 2, 1) := by decide +kernel
theorem dX3_run_7 : decode cX3_run 7 = .ok (.if_icmp .lt 30, 3) := by decide +kernel
theorem dX3_run_10 : decode cX3_run 10 = .ok (.iload_n 3, 1) := by decide +kernel
theorem dX3_run_11 : decode cX3_run 11 = .ok (.bipush 8, 2) := by decide +kernel
theorem dX3_run_13 : decode cX3_run 13 = .ok (.if_icmp .gt 24, 3) := by decide +kernel
theorem dX3_run_16 : decode cX3_run 16 = .ok (.aload_n 0, 1) := by decide +kernel
theorem dX3_run_17 : decode cX3_run 17 = .ok (.iload_n 1, 1) := by decide +kernel
theorem dX3_run_18 : decode cX3_run 18 = .ok (.iload_n 2, 1) := by decide +kernel
theorem dX3_run_19 : decode cX3_run 19 = .ok (.invokevirtual 59, 3) := by decide +kernel
theorem dX3_run_22 : decode cX3_run 22 = .ok (.ifCond .eq 15, 3) := by decide +kernel
theorem dX3_run_25 : decode cX3_run 25 = .ok (.aload_n 0, 1) := by decide +kernel
theorem dX3_run_26 : decode cX3_run 26 = .ok (.getfield 44, 3) := by decide +kernel
theorem dX3_run_29 : decode cX3_run 29 = .ok (.iload_n 3, 1) := by decide +kernel
theorem dX3_run_30 : decode cX3_run 30 = .ok (.iadd, 1) := by decide +kernel
theorem dX3_run_31 : decode cX3_run 31 = .ok (.sipush 512, 3) := by decide +kernel
theorem dX3_run_34 : decode cX3_run 34 = .ok (.if_icmp .le 5, 3) := by decide +kernel
theorem dX3_run_37 : decode cX3_run 37 = .ok (.iconst 0, 1) := by decide +kernel
theorem dX3_run_38 : decode cX3_run 38 = .ok (.ireturn, 1) := by decide +kernel
theorem dX3_run_39 : decode cX3_run 39 = .ok (.iconst 1, 1) := by decide +kernel
theorem dX3_run_40 : decode cX3_run 40 = .ok (.istore 6, 2) := by decide +kernel
theorem dX3_run_42 : decode cX3_run 42 = .ok (.iload 6, 2) := by decide +kernel
theorem dX3_run_44 : decode cX3_run 44 = .ok (.iload_n 3, 1) := by decide +kernel
theorem dX3_run_45 : decode cX3_run 45 = .ok (.if_icmp .ge 25, 3) := by decide +kernel
theorem dX3_run_48 : decode cX3_run 48 = .ok (.aload_n 0, 1) := by decide +kernel
theorem dX3_run_49 : decode cX3_run 49 = .ok (.iload_n 1, 1) := by decide +kernel
theorem dX3_run_50 : decode cX3_run 50 = .ok (.bipush 8, 2) := by decide +kernel
theorem dX3_run_52 : decode cX3_run 52 = .ok (.iload 6, 2) := by decide +kernel
theorem dX3_run_54 : decode cX3_run 54 = .ok (.imul, 1) := by decide +kernel
theorem dX3_run_55 : decode cX3_run 55 = .ok (.iadd, 1) := by decide +kernel
theorem dX3_run_56 : decode cX3_run 56 = .ok (.invokevirtual 55, 3) := by decide +kernel
theorem dX3_run_59 : decode cX3_run 59 = .ok (.ifCond .ne 5, 3) := by decide +kernel
theorem dX3_run_62 : decode cX3_run 62 = .ok (.iconst 0, 1) := by decide +kernel
theorem dX3_run_63 : decode cX3_run 63 = .ok (.ireturn, 1) := by decide +kernel
theorem dX3_run_64 : decode cX3_run 64 = .ok (.iinc 6 1, 3) := by decide +kernel
theorem dX3_run_67 : decode cX3_run 67 = .ok (.goto (-25), 3) := by decide +kernel
theorem dX3_run_70 : decode cX3_run 70 = .ok (.iconst 0, 1) := by decide +kernel
theorem dX3_run_71 : decode cX3_run 71 = .ok (.istore 6, 2) := by decide +kernel
theorem dX3_run_73 : decode cX3_run 73 = .ok (.iload 6, 2) := by decide +kernel
theorem dX3_run_75 : decode cX3_run 75 = .ok (.iload_n 3, 1) := by decide +kernel
theorem dX3_run_76 : decode cX3_run 76 = .ok (.if_icmp .ge 57, 3) := by decide +kernel
theorem dX3_run_79 : decode cX3_run 79 = .ok (.aload_n 0, 1) := by decide +kernel
theorem dX3_run_80 : decode cX3_run 80 = .ok (.iload_n 1, 1) := by decide +kernel
theorem dX3_run_81 : decode cX3_run 81 = .ok (.bipush 8, 2) := by decide +kernel
theorem dX3_run_83 : decode cX3_run 83 = .ok (.iload 6, 2) := by decide +kernel
theorem dX3_run_85 : decode cX3_run 85 = .ok (.imul, 1) := by decide +kernel
theorem dX3_run_86 : decode cX3_run 86 = .ok (.iadd, 1) := by decide +kernel
theorem dX3_run_87 : decode cX3_run 87 = .ok (.iload 6, 2) := by decide +kernel
theorem dX3_run_89 : decode cX3_run 89 = .ok (.ifCond .ne 7, 3) := by decide +kernel
theorem dX3_run_92 : decode cX3_run 92 = .ok (.iload_n 2, 1) := by decide +kernel
theorem dX3_run_93 : decode cX3_run 93 = .ok (.goto 13, 3) := by decide +kernel
theorem dX3_run_96 : decode cX3_run 96 = .ok (.iload_n 1, 1) := by decide +kernel
theorem dX3_run_97 : decode cX3_run 97 = .ok (.bipush 8, 2) := by decide +kernel
theorem dX3_run_99 : decode cX3_run 99 = .ok (.iload 6, 2) := by decide +kernel
theorem dX3_run_101 : decode cX3_run 101 = .ok (.imul, 1) := by decide +kernel
theorem dX3_run_102 : decode cX3_run 102 = .ok (.iadd, 1) := by decide +kernel
theorem dX3_run_103 : decode cX3_run 103 = .ok (.bipush 8, 2) := by decide +kernel
theorem dX3_run_105 : decode cX3_run 105 = .ok (.isub, 1) := by decide +kernel
theorem dX3_run_106 : decode cX3_run 106 = .ok (.iconst 2, 1) := by decide +kernel
theorem dX3_run_107 : decode cX3_run 107 = .ok (.lload 4, 2) := by decide +kernel
theorem dX3_run_109 : decode cX3_run 109 = .ok (.bipush 8, 2) := by decide +kernel
theorem dX3_run_111 : decode cX3_run 111 = .ok (.iload_n 3, 1) := by decide +kernel
theorem dX3_run_112 : decode cX3_run 112 = .ok (.iconst 1, 1) := by decide +kernel
theorem dX3_run_113 : decode cX3_run 113 = .ok (.isub, 1) := by decide +kernel
theorem dX3_run_114 : decode cX3_run 114 = .ok (.iload 6, 2) := by decide +kernel
theorem dX3_run_116 : decode cX3_run 116 = .ok (.isub, 1) := by decide +kernel
theorem dX3_run_117 : decode cX3_run 117 = .ok (.imul, 1) := by decide +kernel
theorem dX3_run_118 : decode cX3_run 118 = .ok (.lshr, 1) := by decide +kernel
theorem dX3_run_119 : decode cX3_run 119 = .ok (.ldc2_w 70, 3) := by decide +kernel
theorem dX3_run_122 : decode cX3_run 122 = .ok (.land, 1) := by decide +kernel
theorem dX3_run_123 : decode cX3_run 123 = .ok (.l2i, 1) := by decide +kernel
theorem dX3_run_124 : decode cX3_run 124 = .ok (.invokevirtual 66, 3) := by decide +kernel
theorem dX3_run_127 : decode cX3_run 127 = .ok (.iinc 6 1, 3) := by decide +kernel
theorem dX3_run_130 : decode cX3_run 130 = .ok (.goto (-57), 3) := by decide +kernel
theorem dX3_run_133 : decode cX3_run 133 = .ok (.iconst 1, 1) := by decide +kernel
theorem dX3_run_134 : decode cX3_run 134 = .ok (.ireturn, 1) := by decide +kernel
theorem dX3_does_0 : decode cX3_does 0 = .ok (.aload_n 0, 1) := by decide +kernel
theorem dX3_does_1 : decode cX3_does 1 = .ok (.iload_n 1, 1) := by decide +kernel
theorem dX3_does_2 : decode cX3_does 2 = .ok (.invokevirtual 55, 3) := by decide +kernel
theorem dX3_does_5 : decode cX3_does 5 = .ok (.ifCond .eq 26, 3) := by decide +kernel
theorem dX3_does_8 : decode cX3_does 8 = .ok (.aload_n 0, 1) := by decide +kernel
theorem dX3_does_9 : decode cX3_does 9 = .ok (.iload_n 2, 1) := by decide +kernel
theorem dX3_does_10 : decode cX3_does 10 = .ok (.invokevirtual 48, 3) := by decide +kernel
theorem dX3_does_13 : decode cX3_does 13 = .ok (.ifCond .lt 18, 3) := by decide +kernel
theorem dX3_does_16 : decode cX3_does 16 = .ok (.iload_n 1, 1) := by decide +kernel
theorem dX3_does_17 : decode cX3_does 17 = .ok (.iload_n 2, 1) := by decide +kernel
theorem dX3_does_18 : decode cX3_does 18 = .ok (.if_icmp .le 13, 3) := by decide +kernel
theorem dX3_does_21 : decode cX3_does 21 = .ok (.aload_n 0, 1) := by decide +kernel
theorem dX3_does_22 : decode cX3_does 22 = .ok (.getfield 52, 3) := by decide +kernel
theorem dX3_does_25 : decode cX3_does 25 = .ok (.sipush 1024, 3) := by decide +kernel
theorem dX3_does_28 : decode cX3_does 28 = .ok (.if_icmp .ne 5, 3) := by decide +kernel
theorem dX3_does_31 : decode cX3_does 31 = .ok (.iconst 0, 1) := by decide +kernel
theorem dX3_does_32 : decode cX3_does 32 = .ok (.ireturn, 1) := by decide +kernel
theorem dX3_does_33 : decode cX3_does 33 = .ok (.aload_n 0, 1) := by decide +kernel
theorem dX3_does_34 : decode cX3_does 34 = .ok (.getfield 22, 3) := by decide +kernel
theorem dX3_does_37 : decode cX3_does 37 = .ok (.aload_n 0, 1) := by decide +kernel
theorem dX3_does_38 : decode cX3_does 38 = .ok (.getfield 52, 3) := by decide +kernel
theorem dX3_does_41 : decode cX3_does 41 = .ok (.iload_n 1, 1) := by decide +kernel
theorem dX3_does_42 : decode cX3_does 42 = .ok (.iastore, 1) := by decide +kernel
theorem dX3_does_43 : decode cX3_does 43 = .ok (.aload_n 0, 1) := by decide +kernel
theorem dX3_does_44 : decode cX3_does 44 = .ok (.getfield 25, 3) := by decide +kernel
theorem dX3_does_47 : decode cX3_does 47 = .ok (.aload_n 0, 1) := by decide +kernel
theorem dX3_does_48 : decode cX3_does 48 = .ok (.getfield 52, 3) := by decide +kernel
theorem dX3_does_51 : decode cX3_does 51 = .ok (.iload_n 2, 1) := by decide +kernel
theorem dX3_does_52 : decode cX3_does 52 = .ok (.iastore, 1) := by decide +kernel
theorem dX3_does_53 : decode cX3_does 53 = .ok (.aload_n 0, 1) := by decide +kernel
theorem dX3_does_54 : decode cX3_does 54 = .ok (.getfield 28, 3) := by decide +kernel
theorem dX3_does_57 : decode cX3_does 57 = .ok (.aload_n 0, 1) := by decide +kernel
theorem dX3_does_58 : decode cX3_does 58 = .ok (.getfield 52, 3) := by decide +kernel
theorem dX3_does_61 : decode cX3_does 61 = .ok (.iload_n 3, 1) := by decide +kernel
theorem dX3_does_62 : decode cX3_does 62 = .ok (.iastore, 1) := by decide +kernel
theorem dX3_does_63 : decode cX3_does 63 = .ok (.aload_n 0, 1) := by decide +kernel
theorem dX3_does_64 : decode cX3_does 64 = .ok (.getfield 31, 3) := by decide +kernel
theorem dX3_does_67 : decode cX3_does 67 = .ok (.aload_n 0, 1) := by decide +kernel
theorem dX3_does_68 : decode cX3_does 68 = .ok (.getfield 52, 3) := by decide +kernel
theorem dX3_does_71 : decode cX3_does 71 = .ok (.iload 4, 2) := by decide +kernel
theorem dX3_does_73 : decode cX3_does 73 = .ok (.iastore, 1) := by decide +kernel
theorem dX3_does_74 : decode cX3_does 74 = .ok (.aload_n 0, 1) := by decide +kernel
theorem dX3_does_75 : decode cX3_does 75 = .ok (.dup, 1) := by decide +kernel
theorem dX3_does_76 : decode cX3_does 76 = .ok (.getfield 52, 3) := by decide +kernel
theorem dX3_does_79 : decode cX3_does 79 = .ok (.iconst 1, 1) := by decide +kernel
theorem dX3_does_80 : decode cX3_does 80 = .ok (.iadd, 1) := by decide +kernel
theorem dX3_does_81 : decode cX3_does 81 = .ok (.putfield 52, 3) := by decide +kernel
theorem dX3_does_84 : decode cX3_does 84 = .ok (.iconst 1, 1) := by decide +kernel
theorem dX3_does_85 : decode cX3_does 85 = .ok (.ireturn, 1) := by decide +kernel
theorem dX3_set_0 : decode cX3_set 0 = .ok (.aload_n 0, 1) := by decide +kernel
theorem dX3_set_1 : decode cX3_set 1 = .ok (.iconst 0, 1) := by decide +kernel
theorem dX3_set_2 : decode cX3_set 2 = .ok (.putfield 40, 3) := by decide +kernel
theorem dX3_set_5 : decode cX3_set 5 = .ok (.iload_n 3, 1) := by decide +kernel
theorem dX3_set_6 : decode cX3_set 6 = .ok (.invokestatic 63, 3) := by decide +kernel
theorem dX3_set_9 : decode cX3_set 9 = .ok (.ifCond .eq 19, 3) := by decide +kernel
theorem dX3_set_12 : decode cX3_set 12 = .ok (.aload_n 0, 1) := by decide +kernel
theorem dX3_set_13 : decode cX3_set 13 = .ok (.iload_n 1, 1) := by decide +kernel
theorem dX3_set_14 : decode cX3_set 14 = .ok (.iload_n 2, 1) := by decide +kernel
theorem dX3_set_15 : decode cX3_set 15 = .ok (.iload_n 3, 1) := by decide +kernel
theorem dX3_set_16 : decode cX3_set 16 = .ok (.iload 4, 2) := by decide +kernel
theorem dX3_set_18 : decode cX3_set 18 = .ok (.invokevirtual 72, 3) := by decide +kernel
theorem dX3_set_21 : decode cX3_set 21 = .ok (.ifCond .eq 7, 3) := by decide +kernel
theorem dX3_set_24 : decode cX3_set 24 = .ok (.iconst 1, 1) := by decide +kernel
theorem dX3_set_25 : decode cX3_set 25 = .ok (.goto 4, 3) := by decide +kernel
theorem dX3_set_28 : decode cX3_set 28 = .ok (.iconst 0, 1) := by decide +kernel
theorem dX3_set_29 : decode cX3_set 29 = .ok (.ireturn, 1) := by decide +kernel
theorem dX3_remove_0 : decode cX3_remove 0 = .ok (.aload_n 0, 1) := by decide +kernel
theorem dX3_remove_1 : decode cX3_remove 1 = .ok (.iconst 0, 1) := by decide +kernel
theorem dX3_remove_2 : decode cX3_remove 2 = .ok (.putfield 40, 3) := by decide +kernel
theorem dX3_remove_5 : decode cX3_remove 5 = .ok (.aload_n 0, 1) := by decide +kernel
theorem dX3_remove_6 : decode cX3_remove 6 = .ok (.iload_n 1, 1) := by decide +kernel
theorem dX3_remove_7 : decode cX3_remove 7 = .ok (.iload_n 2, 1) := by decide +kernel
theorem dX3_remove_8 : decode cX3_remove 8 = .ok (.iconst (-1), 1) := by decide +kernel
theorem dX3_remove_9 : decode cX3_remove 9 = .ok (.iconst 0, 1) := by decide +kernel
theorem dX3_remove_10 : decode cX3_remove 10 = .ok (.invokevirtual 72, 3) := by decide +kernel
theorem dX3_remove_13 : decode cX3_remove 13 = .ok (.ireturn, 1) := by decide +kernel
theorem dX3_isRemoved_0 : decode cX3_isRemoved 0 = .ok (.iconst 0, 1) := by decide +kernel
theorem dX3_isRemoved_1 : decode cX3_isRemoved 1 = .ok (.istore_n 2, 1) := by decide +kernel
theorem dX3_isRemoved_2 : decode cX3_isRemoved 2 = .ok (.iconst 0, 1) := by decide +kernel
theorem dX3_isRemoved_3 : decode cX3_isRemoved 3 = .ok (.istore_n 3, 1) := by decide +kernel
theorem dX3_isRemoved_4 : decode cX3_isRemoved 4 = .ok (.iload_n 3, 1) := by decide +kernel
theorem dX3_isRemoved_5 : decode cX3_isRemoved 5 = .ok (.aload_n 0, 1) := by decide +kernel
theorem dX3_isRemoved_6 : decode cX3_isRemoved 6 = .ok (.getfield 52, 3) := by decide +kernel
theorem dX3_isRemoved_9 : decode cX3_isRemoved 9 = .ok (.if_icmp .ge 38, 3) := by decide +kernel
theorem dX3_isRemoved_12 : decode cX3_isRemoved 12 = .ok (.iload_n 2, 1) := by decide +kernel
theorem dX3_isRemoved_13 : decode cX3_isRemoved 13 = .ok (.ifCond .ne 22, 3) := by decide +kernel
theorem dX3_isRemoved_16 : decode cX3_isRemoved 16 = .ok (.aload_n 0, 1) := by decide +kernel
theorem dX3_isRemoved_17 : decode cX3_isRemoved 17 = .ok (.getfield 25, 3) := by decide +kernel
theorem dX3_isRemoved_20 : decode cX3_isRemoved 20 = .ok (.iload_n 3, 1) := by decide +kernel
theorem dX3_isRemoved_21 : decode cX3_isRemoved 21 = .ok (.iaload, 1) := by decide +kernel
theorem dX3_isRemoved_22 : decode cX3_isRemoved 22 = .ok (.iload_n 1, 1) := by decide +kernel
theorem dX3_isRemoved_23 : decode cX3_isRemoved 23 = .ok (.if_icmp .ne 16, 3) := by decide +kernel
theorem dX3_isRemoved_26 : decode cX3_isRemoved 26 = .ok (.aload_n 0, 1) := by decide +kernel
theorem dX3_isRemoved_27 : decode cX3_isRemoved 27 = .ok (.getfield 28, 3) := by decide +kernel
theorem dX3_isRemoved_30 : decode cX3_isRemoved 30 = .ok (.iload_n 3, 1) := by decide +kernel
theorem dX3_isRemoved_31 : decode cX3_isRemoved 31 = .ok (.iaload, 1) := by decide +kernel
theorem dX3_isRemoved_32 : decode cX3_isRemoved 32 = .ok (.ifCond .ge 7, 3) := by decide +kernel
theorem dX3_isRemoved_35 : decode cX3_isRemoved 35 = .ok (.iconst 1, 1) := by decide +kernel
theorem dX3_isRemoved_36 : decode cX3_isRemoved 36 = .ok (.goto 4, 3) := by decide +kernel
theorem dX3_isRemoved_39 : decode cX3_isRemoved 39 = .ok (.iconst 0, 1) := by decide +kernel
theorem dX3_isRemoved_40 : decode cX3_isRemoved 40 = .ok (.istore_n 2, 1) := by decide +kernel
theorem dX3_isRemoved_41 : decode cX3_isRemoved 41 = .ok (.iinc 3 1, 3) := by decide +kernel
theorem dX3_isRemoved_44 : decode cX3_isRemoved 44 = .ok (.goto (-40), 3) := by decide +kernel
theorem dX3_isRemoved_47 : decode cX3_isRemoved 47 = .ok (.iload_n 2, 1) := by decide +kernel
theorem dX3_isRemoved_48 : decode cX3_isRemoved 48 = .ok (.ireturn, 1) := by decide +kernel
theorem dX3_standing_0 : decode cX3_standing 0 = .ok (.iconst (-1), 1) := by decide +kernel
theorem dX3_standing_1 : decode cX3_standing 1 = .ok (.istore_n 2, 1) := by decide +kernel
theorem dX3_standing_2 : decode cX3_standing 2 = .ok (.iconst 0, 1) := by decide +kernel
theorem dX3_standing_3 : decode cX3_standing 3 = .ok (.istore_n 3, 1) := by decide +kernel
theorem dX3_standing_4 : decode cX3_standing 4 = .ok (.iload_n 3, 1) := by decide +kernel
theorem dX3_standing_5 : decode cX3_standing 5 = .ok (.aload_n 0, 1) := by decide +kernel
theorem dX3_standing_6 : decode cX3_standing 6 = .ok (.getfield 52, 3) := by decide +kernel
theorem dX3_standing_9 : decode cX3_standing 9 = .ok (.if_icmp .ge 73, 3) := by decide +kernel
theorem dX3_standing_12 : decode cX3_standing 12 = .ok (.aload_n 0, 1) := by decide +kernel
theorem dX3_standing_13 : decode cX3_standing 13 = .ok (.getfield 25, 3) := by decide +kernel
theorem dX3_standing_16 : decode cX3_standing 16 = .ok (.iload_n 3, 1) := by decide +kernel
theorem dX3_standing_17 : decode cX3_standing 17 = .ok (.iaload, 1) := by decide +kernel
theorem dX3_standing_18 : decode cX3_standing 18 = .ok (.iload_n 1, 1) := by decide +kernel
theorem dX3_standing_19 : decode cX3_standing 19 = .ok (.if_icmp .ne 16, 3) := by decide +kernel
theorem dX3_standing_22 : decode cX3_standing 22 = .ok (.aload_n 0, 1) := by decide +kernel
theorem dX3_standing_23 : decode cX3_standing 23 = .ok (.getfield 28, 3) := by decide +kernel
theorem dX3_standing_26 : decode cX3_standing 26 = .ok (.iload_n 3, 1) := by decide +kernel
theorem dX3_standing_27 : decode cX3_standing 27 = .ok (.iaload, 1) := by decide +kernel
theorem dX3_standing_28 : decode cX3_standing 28 = .ok (.ifCond .lt 7, 3) := by decide +kernel
theorem dX3_standing_31 : decode cX3_standing 31 = .ok (.iconst 1, 1) := by decide +kernel
theorem dX3_standing_32 : decode cX3_standing 32 = .ok (.goto 4, 3) := by decide +kernel
theorem dX3_standing_35 : decode cX3_standing 35 = .ok (.iconst 0, 1) := by decide +kernel
theorem dX3_standing_36 : decode cX3_standing 36 = .ok (.istore 4, 2) := by decide +kernel
theorem dX3_standing_38 : decode cX3_standing 38 = .ok (.iload 4, 2) := by decide +kernel
theorem dX3_standing_40 : decode cX3_standing 40 = .ok (.ifCond .eq 34, 3) := by decide +kernel
theorem dX3_standing_43 : decode cX3_standing 43 = .ok (.iload_n 2, 1) := by decide +kernel
theorem dX3_standing_44 : decode cX3_standing 44 = .ok (.ifCond .lt 26, 3) := by decide +kernel
theorem dX3_standing_47 : decode cX3_standing 47 = .ok (.aload_n 0, 1) := by decide +kernel
theorem dX3_standing_48 : decode cX3_standing 48 = .ok (.getfield 22, 3) := by decide +kernel
theorem dX3_standing_51 : decode cX3_standing 51 = .ok (.iload_n 3, 1) := by decide +kernel
theorem dX3_standing_52 : decode cX3_standing 52 = .ok (.iaload, 1) := by decide +kernel
theorem dX3_standing_53 : decode cX3_standing 53 = .ok (.aload_n 0, 1) := by decide +kernel
theorem dX3_standing_54 : decode cX3_standing 54 = .ok (.getfield 22, 3) := by decide +kernel
theorem dX3_standing_57 : decode cX3_standing 57 = .ok (.iload_n 2, 1) := by decide +kernel
theorem dX3_standing_58 : decode cX3_standing 58 = .ok (.ifCond .ge 7, 3) := by decide +kernel
theorem dX3_standing_61 : decode cX3_standing 61 = .ok (.iconst 0, 1) := by decide +kernel
theorem dX3_standing_62 : decode cX3_standing 62 = .ok (.goto 4, 3) := by decide +kernel
theorem dX3_standing_65 : decode cX3_standing 65 = .ok (.iload_n 2, 1) := by decide +kernel
theorem dX3_standing_66 : decode cX3_standing 66 = .ok (.iaload, 1) := by decide +kernel
theorem dX3_standing_67 : decode cX3_standing 67 = .ok (.if_icmp .le 7, 3) := by decide +kernel
theorem dX3_standing_70 : decode cX3_standing 70 = .ok (.iload_n 3, 1) := by decide +kernel
theorem dX3_standing_71 : decode cX3_standing 71 = .ok (.goto 4, 3) := by decide +kernel
theorem dX3_standing_74 : decode cX3_standing 74 = .ok (.iload_n 2, 1) := by decide +kernel
theorem dX3_standing_75 : decode cX3_standing 75 = .ok (.istore_n 2, 1) := by decide +kernel
theorem dX3_standing_76 : decode cX3_standing 76 = .ok (.iinc 3 1, 3) := by decide +kernel
theorem dX3_standing_79 : decode cX3_standing 79 = .ok (.goto (-75), 3) := by decide +kernel
theorem dX3_standing_82 : decode cX3_standing 82 = .ok (.iload_n 2, 1) := by decide +kernel
theorem dX3_standing_83 : decode cX3_standing 83 = .ok (.ireturn, 1) := by decide +kernel
theorem dX3_kindOf_0 : decode cX3_kindOf 0 = .ok (.aload_n 0, 1) := by decide +kernel
theorem dX3_kindOf_1 : decode cX3_kindOf 1 = .ok (.iload_n 1, 1) := by decide +kernel
theorem dX3_kindOf_2 : decode cX3_kindOf 2 = .ok (.invokevirtual 76, 3) := by decide +kernel
theorem dX3_kindOf_5 : decode cX3_kindOf 5 = .ok (.istore_n 2, 1) := by decide +kernel
theorem dX3_kindOf_6 : decode cX3_kindOf 6 = .ok (.iload_n 2, 1) := by decide +kernel
theorem dX3_kindOf_7 : decode cX3_kindOf 7 = .ok (.ifCond .ge 16, 3) := by decide +kernel
theorem dX3_kindOf_10 : decode cX3_kindOf 10 = .ok (.aload_n 0, 1) := by decide +kernel
theorem dX3_kindOf_11 : decode cX3_kindOf 11 = .ok (.getfield 16, 3) := by decide +kernel
theorem dX3_kindOf_14 : decode cX3_kindOf 14 = .ok (.aload_n 0, 1) := by decide +kernel
theorem dX3_kindOf_15 : decode cX3_kindOf 15 = .ok (.iload_n 1, 1) := by decide +kernel
theorem dX3_kindOf_16 : decode cX3_kindOf 16 = .ok (.invokevirtual 48, 3) := by decide +kernel
theorem dX3_kindOf_19 : decode cX3_kindOf 19 = .ok (.iaload, 1) := by decide +kernel
theorem dX3_kindOf_20 : decode cX3_kindOf 20 = .ok (.goto 9, 3) := by decide +kernel
theorem dX3_kindOf_23 : decode cX3_kindOf 23 = .ok (.aload_n 0, 1) := by decide +kernel
theorem dX3_kindOf_24 : decode cX3_kindOf 24 = .ok (.getfield 28, 3) := by decide +kernel
theorem dX3_kindOf_27 : decode cX3_kindOf 27 = .ok (.iload_n 2, 1) := by decide +kernel
theorem dX3_kindOf_28 : decode cX3_kindOf 28 = .ok (.iaload, 1) := by decide +kernel
theorem dX3_kindOf_29 : decode cX3_kindOf 29 = .ok (.ireturn, 1) := by decide +kernel
theorem dX3_valueOf_0 : decode cX3_valueOf 0 = .ok (.aload_n 0, 1) := by decide +kernel
theorem dX3_valueOf_1 : decode cX3_valueOf 1 = .ok (.iload_n 1, 1) := by decide +kernel
theorem dX3_valueOf_2 : decode cX3_valueOf 2 = .ok (.invokevirtual 76, 3) := by decide +kernel
theorem dX3_valueOf_5 : decode cX3_valueOf 5 = .ok (.istore_n 2, 1) := by decide +kernel
theorem dX3_valueOf_6 : decode cX3_valueOf 6 = .ok (.iload_n 2, 1) := by decide +kernel
theorem dX3_valueOf_7 : decode cX3_valueOf 7 = .ok (.ifCond .ge 16, 3) := by decide +kernel
theorem dX3_valueOf_10 : decode cX3_valueOf 10 = .ok (.aload_n 0, 1) := by decide +kernel
theorem dX3_valueOf_11 : decode cX3_valueOf 11 = .ok (.getfield 19, 3) := by decide +kernel
theorem dX3_valueOf_14 : decode cX3_valueOf 14 = .ok (.aload_n 0, 1) := by decide +kernel
theorem dX3_valueOf_15 : decode cX3_valueOf 15 = .ok (.iload_n 1, 1) := by decide +kernel
theorem dX3_valueOf_16 : decode cX3_valueOf 16 = .ok (.invokevirtual 48, 3) := by decide +kernel
theorem dX3_valueOf_19 : decode cX3_valueOf 19 = .ok (.iaload, 1) := by decide +kernel
theorem dX3_valueOf_20 : decode cX3_valueOf 20 = .ok (.goto 9, 3) := by decide +kernel
theorem dX3_valueOf_23 : decode cX3_valueOf 23 = .ok (.aload_n 0, 1) := by decide +kernel
theorem dX3_valueOf_24 : decode cX3_valueOf 24 = .ok (.getfield 31, 3) := by decide +kernel
theorem dX3_valueOf_27 : decode cX3_valueOf 27 = .ok (.iload_n 2, 1) := by decide +kernel
theorem dX3_valueOf_28 : decode cX3_valueOf 28 = .ok (.iaload, 1) := by decide +kernel
theorem dX3_valueOf_29 : decode cX3_valueOf 29 = .ok (.ireturn, 1) := by decide +kernel
theorem dX3_push_0 : decode cX3_push 0 = .ok (.iload_n 2, 1) := by decide +kernel
theorem dX3_push_1 : decode cX3_push 1 = .ok (.istore_n 3, 1) := by decide +kernel
theorem dX3_push_2 : decode cX3_push 2 = .ok (.iload_n 2, 1) := by decide +kernel
theorem dX3_push_3 : decode cX3_push 3 = .ok (.istore 4, 2) := by decide +kernel
theorem dX3_push_5 : decode cX3_push 5 = .ok (.iconst 0, 1) := by decide +kernel
theorem dX3_push_6 : decode cX3_push 6 = .ok (.istore 5, 2) := by decide +kernel
theorem dX3_push_8 : decode cX3_push 8 = .ok (.iload 5, 2) := by decide +kernel
theorem dX3_push_10 : decode cX3_push 10 = .ok (.aload_n 0, 1) := by decide +kernel
theorem dX3_push_11 : decode cX3_push 11 = .ok (.getfield 44, 3) := by decide +kernel
theorem dX3_push_14 : decode cX3_push 14 = .ok (.if_icmp .ge 88, 3) := by decide +kernel
theorem dX3_push_17 : decode cX3_push 17 = .ok (.aload_n 0, 1) := by decide +kernel
theorem dX3_push_18 : decode cX3_push 18 = .ok (.getfield 13, 3) := by decide +kernel
theorem dX3_push_21 : decode cX3_push 21 = .ok (.iload 5, 2) := by decide +kernel
theorem dX3_push_23 : decode cX3_push 23 = .ok (.iaload, 1) := by decide +kernel
theorem dX3_push_24 : decode cX3_push 24 = .ok (.iload_n 1, 1) := by decide +kernel
theorem dX3_push_25 : decode cX3_push 25 = .ok (.if_icmp .ne 71, 3) := by decide +kernel
theorem dX3_push_28 : decode cX3_push 28 = .ok (.iload 4, 2) := by decide +kernel
theorem dX3_push_30 : decode cX3_push 30 = .ok (.istore 6, 2) := by decide +kernel
theorem dX3_push_32 : decode cX3_push 32 = .ok (.iload 6, 2) := by decide +kernel
theorem dX3_push_34 : decode cX3_push 34 = .ok (.iload_n 3, 1) := by decide +kernel
theorem dX3_push_35 : decode cX3_push 35 = .ok (.if_icmp .le 44, 3) := by decide +kernel
theorem dX3_push_38 : decode cX3_push 38 = .ok (.aload_n 0, 1) := by decide +kernel
theorem dX3_push_39 : decode cX3_push 39 = .ok (.getfield 37, 3) := by decide +kernel
theorem dX3_push_42 : decode cX3_push 42 = .ok (.iload 6, 2) := by decide +kernel
theorem dX3_push_44 : decode cX3_push 44 = .ok (.iconst 1, 1) := by decide +kernel
theorem dX3_push_45 : decode cX3_push 45 = .ok (.isub, 1) := by decide +kernel
theorem dX3_push_46 : decode cX3_push 46 = .ok (.iaload, 1) := by decide +kernel
theorem dX3_push_47 : decode cX3_push 47 = .ok (.aload_n 0, 1) := by decide +kernel
theorem dX3_push_48 : decode cX3_push 48 = .ok (.getfield 7, 3) := by decide +kernel
theorem dX3_push_51 : decode cX3_push 51 = .ok (.iload 5, 2) := by decide +kernel
theorem dX3_push_53 : decode cX3_push 53 = .ok (.iaload, 1) := by decide +kernel
theorem dX3_push_54 : decode cX3_push 54 = .ok (.if_icmp .le 25, 3) := by decide +kernel
theorem dX3_push_57 : decode cX3_push 57 = .ok (.aload_n 0, 1) := by decide +kernel
theorem dX3_push_58 : decode cX3_push 58 = .ok (.getfield 37, 3) := by decide +kernel
theorem dX3_push_61 : decode cX3_push 61 = .ok (.iload 6, 2) := by decide +kernel
theorem dX3_push_63 : decode cX3_push 63 = .ok (.aload_n 0, 1) := by decide +kernel
theorem dX3_push_64 : decode cX3_push 64 = .ok (.getfield 37, 3) := by decide +kernel
theorem dX3_push_67 : decode cX3_push 67 = .ok (.iload 6, 2) := by decide +kernel
theorem dX3_push_69 : decode cX3_push 69 = .ok (.iconst 1, 1) := by decide +kernel
theorem dX3_push_70 : decode cX3_push 70 = .ok (.isub, 1) := by decide +kernel
theorem dX3_push_71 : decode cX3_push 71 = .ok (.iaload, 1) := by decide +kernel
theorem dX3_push_72 : decode cX3_push 72 = .ok (.iastore, 1) := by decide +kernel
theorem dX3_push_73 : decode cX3_push 73 = .ok (.iinc 6 (-1), 3) := by decide +kernel
theorem dX3_push_76 : decode cX3_push 76 = .ok (.goto (-44), 3) := by decide +kernel
theorem dX3_push_79 : decode cX3_push 79 = .ok (.aload_n 0, 1) := by decide +kernel
theorem dX3_push_80 : decode cX3_push 80 = .ok (.getfield 37, 3) := by decide +kernel
theorem dX3_push_83 : decode cX3_push 83 = .ok (.iload 6, 2) := by decide +kernel
theorem dX3_push_85 : decode cX3_push 85 = .ok (.aload_n 0, 1) := by decide +kernel
theorem dX3_push_86 : decode cX3_push 86 = .ok (.getfield 7, 3) := by decide +kernel
theorem dX3_push_89 : decode cX3_push 89 = .ok (.iload 5, 2) := by decide +kernel
theorem dX3_push_91 : decode cX3_push 91 = .ok (.iaload, 1) := by decide +kernel
theorem dX3_push_92 : decode cX3_push 92 = .ok (.iastore, 1) := by decide +kernel
theorem dX3_push_93 : decode cX3_push 93 = .ok (.iinc 4 1, 3) := by decide +kernel
theorem dX3_push_96 : decode cX3_push 96 = .ok (.iinc 5 1, 3) := by decide +kernel
theorem dX3_push_99 : decode cX3_push 99 = .ok (.goto (-91), 3) := by decide +kernel
theorem dX3_push_102 : decode cX3_push 102 = .ok (.iload 4, 2) := by decide +kernel
theorem dX3_push_104 : decode cX3_push 104 = .ok (.ireturn, 1) := by decide +kernel
theorem dX3_weave_0 : decode cX3_weave 0 = .ok (.aload_n 0, 1) := by decide +kernel
theorem dX3_weave_1 : decode cX3_weave 1 = .ok (.iconst 0, 1) := by decide +kernel
theorem dX3_weave_2 : decode cX3_weave 2 = .ok (.iconst 0, 1) := by decide +kernel
theorem dX3_weave_3 : decode cX3_weave 3 = .ok (.invokevirtual 79, 3) := by decide +kernel
theorem dX3_weave_6 : decode cX3_weave 6 = .ok (.istore_n 1, 1) := by decide +kernel
theorem dX3_weave_7 : decode cX3_weave 7 = .ok (.iconst 0, 1) := by decide +kernel
theorem dX3_weave_8 : decode cX3_weave 8 = .ok (.istore_n 2, 1) := by decide +kernel
theorem dX3_weave_9 : decode cX3_weave 9 = .ok (.iload_n 1, 1) := by decide +kernel
theorem dX3_weave_10 : decode cX3_weave 10 = .ok (.ifCond .le 33, 3) := by decide +kernel
theorem dX3_weave_13 : decode cX3_weave 13 = .ok (.iinc 1 (-1), 3) := by decide +kernel
theorem dX3_weave_16 : decode cX3_weave 16 = .ok (.aload_n 0, 1) := by decide +kernel
theorem dX3_weave_17 : decode cX3_weave 17 = .ok (.getfield 37, 3) := by decide +kernel
theorem dX3_weave_20 : decode cX3_weave 20 = .ok (.iload_n 1, 1) := by decide +kernel
theorem dX3_weave_21 : decode cX3_weave 21 = .ok (.iaload, 1) := by decide +kernel
theorem dX3_weave_22 : decode cX3_weave 22 = .ok (.istore_n 3, 1) := by decide +kernel
theorem dX3_weave_23 : decode cX3_weave 23 = .ok (.aload_n 0, 1) := by decide +kernel
theorem dX3_weave_24 : decode cX3_weave 24 = .ok (.getfield 34, 3) := by decide +kernel
theorem dX3_weave_27 : decode cX3_weave 27 = .ok (.iload_n 2, 1) := by decide +kernel
theorem dX3_weave_28 : decode cX3_weave 28 = .ok (.iload_n 3, 1) := by decide +kernel
theorem dX3_weave_29 : decode cX3_weave 29 = .ok (.iastore, 1) := by decide +kernel
theorem dX3_weave_30 : decode cX3_weave 30 = .ok (.iinc 2 1, 3) := by decide +kernel
theorem dX3_weave_33 : decode cX3_weave 33 = .ok (.aload_n 0, 1) := by decide +kernel
theorem dX3_weave_34 : decode cX3_weave 34 = .ok (.iload_n 3, 1) := by decide +kernel
theorem dX3_weave_35 : decode cX3_weave 35 = .ok (.iload_n 1, 1) := by decide +kernel
theorem dX3_weave_36 : decode cX3_weave 36 = .ok (.invokevirtual 79, 3) := by decide +kernel
theorem dX3_weave_39 : decode cX3_weave 39 = .ok (.istore_n 1, 1) := by decide +kernel
theorem dX3_weave_40 : decode cX3_weave 40 = .ok (.goto (-31), 3) := by decide +kernel
theorem dX3_weave_43 : decode cX3_weave 43 = .ok (.return_, 1) := by decide +kernel
theorem dX3_elementAt_0 : decode cX3_elementAt 0 = .ok (.aload_n 0, 1) := by decide +kernel
theorem dX3_elementAt_1 : decode cX3_elementAt 1 = .ok (.invokevirtual 83, 3) := by decide +kernel
theorem dX3_elementAt_4 : decode cX3_elementAt 4 = .ok (.iload_n 1, 1) := by decide +kernel
theorem dX3_elementAt_5 : decode cX3_elementAt 5 = .ok (.istore_n 2, 1) := by decide +kernel
theorem dX3_elementAt_6 : decode cX3_elementAt 6 = .ok (.iconst 0, 1) := by decide +kernel
theorem dX3_elementAt_7 : decode cX3_elementAt 7 = .ok (.istore_n 3, 1) := by decide +kernel
theorem dX3_elementAt_8 : decode cX3_elementAt 8 = .ok (.iload_n 3, 1) := by decide +kernel
theorem dX3_elementAt_9 : decode cX3_elementAt 9 = .ok (.aload_n 0, 1) := by decide +kernel
theorem dX3_elementAt_10 : decode cX3_elementAt 10 = .ok (.getfield 44, 3) := by decide +kernel
theorem dX3_elementAt_13 : decode cX3_elementAt 13 = .ok (.if_icmp .ge 40, 3) := by decide +kernel
theorem dX3_elementAt_16 : decode cX3_elementAt 16 = .ok (.iload_n 1, 1) := by decide +kernel
theorem dX3_elementAt_17 : decode cX3_elementAt 17 = .ok (.ifCond .lt 36, 3) := by decide +kernel
theorem dX3_elementAt_20 : decode cX3_elementAt 20 = .ok (.aload_n 0, 1) := by decide +kernel
theorem dX3_elementAt_21 : decode cX3_elementAt 21 = .ok (.aload_n 0, 1) := by decide +kernel
theorem dX3_elementAt_22 : decode cX3_elementAt 22 = .ok (.getfield 34, 3) := by decide +kernel
theorem dX3_elementAt_25 : decode cX3_elementAt 25 = .ok (.iload_n 3, 1) := by decide +kernel
theorem dX3_elementAt_26 : decode cX3_elementAt 26 = .ok (.iaload, 1) := by decide +kernel
theorem dX3_elementAt_27 : decode cX3_elementAt 27 = .ok (.invokevirtual 86, 3) := by decide +kernel
theorem dX3_elementAt_30 : decode cX3_elementAt 30 = .ok (.ifCond .ne 17, 3) := by decide +kernel
theorem dX3_elementAt_33 : decode cX3_elementAt 33 = .ok (.iload_n 2, 1) := by decide +kernel
theorem dX3_elementAt_34 : decode cX3_elementAt 34 = .ok (.ifCond .ne 10, 3) := by decide +kernel
theorem dX3_elementAt_37 : decode cX3_elementAt 37 = .ok (.aload_n 0, 1) := by decide +kernel
theorem dX3_elementAt_38 : decode cX3_elementAt 38 = .ok (.getfield 34, 3) := by decide +kernel
theorem dX3_elementAt_41 : decode cX3_elementAt 41 = .ok (.iload_n 3, 1) := by decide +kernel
theorem dX3_elementAt_42 : decode cX3_elementAt 42 = .ok (.iaload, 1) := by decide +kernel
theorem dX3_elementAt_43 : decode cX3_elementAt 43 = .ok (.ireturn, 1) := by decide +kernel
theorem dX3_elementAt_44 : decode cX3_elementAt 44 = .ok (.iinc 2 (-1), 3) := by decide +kernel
theorem dX3_elementAt_47 : decode cX3_elementAt 47 = .ok (.iinc 3 1, 3) := by decide +kernel
theorem dX3_elementAt_50 : decode cX3_elementAt 50 = .ok (.goto (-42), 3) := by decide +kernel
theorem dX3_elementAt_53 : decode cX3_elementAt 53 = .ok (.iconst (-1), 1) := by decide +kernel
theorem dX3_elementAt_54 : decode cX3_elementAt 54 = .ok (.ireturn, 1) := by decide +kernel
theorem dX3_sizeOf_0 : decode cX3_sizeOf 0 = .ok (.iconst 0, 1) := by decide +kernel
theorem dX3_sizeOf_1 : decode cX3_sizeOf 1 = .ok (.istore_n 1, 1) := by decide +kernel
theorem dX3_sizeOf_2 : decode cX3_sizeOf 2 = .ok (.iconst 0, 1) := by decide +kernel
theorem dX3_sizeOf_3 : decode cX3_sizeOf 3 = .ok (.istore_n 2, 1) := by decide +kernel
theorem dX3_sizeOf_4 : decode cX3_sizeOf 4 = .ok (.iload_n 2, 1) := by decide +kernel
theorem dX3_sizeOf_5 : decode cX3_sizeOf 5 = .ok (.aload_n 0, 1) := by decide +kernel
theorem dX3_sizeOf_6 : decode cX3_sizeOf 6 = .ok (.getfield 44, 3) := by decide +kernel
theorem dX3_sizeOf_9 : decode cX3_sizeOf 9 = .ok (.if_icmp .ge 30, 3) := by decide +kernel
theorem dX3_sizeOf_12 : decode cX3_sizeOf 12 = .ok (.iload_n 1, 1) := by decide +kernel
theorem dX3_sizeOf_13 : decode cX3_sizeOf 13 = .ok (.aload_n 0, 1) := by decide +kernel
theorem dX3_sizeOf_14 : decode cX3_sizeOf 14 = .ok (.aload_n 0, 1) := by decide +kernel
theorem dX3_sizeOf_15 : decode cX3_sizeOf 15 = .ok (.getfield 7, 3) := by decide +kernel
theorem dX3_sizeOf_18 : decode cX3_sizeOf 18 = .ok (.iload_n 2, 1) := by decide +kernel
theorem dX3_sizeOf_19 : decode cX3_sizeOf 19 = .ok (.iaload, 1) := by decide +kernel
theorem dX3_sizeOf_20 : decode cX3_sizeOf 20 = .ok (.invokevirtual 86, 3) := by decide +kernel
theorem dX3_sizeOf_23 : decode cX3_sizeOf 23 = .ok (.ifCond .eq 7, 3) := by decide +kernel
theorem dX3_sizeOf_26 : decode cX3_sizeOf 26 = .ok (.iconst 0, 1) := by decide +kernel
theorem dX3_sizeOf_27 : decode cX3_sizeOf 27 = .ok (.goto 4, 3) := by decide +kernel
theorem dX3_sizeOf_30 : decode cX3_sizeOf 30 = .ok (.iconst 1, 1) := by decide +kernel
theorem dX3_sizeOf_31 : decode cX3_sizeOf 31 = .ok (.iadd, 1) := by decide +kernel
theorem dX3_sizeOf_32 : decode cX3_sizeOf 32 = .ok (.istore_n 1, 1) := by decide +kernel
theorem dX3_sizeOf_33 : decode cX3_sizeOf 33 = .ok (.iinc 2 1, 3) := by decide +kernel
theorem dX3_sizeOf_36 : decode cX3_sizeOf 36 = .ok (.goto (-32), 3) := by decide +kernel
theorem dX3_sizeOf_39 : decode cX3_sizeOf 39 = .ok (.iload_n 1, 1) := by decide +kernel
theorem dX3_sizeOf_40 : decode cX3_sizeOf 40 = .ok (.ireturn, 1) := by decide +kernel
theorem dX3_size_0 : decode cX3_size 0 = .ok (.aload_n 0, 1) := by decide +kernel
theorem dX3_size_1 : decode cX3_size 1 = .ok (.iconst 0, 1) := by decide +kernel
theorem dX3_size_2 : decode cX3_size 2 = .ok (.putfield 40, 3) := by decide +kernel
theorem dX3_size_5 : decode cX3_size 5 = .ok (.aload_n 0, 1) := by decide +kernel
theorem dX3_size_6 : decode cX3_size 6 = .ok (.invokevirtual 89, 3) := by decide +kernel
theorem dX3_size_9 : decode cX3_size 9 = .ok (.ireturn, 1) := by decide +kernel
theorem dX3_idStanding_0 : decode cX3_idStanding 0 = .ok (.aload_n 0, 1) := by decide +kernel
theorem dX3_idStanding_1 : decode cX3_idStanding 1 = .ok (.iload_n 1, 1) := by decide +kernel
theorem dX3_idStanding_2 : decode cX3_idStanding 2 = .ok (.invokevirtual 76, 3) := by decide +kernel
theorem dX3_idStanding_5 : decode cX3_idStanding 5 = .ok (.istore_n 2, 1) := by decide +kernel
theorem dX3_idStanding_6 : decode cX3_idStanding 6 = .ok (.iload_n 2, 1) := by decide +kernel
theorem dX3_idStanding_7 : decode cX3_idStanding 7 = .ok (.ifCond .ge 7, 3) := by decide +kernel
theorem dX3_idStanding_10 : decode cX3_idStanding 10 = .ok (.iload_n 1, 1) := by decide +kernel
theorem dX3_idStanding_11 : decode cX3_idStanding 11 = .ok (.goto 9, 3) := by decide +kernel
theorem dX3_idStanding_14 : decode cX3_idStanding 14 = .ok (.aload_n 0, 1) := by decide +kernel
theorem dX3_idStanding_15 : decode cX3_idStanding 15 = .ok (.getfield 22, 3) := by decide +kernel
theorem dX3_idStanding_18 : decode cX3_idStanding 18 = .ok (.iload_n 2, 1) := by decide +kernel
theorem dX3_idStanding_19 : decode cX3_idStanding 19 = .ok (.iaload, 1) := by decide +kernel
theorem dX3_idStanding_20 : decode cX3_idStanding 20 = .ok (.ireturn, 1) := by decide +kernel
theorem dX3_at_0 : decode cX3_at 0 = .ok (.aload_n 0, 1) := by decide +kernel
theorem dX3_at_1 : decode cX3_at 1 = .ok (.iload_n 1, 1) := by decide +kernel
theorem dX3_at_2 : decode cX3_at 2 = .ok (.invokevirtual 93, 3) := by decide +kernel
theorem dX3_at_5 : decode cX3_at 5 = .ok (.istore_n 3, 1) := by decide +kernel
theorem dX3_at_6 : decode cX3_at 6 = .ok (.aload_n 0, 1) := by decide +kernel
theorem dX3_at_7 : decode cX3_at 7 = .ok (.iload_n 3, 1) := by decide +kernel
theorem dX3_at_8 : decode cX3_at 8 = .ok (.ifCond .lt 12, 3) := by decide +kernel
theorem dX3_at_11 : decode cX3_at 11 = .ok (.iload_n 2, 1) := by decide +kernel
theorem dX3_at_12 : decode cX3_at 12 = .ok (.ifCond .lt 8, 3) := by decide +kernel
theorem dX3_at_15 : decode cX3_at 15 = .ok (.iload_n 2, 1) := by decide +kernel
theorem dX3_at_16 : decode cX3_at 16 = .ok (.iconst 3, 1) := by decide +kernel
theorem dX3_at_17 : decode cX3_at 17 = .ok (.if_icmp .le 7, 3) := by decide +kernel
theorem dX3_at_20 : decode cX3_at 20 = .ok (.iconst 1, 1) := by decide +kernel
theorem dX3_at_21 : decode cX3_at 21 = .ok (.goto 4, 3) := by decide +kernel
theorem dX3_at_24 : decode cX3_at 24 = .ok (.iconst 0, 1) := by decide +kernel
theorem dX3_at_25 : decode cX3_at 25 = .ok (.putfield 40, 3) := by decide +kernel
theorem dX3_at_28 : decode cX3_at 28 = .ok (.aload_n 0, 1) := by decide +kernel
theorem dX3_at_29 : decode cX3_at 29 = .ok (.getfield 40, 3) := by decide +kernel
theorem dX3_at_32 : decode cX3_at 32 = .ok (.ifCond .le 7, 3) := by decide +kernel
theorem dX3_at_35 : decode cX3_at 35 = .ok (.iconst 0, 1) := by decide +kernel
theorem dX3_at_36 : decode cX3_at 36 = .ok (.goto 42, 3) := by decide +kernel
theorem dX3_at_39 : decode cX3_at 39 = .ok (.iload_n 2, 1) := by decide +kernel
theorem dX3_at_40 : decode cX3_at 40 = .ok (.ifCond .ne 7, 3) := by decide +kernel
theorem dX3_at_43 : decode cX3_at 43 = .ok (.iload_n 3, 1) := by decide +kernel
theorem dX3_at_44 : decode cX3_at 44 = .ok (.goto 34, 3) := by decide +kernel
theorem dX3_at_47 : decode cX3_at 47 = .ok (.iload_n 2, 1) := by decide +kernel
theorem dX3_at_48 : decode cX3_at 48 = .ok (.iconst 1, 1) := by decide +kernel
theorem dX3_at_49 : decode cX3_at 49 = .ok (.if_icmp .ne 11, 3) := by decide +kernel
theorem dX3_at_52 : decode cX3_at 52 = .ok (.aload_n 0, 1) := by decide +kernel
theorem dX3_at_53 : decode cX3_at 53 = .ok (.iload_n 3, 1) := by decide +kernel
theorem dX3_at_54 : decode cX3_at 54 = .ok (.invokevirtual 96, 3) := by decide +kernel
theorem dX3_at_57 : decode cX3_at 57 = .ok (.goto 21, 3) := by decide +kernel
theorem dX3_at_60 : decode cX3_at 60 = .ok (.iload_n 2, 1) := by decide +kernel
theorem dX3_at_61 : decode cX3_at 61 = .ok (.iconst 2, 1) := by decide +kernel
theorem dX3_at_62 : decode cX3_at 62 = .ok (.if_icmp .ne 11, 3) := by decide +kernel
theorem dX3_at_65 : decode cX3_at 65 = .ok (.aload_n 0, 1) := by decide +kernel
theorem dX3_at_66 : decode cX3_at 66 = .ok (.iload_n 3, 1) := by decide +kernel
theorem dX3_at_67 : decode cX3_at 67 = .ok (.invokevirtual 99, 3) := by decide +kernel
theorem dX3_at_70 : decode cX3_at 70 = .ok (.goto 8, 3) := by decide +kernel
theorem dX3_at_73 : decode cX3_at 73 = .ok (.aload_n 0, 1) := by decide +kernel
theorem dX3_at_74 : decode cX3_at 74 = .ok (.iload_n 3, 1) := by decide +kernel
theorem dX3_at_75 : decode cX3_at 75 = .ok (.invokevirtual 102, 3) := by decide +kernel
theorem dX3_at_78 : decode cX3_at 78 = .ok (.ireturn, 1) := by decide +kernel
theorem dX3_aheadOf_0 : decode cX3_aheadOf 0 = .ok (.aload_n 0, 1) := by decide +kernel
theorem dX3_aheadOf_1 : decode cX3_aheadOf 1 = .ok (.invokevirtual 83, 3) := by decide +kernel
theorem dX3_aheadOf_4 : decode cX3_aheadOf 4 = .ok (.iconst 0, 1) := by decide +kernel
theorem dX3_aheadOf_5 : decode cX3_aheadOf 5 = .ok (.istore_n 2, 1) := by decide +kernel
theorem dX3_aheadOf_6 : decode cX3_aheadOf 6 = .ok (.iconst 0, 1) := by decide +kernel
theorem dX3_aheadOf_7 : decode cX3_aheadOf 7 = .ok (.istore_n 3, 1) := by decide +kernel
theorem dX3_aheadOf_8 : decode cX3_aheadOf 8 = .ok (.aload_n 0, 1) := by decide +kernel
theorem dX3_aheadOf_9 : decode cX3_aheadOf 9 = .ok (.getfield 34, 3) := by decide +kernel
theorem dX3_aheadOf_12 : decode cX3_aheadOf 12 = .ok (.iload_n 3, 1) := by decide +kernel
theorem dX3_aheadOf_13 : decode cX3_aheadOf 13 = .ok (.iaload, 1) := by decide +kernel
theorem dX3_aheadOf_14 : decode cX3_aheadOf 14 = .ok (.iload_n 1, 1) := by decide +kernel
theorem dX3_aheadOf_15 : decode cX3_aheadOf 15 = .ok (.if_icmp .eq 30, 3) := by decide +kernel
theorem dX3_aheadOf_18 : decode cX3_aheadOf 18 = .ok (.iload_n 2, 1) := by decide +kernel
theorem dX3_aheadOf_19 : decode cX3_aheadOf 19 = .ok (.aload_n 0, 1) := by decide +kernel
theorem dX3_aheadOf_20 : decode cX3_aheadOf 20 = .ok (.aload_n 0, 1) := by decide +kernel
theorem dX3_aheadOf_21 : decode cX3_aheadOf 21 = .ok (.getfield 34, 3) := by decide +kernel
theorem dX3_aheadOf_24 : decode cX3_aheadOf 24 = .ok (.iload_n 3, 1) := by decide +kernel
theorem dX3_aheadOf_25 : decode cX3_aheadOf 25 = .ok (.iaload, 1) := by decide +kernel
theorem dX3_aheadOf_26 : decode cX3_aheadOf 26 = .ok (.invokevirtual 86, 3) := by decide +kernel
theorem dX3_aheadOf_29 : decode cX3_aheadOf 29 = .ok (.ifCond .eq 7, 3) := by decide +kernel
theorem dX3_aheadOf_32 : decode cX3_aheadOf 32 = .ok (.iconst 0, 1) := by decide +kernel
theorem dX3_aheadOf_33 : decode cX3_aheadOf 33 = .ok (.goto 4, 3) := by decide +kernel
theorem dX3_aheadOf_36 : decode cX3_aheadOf 36 = .ok (.iconst 1, 1) := by decide +kernel
theorem dX3_aheadOf_37 : decode cX3_aheadOf 37 = .ok (.iadd, 1) := by decide +kernel
theorem dX3_aheadOf_38 : decode cX3_aheadOf 38 = .ok (.istore_n 2, 1) := by decide +kernel
theorem dX3_aheadOf_39 : decode cX3_aheadOf 39 = .ok (.iinc 3 1, 3) := by decide +kernel
theorem dX3_aheadOf_42 : decode cX3_aheadOf 42 = .ok (.goto (-34), 3) := by decide +kernel
theorem dX3_aheadOf_45 : decode cX3_aheadOf 45 = .ok (.iload_n 2, 1) := by decide +kernel
theorem dX3_aheadOf_46 : decode cX3_aheadOf 46 = .ok (.ireturn, 1) := by decide +kernel
theorem dX3_place_0 : decode cX3_place 0 = .ok (.aload_n 0, 1) := by decide +kernel
theorem dX3_place_1 : decode cX3_place 1 = .ok (.iconst 0, 1) := by decide +kernel
theorem dX3_place_2 : decode cX3_place 2 = .ok (.putfield 40, 3) := by decide +kernel
theorem dX3_place_5 : decode cX3_place 5 = .ok (.aload_n 0, 1) := by decide +kernel
theorem dX3_place_6 : decode cX3_place 6 = .ok (.iload_n 1, 1) := by decide +kernel
theorem dX3_place_7 : decode cX3_place 7 = .ok (.invokevirtual 48, 3) := by decide +kernel
theorem dX3_place_10 : decode cX3_place 10 = .ok (.ifCond .lt 11, 3) := by decide +kernel
theorem dX3_place_13 : decode cX3_place 13 = .ok (.aload_n 0, 1) := by decide +kernel
theorem dX3_place_14 : decode cX3_place 14 = .ok (.iload_n 1, 1) := by decide +kernel
theorem dX3_place_15 : decode cX3_place 15 = .ok (.invokevirtual 86, 3) := by decide +kernel
theorem dX3_place_18 : decode cX3_place 18 = .ok (.ifCond .eq 7, 3) := by decide +kernel
theorem dX3_place_21 : decode cX3_place 21 = .ok (.iconst (-1), 1) := by decide +kernel
theorem dX3_place_22 : decode cX3_place 22 = .ok (.goto 8, 3) := by decide +kernel
theorem dX3_place_25 : decode cX3_place 25 = .ok (.aload_n 0, 1) := by decide +kernel
theorem dX3_place_26 : decode cX3_place 26 = .ok (.iload_n 1, 1) := by decide +kernel
theorem dX3_place_27 : decode cX3_place 27 = .ok (.invokevirtual 105, 3) := by decide +kernel
theorem dX3_place_30 : decode cX3_place 30 = .ok (.ireturn, 1) := by decide +kernel
theorem dX3_ahead_0 : decode cX3_ahead 0 = .ok (.aload_n 0, 1) := by decide +kernel
theorem dX3_ahead_1 : decode cX3_ahead 1 = .ok (.aload_n 0, 1) := by decide +kernel
theorem dX3_ahead_2 : decode cX3_ahead 2 = .ok (.iload_n 1, 1) := by decide +kernel
theorem dX3_ahead_3 : decode cX3_ahead 3 = .ok (.invokevirtual 48, 3) := by decide +kernel
theorem dX3_ahead_6 : decode cX3_ahead 6 = .ok (.ifCond .ge 7, 3) := by decide +kernel
theorem dX3_ahead_9 : decode cX3_ahead 9 = .ok (.iconst 1, 1) := by decide +kernel
theorem dX3_ahead_10 : decode cX3_ahead 10 = .ok (.goto 4, 3) := by decide +kernel
theorem dX3_ahead_13 : decode cX3_ahead 13 = .ok (.iconst 0, 1) := by decide +kernel
theorem dX3_ahead_14 : decode cX3_ahead 14 = .ok (.putfield 40, 3) := by decide +kernel
theorem dX3_ahead_17 : decode cX3_ahead 17 = .ok (.aload_n 0, 1) := by decide +kernel
theorem dX3_ahead_18 : decode cX3_ahead 18 = .ok (.getfield 40, 3) := by decide +kernel
theorem dX3_ahead_21 : decode cX3_ahead 21 = .ok (.ifCond .le 7, 3) := by decide +kernel
theorem dX3_ahead_24 : decode cX3_ahead 24 = .ok (.iconst 0, 1) := by decide +kernel
theorem dX3_ahead_25 : decode cX3_ahead 25 = .ok (.goto 8, 3) := by decide +kernel
theorem dX3_ahead_28 : decode cX3_ahead 28 = .ok (.aload_n 0, 1) := by decide +kernel
theorem dX3_ahead_29 : decode cX3_ahead 29 = .ok (.iload_n 1, 1) := by decide +kernel
theorem dX3_ahead_30 : decode cX3_ahead 30 = .ok (.invokevirtual 105, 3) := by decide +kernel
theorem dX3_ahead_33 : decode cX3_ahead 33 = .ok (.ireturn, 1) := by decide +kernel
theorem dX3_rowOf_0 : decode cX3_rowOf 0 = .ok (.iconst 0, 1) := by decide +kernel
theorem dX3_rowOf_1 : decode cX3_rowOf 1 = .ok (.istore_n 2, 1) := by decide +kernel
theorem dX3_rowOf_2 : decode cX3_rowOf 2 = .ok (.iconst 0, 1) := by decide +kernel
theorem dX3_rowOf_3 : decode cX3_rowOf 3 = .ok (.istore_n 3, 1) := by decide +kernel
theorem dX3_rowOf_4 : decode cX3_rowOf 4 = .ok (.iload_n 3, 1) := by decide +kernel
theorem dX3_rowOf_5 : decode cX3_rowOf 5 = .ok (.aload_n 0, 1) := by decide +kernel
theorem dX3_rowOf_6 : decode cX3_rowOf 6 = .ok (.getfield 44, 3) := by decide +kernel
theorem dX3_rowOf_9 : decode cX3_rowOf 9 = .ok (.if_icmp .ge 25, 3) := by decide +kernel
theorem dX3_rowOf_12 : decode cX3_rowOf 12 = .ok (.aload_n 0, 1) := by decide +kernel
theorem dX3_rowOf_13 : decode cX3_rowOf 13 = .ok (.getfield 34, 3) := by decide +kernel
theorem dX3_rowOf_16 : decode cX3_rowOf 16 = .ok (.iload_n 3, 1) := by decide +kernel
theorem dX3_rowOf_17 : decode cX3_rowOf 17 = .ok (.iaload, 1) := by decide +kernel
theorem dX3_rowOf_18 : decode cX3_rowOf 18 = .ok (.iload_n 1, 1) := by decide +kernel
theorem dX3_rowOf_19 : decode cX3_rowOf 19 = .ok (.if_icmp .ne 7, 3) := by decide +kernel
theorem dX3_rowOf_22 : decode cX3_rowOf 22 = .ok (.iload_n 3, 1) := by decide +kernel
theorem dX3_rowOf_23 : decode cX3_rowOf 23 = .ok (.goto 4, 3) := by decide +kernel
theorem dX3_rowOf_26 : decode cX3_rowOf 26 = .ok (.iload_n 2, 1) := by decide +kernel
theorem dX3_rowOf_27 : decode cX3_rowOf 27 = .ok (.istore_n 2, 1) := by decide +kernel
theorem dX3_rowOf_28 : decode cX3_rowOf 28 = .ok (.iinc 3 1, 3) := by decide +kernel
theorem dX3_rowOf_31 : decode cX3_rowOf 31 = .ok (.goto (-27), 3) := by decide +kernel
theorem dX3_rowOf_34 : decode cX3_rowOf 34 = .ok (.iload_n 2, 1) := by decide +kernel
theorem dX3_rowOf_35 : decode cX3_rowOf 35 = .ok (.ireturn, 1) := by decide +kernel
theorem dX3_before_0 : decode cX3_before 0 = .ok (.aload_n 0, 1) := by decide +kernel
theorem dX3_before_1 : decode cX3_before 1 = .ok (.aload_n 0, 1) := by decide +kernel
theorem dX3_before_2 : decode cX3_before 2 = .ok (.iload_n 1, 1) := by decide +kernel
theorem dX3_before_3 : decode cX3_before 3 = .ok (.invokevirtual 48, 3) := by decide +kernel
theorem dX3_before_6 : decode cX3_before 6 = .ok (.ifCond .lt 11, 3) := by decide +kernel
theorem dX3_before_9 : decode cX3_before 9 = .ok (.aload_n 0, 1) := by decide +kernel
theorem dX3_before_10 : decode cX3_before 10 = .ok (.iload_n 2, 1) := by decide +kernel
theorem dX3_before_11 : decode cX3_before 11 = .ok (.invokevirtual 48, 3) := by decide +kernel
theorem dX3_before_14 : decode cX3_before 14 = .ok (.ifCond .ge 7, 3) := by decide +kernel
theorem dX3_before_17 : decode cX3_before 17 = .ok (.iconst 1, 1) := by decide +kernel
theorem dX3_before_18 : decode cX3_before 18 = .ok (.goto 4, 3) := by decide +kernel
theorem dX3_before_21 : decode cX3_before 21 = .ok (.iconst 0, 1) := by decide +kernel
theorem dX3_before_22 : decode cX3_before 22 = .ok (.putfield 40, 3) := by decide +kernel
theorem dX3_before_25 : decode cX3_before 25 = .ok (.aload_n 0, 1) := by decide +kernel
theorem dX3_before_26 : decode cX3_before 26 = .ok (.getfield 40, 3) := by decide +kernel
theorem dX3_before_29 : decode cX3_before 29 = .ok (.ifCond .le 5, 3) := by decide +kernel
theorem dX3_before_32 : decode cX3_before 32 = .ok (.iconst 0, 1) := by decide +kernel
theorem dX3_before_33 : decode cX3_before 33 = .ok (.ireturn, 1) := by decide +kernel
theorem dX3_before_34 : decode cX3_before 34 = .ok (.aload_n 0, 1) := by decide +kernel
theorem dX3_before_35 : decode cX3_before 35 = .ok (.invokevirtual 83, 3) := by decide +kernel
theorem dX3_before_38 : decode cX3_before 38 = .ok (.aload_n 0, 1) := by decide +kernel
theorem dX3_before_39 : decode cX3_before 39 = .ok (.iload_n 1, 1) := by decide +kernel
theorem dX3_before_40 : decode cX3_before 40 = .ok (.invokevirtual 108, 3) := by decide +kernel
theorem dX3_before_43 : decode cX3_before 43 = .ok (.aload_n 0, 1) := by decide +kernel
theorem dX3_before_44 : decode cX3_before 44 = .ok (.iload_n 2, 1) := by decide +kernel
theorem dX3_before_45 : decode cX3_before 45 = .ok (.invokevirtual 108, 3) := by decide +kernel
theorem dX3_before_48 : decode cX3_before 48 = .ok (.if_icmp .ge 7, 3) := by decide +kernel
theorem dX3_before_51 : decode cX3_before 51 = .ok (.iconst 1, 1) := by decide +kernel
theorem dX3_before_52 : decode cX3_before 52 = .ok (.goto 4, 3) := by decide +kernel
theorem dX3_before_55 : decode cX3_before 55 = .ok (.iconst 0, 1) := by decide +kernel
theorem dX3_before_56 : decode cX3_before 56 = .ok (.ireturn, 1) := by decide +kernel
theorem dX3_row_0 : decode cX3_row 0 = .ok (.aload_n 0, 1) := by decide +kernel
theorem dX3_row_1 : decode cX3_row 1 = .ok (.iload_n 1, 1) := by decide +kernel
theorem dX3_row_2 : decode cX3_row 2 = .ok (.ifCond .lt 11, 3) := by decide +kernel
theorem dX3_row_5 : decode cX3_row 5 = .ok (.iload_n 1, 1) := by decide +kernel
theorem dX3_row_6 : decode cX3_row 6 = .ok (.aload_n 0, 1) := by decide +kernel
theorem dX3_row_7 : decode cX3_row 7 = .ok (.getfield 44, 3) := by decide +kernel
theorem dX3_row_10 : decode cX3_row 10 = .ok (.if_icmp .lt 7, 3) := by decide +kernel
theorem dX3_row_13 : decode cX3_row 13 = .ok (.iconst 1, 1) := by decide +kernel
theorem dX3_row_14 : decode cX3_row 14 = .ok (.goto 4, 3) := by decide +kernel
theorem dX3_row_17 : decode cX3_row 17 = .ok (.iconst 0, 1) := by decide +kernel
theorem dX3_row_18 : decode cX3_row 18 = .ok (.putfield 40, 3) := by decide +kernel
theorem dX3_row_21 : decode cX3_row 21 = .ok (.aload_n 0, 1) := by decide +kernel
theorem dX3_row_22 : decode cX3_row 22 = .ok (.getfield 40, 3) := by decide +kernel
theorem dX3_row_25 : decode cX3_row 25 = .ok (.ifCond .le 5, 3) := by decide +kernel
theorem dX3_row_28 : decode cX3_row 28 = .ok (.iconst 0, 1) := by decide +kernel
theorem dX3_row_29 : decode cX3_row 29 = .ok (.ireturn, 1) := by decide +kernel
theorem dX3_row_30 : decode cX3_row 30 = .ok (.aload_n 0, 1) := by decide +kernel
theorem dX3_row_31 : decode cX3_row 31 = .ok (.invokevirtual 83, 3) := by decide +kernel
theorem dX3_row_34 : decode cX3_row 34 = .ok (.aload_n 0, 1) := by decide +kernel
theorem dX3_row_35 : decode cX3_row 35 = .ok (.aload_n 0, 1) := by decide +kernel
theorem dX3_row_36 : decode cX3_row 36 = .ok (.getfield 34, 3) := by decide +kernel
theorem dX3_row_39 : decode cX3_row 39 = .ok (.iload_n 1, 1) := by decide +kernel
theorem dX3_row_40 : decode cX3_row 40 = .ok (.iaload, 1) := by decide +kernel
theorem dX3_row_41 : decode cX3_row 41 = .ok (.invokevirtual 86, 3) := by decide +kernel
theorem dX3_row_44 : decode cX3_row 44 = .ok (.ifCond .eq 13, 3) := by decide +kernel
theorem dX3_row_47 : decode cX3_row 47 = .ok (.aload_n 0, 1) := by decide +kernel
theorem dX3_row_48 : decode cX3_row 48 = .ok (.getfield 34, 3) := by decide +kernel
theorem dX3_row_51 : decode cX3_row 51 = .ok (.iload_n 1, 1) := by decide +kernel
theorem dX3_row_52 : decode cX3_row 52 = .ok (.iaload, 1) := by decide +kernel
theorem dX3_row_53 : decode cX3_row 53 = .ok (.ineg, 1) := by decide +kernel
theorem dX3_row_54 : decode cX3_row 54 = .ok (.goto 9, 3) := by decide +kernel
theorem dX3_row_57 : decode cX3_row 57 = .ok (.aload_n 0, 1) := by decide +kernel
theorem dX3_row_58 : decode cX3_row 58 = .ok (.getfield 34, 3) := by decide +kernel
theorem dX3_row_61 : decode cX3_row 61 = .ok (.iload_n 1, 1) := by decide +kernel
theorem dX3_row_62 : decode cX3_row 62 = .ok (.iaload, 1) := by decide +kernel
theorem dX3_row_63 : decode cX3_row 63 = .ok (.ireturn, 1) := by decide +kernel
theorem dX3_counted_0 : decode cX3_counted 0 = .ok (.iconst 0, 1) := by decide +kernel
theorem dX3_counted_1 : decode cX3_counted 1 = .ok (.istore_n 3, 1) := by decide +kernel
theorem dX3_counted_2 : decode cX3_counted 2 = .ok (.iconst 0, 1) := by decide +kernel
theorem dX3_counted_3 : decode cX3_counted 3 = .ok (.istore 4, 2) := by decide +kernel
theorem dX3_counted_5 : decode cX3_counted 5 = .ok (.iload 4, 2) := by decide +kernel
theorem dX3_counted_7 : decode cX3_counted 7 = .ok (.aload_n 0, 1) := by decide +kernel
theorem dX3_counted_8 : decode cX3_counted 8 = .ok (.getfield 44, 3) := by decide +kernel
theorem dX3_counted_11 : decode cX3_counted 11 = .ok (.if_icmp .ge 33, 3) := by decide +kernel
theorem dX3_counted_14 : decode cX3_counted 14 = .ok (.iload_n 2, 1) := by decide +kernel
theorem dX3_counted_15 : decode cX3_counted 15 = .ok (.iconst 1, 1) := by decide +kernel
theorem dX3_counted_16 : decode cX3_counted 16 = .ok (.if_icmp .ne 28, 3) := by decide +kernel
theorem dX3_counted_19 : decode cX3_counted 19 = .ok (.iload_n 3, 1) := by decide +kernel
theorem dX3_counted_20 : decode cX3_counted 20 = .ok (.aload_n 0, 1) := by decide +kernel
theorem dX3_counted_21 : decode cX3_counted 21 = .ok (.getfield 13, 3) := by decide +kernel
theorem dX3_counted_24 : decode cX3_counted 24 = .ok (.iload 4, 2) := by decide +kernel
theorem dX3_counted_26 : decode cX3_counted 26 = .ok (.iaload, 1) := by decide +kernel
theorem dX3_counted_27 : decode cX3_counted 27 = .ok (.iload_n 1, 1) := by decide +kernel
theorem dX3_counted_28 : decode cX3_counted 28 = .ok (.if_icmp .ne 7, 3) := by decide +kernel
theorem dX3_counted_31 : decode cX3_counted 31 = .ok (.iconst 1, 1) := by decide +kernel
theorem dX3_counted_32 : decode cX3_counted 32 = .ok (.goto 4, 3) := by decide +kernel
theorem dX3_counted_35 : decode cX3_counted 35 = .ok (.iconst 0, 1) := by decide +kernel
theorem dX3_counted_36 : decode cX3_counted 36 = .ok (.iadd, 1) := by decide +kernel
theorem dX3_counted_37 : decode cX3_counted 37 = .ok (.istore_n 3, 1) := by decide +kernel
theorem dX3_counted_38 : decode cX3_counted 38 = .ok (.iinc 4 1, 3) := by decide +kernel
theorem dX3_counted_41 : decode cX3_counted 41 = .ok (.goto (-36), 3) := by decide +kernel
theorem dX3_counted_44 : decode cX3_counted 44 = .ok (.iconst 0, 1) := by decide +kernel
theorem dX3_counted_45 : decode cX3_counted 45 = .ok (.istore 4, 2) := by decide +kernel
theorem dX3_counted_47 : decode cX3_counted 47 = .ok (.iload 4, 2) := by decide +kernel
theorem dX3_counted_49 : decode cX3_counted 49 = .ok (.aload_n 0, 1) := by decide +kernel
theorem dX3_counted_50 : decode cX3_counted 50 = .ok (.getfield 52, 3) := by decide +kernel
theorem dX3_counted_53 : decode cX3_counted 53 = .ok (.if_icmp .ge 61, 3) := by decide +kernel
theorem dX3_counted_56 : decode cX3_counted 56 = .ok (.iload_n 2, 1) := by decide +kernel
theorem dX3_counted_57 : decode cX3_counted 57 = .ok (.iconst 1, 1) := by decide +kernel
theorem dX3_counted_58 : decode cX3_counted 58 = .ok (.if_icmp .le 56, 3) := by decide +kernel
theorem dX3_counted_61 : decode cX3_counted 61 = .ok (.iload_n 3, 1) := by decide +kernel
theorem dX3_counted_62 : decode cX3_counted 62 = .ok (.aload_n 0, 1) := by decide +kernel
theorem dX3_counted_63 : decode cX3_counted 63 = .ok (.getfield 25, 3) := by decide +kernel
theorem dX3_counted_66 : decode cX3_counted 66 = .ok (.iload 4, 2) := by decide +kernel
theorem dX3_counted_68 : decode cX3_counted 68 = .ok (.iaload, 1) := by decide +kernel
theorem dX3_counted_69 : decode cX3_counted 69 = .ok (.iload_n 1, 1) := by decide +kernel
theorem dX3_counted_70 : decode cX3_counted 70 = .ok (.if_icmp .ne 35, 3) := by decide +kernel
theorem dX3_counted_73 : decode cX3_counted 73 = .ok (.aload_n 0, 1) := by decide +kernel
theorem dX3_counted_74 : decode cX3_counted 74 = .ok (.getfield 28, 3) := by decide +kernel
theorem dX3_counted_77 : decode cX3_counted 77 = .ok (.iload 4, 2) := by decide +kernel
theorem dX3_counted_79 : decode cX3_counted 79 = .ok (.iaload, 1) := by decide +kernel
theorem dX3_counted_80 : decode cX3_counted 80 = .ok (.ifCond .ge 7, 3) := by decide +kernel
theorem dX3_counted_83 : decode cX3_counted 83 = .ok (.iconst 1, 1) := by decide +kernel
theorem dX3_counted_84 : decode cX3_counted 84 = .ok (.goto 4, 3) := by decide +kernel
theorem dX3_counted_87 : decode cX3_counted 87 = .ok (.iconst 0, 1) := by decide +kernel
theorem dX3_counted_88 : decode cX3_counted 88 = .ok (.iload_n 2, 1) := by decide +kernel
theorem dX3_counted_89 : decode cX3_counted 89 = .ok (.iconst 3, 1) := by decide +kernel
theorem dX3_counted_90 : decode cX3_counted 90 = .ok (.if_icmp .ne 7, 3) := by decide +kernel
theorem dX3_counted_93 : decode cX3_counted 93 = .ok (.iconst 1, 1) := by decide +kernel
theorem dX3_counted_94 : decode cX3_counted 94 = .ok (.goto 4, 3) := by decide +kernel
theorem dX3_counted_97 : decode cX3_counted 97 = .ok (.iconst 0, 1) := by decide +kernel
theorem dX3_counted_98 : decode cX3_counted 98 = .ok (.if_icmp .ne 7, 3) := by decide +kernel
theorem dX3_counted_101 : decode cX3_counted 101 = .ok (.iconst 1, 1) := by decide +kernel
theorem dX3_counted_102 : decode cX3_counted 102 = .ok (.goto 4, 3) := by decide +kernel
theorem dX3_counted_105 : decode cX3_counted 105 = .ok (.iconst 0, 1) := by decide +kernel
theorem dX3_counted_106 : decode cX3_counted 106 = .ok (.iadd, 1) := by decide +kernel
theorem dX3_counted_107 : decode cX3_counted 107 = .ok (.istore_n 3, 1) := by decide +kernel
theorem dX3_counted_108 : decode cX3_counted 108 = .ok (.iinc 4 1, 3) := by decide +kernel
theorem dX3_counted_111 : decode cX3_counted 111 = .ok (.goto (-64), 3) := by decide +kernel
theorem dX3_counted_114 : decode cX3_counted 114 = .ok (.iload_n 3, 1) := by decide +kernel
theorem dX3_counted_115 : decode cX3_counted 115 = .ok (.ireturn, 1) := by decide +kernel
theorem dX3_of_0 : decode cX3_of 0 = .ok (.aload_n 0, 1) := by decide +kernel
theorem dX3_of_1 : decode cX3_of 1 = .ok (.iload_n 1, 1) := by decide +kernel
theorem dX3_of_2 : decode cX3_of 2 = .ok (.invokevirtual 48, 3) := by decide +kernel
theorem dX3_of_5 : decode cX3_of 5 = .ok (.istore_n 3, 1) := by decide +kernel
theorem dX3_of_6 : decode cX3_of 6 = .ok (.aload_n 0, 1) := by decide +kernel
theorem dX3_of_7 : decode cX3_of 7 = .ok (.iload_n 2, 1) := by decide +kernel
theorem dX3_of_8 : decode cX3_of 8 = .ok (.ifCond .lt 26, 3) := by decide +kernel
theorem dX3_of_11 : decode cX3_of 11 = .ok (.iload_n 2, 1) := by decide +kernel
theorem dX3_of_12 : decode cX3_of 12 = .ok (.bipush 6, 2) := by decide +kernel
theorem dX3_of_14 : decode cX3_of 14 = .ok (.if_icmp .gt 20, 3) := by decide +kernel
theorem dX3_of_17 : decode cX3_of 17 = .ok (.iload_n 3, 1) := by decide +kernel
theorem dX3_of_18 : decode cX3_of 18 = .ok (.ifCond .ge 12, 3) := by decide +kernel
theorem dX3_of_21 : decode cX3_of 21 = .ok (.iload_n 1, 1) := by decide +kernel
theorem dX3_of_22 : decode cX3_of 22 = .ok (.ifCond .ne 12, 3) := by decide +kernel
theorem dX3_of_25 : decode cX3_of 25 = .ok (.iload_n 2, 1) := by decide +kernel
theorem dX3_of_26 : decode cX3_of 26 = .ok (.iconst 2, 1) := by decide +kernel
theorem dX3_of_27 : decode cX3_of 27 = .ok (.if_icmp .ge 7, 3) := by decide +kernel
theorem dX3_of_30 : decode cX3_of 30 = .ok (.iconst 0, 1) := by decide +kernel
theorem dX3_of_31 : decode cX3_of 31 = .ok (.goto 4, 3) := by decide +kernel
theorem dX3_of_34 : decode cX3_of 34 = .ok (.iconst 1, 1) := by decide +kernel
theorem dX3_of_35 : decode cX3_of 35 = .ok (.putfield 40, 3) := by decide +kernel
theorem dX3_of_38 : decode cX3_of 38 = .ok (.aload_n 0, 1) := by decide +kernel
theorem dX3_of_39 : decode cX3_of 39 = .ok (.getfield 40, 3) := by decide +kernel
theorem dX3_of_42 : decode cX3_of 42 = .ok (.ifCond .le 5, 3) := by decide +kernel
theorem dX3_of_45 : decode cX3_of 45 = .ok (.iconst 0, 1) := by decide +kernel
theorem dX3_of_46 : decode cX3_of 46 = .ok (.ireturn, 1) := by decide +kernel
theorem dX3_of_47 : decode cX3_of 47 = .ok (.iload_n 2, 1) := by decide +kernel
theorem dX3_of_48 : decode cX3_of 48 = .ok (.tableswitch 74 0 5 #[40, 55, 55, 55, 62, 68], 40) := by decide +kernel
theorem dX3_of_88 : decode cX3_of 88 = .ok (.iload_n 1, 1) := by decide +kernel
theorem dX3_of_89 : decode cX3_of 89 = .ok (.ifCond .ne 7, 3) := by decide +kernel
theorem dX3_of_92 : decode cX3_of 92 = .ok (.iconst 0, 1) := by decide +kernel
theorem dX3_of_93 : decode cX3_of 93 = .ok (.goto 9, 3) := by decide +kernel
theorem dX3_of_96 : decode cX3_of 96 = .ok (.aload_n 0, 1) := by decide +kernel
theorem dX3_of_97 : decode cX3_of 97 = .ok (.getfield 13, 3) := by decide +kernel
theorem dX3_of_100 : decode cX3_of 100 = .ok (.iload_n 3, 1) := by decide +kernel
theorem dX3_of_101 : decode cX3_of 101 = .ok (.iaload, 1) := by decide +kernel
theorem dX3_of_102 : decode cX3_of 102 = .ok (.ireturn, 1) := by decide +kernel
theorem dX3_of_103 : decode cX3_of 103 = .ok (.aload_n 0, 1) := by decide +kernel
theorem dX3_of_104 : decode cX3_of 104 = .ok (.iload_n 1, 1) := by decide +kernel
theorem dX3_of_105 : decode cX3_of 105 = .ok (.iload_n 2, 1) := by decide +kernel
theorem dX3_of_106 : decode cX3_of 106 = .ok (.invokevirtual 111, 3) := by decide +kernel
theorem dX3_of_109 : decode cX3_of 109 = .ok (.ireturn, 1) := by decide +kernel
theorem dX3_of_110 : decode cX3_of 110 = .ok (.aload_n 0, 1) := by decide +kernel
theorem dX3_of_111 : decode cX3_of 111 = .ok (.iload_n 1, 1) := by decide +kernel
theorem dX3_of_112 : decode cX3_of 112 = .ok (.invokevirtual 102, 3) := by decide +kernel
theorem dX3_of_115 : decode cX3_of 115 = .ok (.ireturn, 1) := by decide +kernel
theorem dX3_of_116 : decode cX3_of 116 = .ok (.aload_n 0, 1) := by decide +kernel
theorem dX3_of_117 : decode cX3_of 117 = .ok (.iload_n 1, 1) := by decide +kernel
theorem dX3_of_118 : decode cX3_of 118 = .ok (.invokevirtual 96, 3) := by decide +kernel
theorem dX3_of_121 : decode cX3_of 121 = .ok (.ireturn, 1) := by decide +kernel
theorem dX3_of_122 : decode cX3_of 122 = .ok (.aload_n 0, 1) := by decide +kernel
theorem dX3_of_123 : decode cX3_of 123 = .ok (.iload_n 1, 1) := by decide +kernel
theorem dX3_of_124 : decode cX3_of 124 = .ok (.invokevirtual 99, 3) := by decide +kernel
theorem dX3_of_127 : decode cX3_of 127 = .ok (.ireturn, 1) := by decide +kernel
theorem dX3_sum_0 : decode cX3_sum 0 = .ok (.aload_n 0, 1) := by decide +kernel
theorem dX3_sum_1 : decode cX3_sum 1 = .ok (.iconst 0, 1) := by decide +kernel
theorem dX3_sum_2 : decode cX3_sum 2 = .ok (.putfield 40, 3) := by decide +kernel
theorem dX3_sum_5 : decode cX3_sum 5 = .ok (.aload_n 0, 1) := by decide +kernel
theorem dX3_sum_6 : decode cX3_sum 6 = .ok (.invokevirtual 83, 3) := by decide +kernel
theorem dX3_sum_9 : decode cX3_sum 9 = .ok (.lconst 0, 1) := by decide +kernel
theorem dX3_sum_10 : decode cX3_sum 10 = .ok (.lstore_n 3, 1) := by decide +kernel
theorem dX3_sum_11 : decode cX3_sum 11 = .ok (.iconst 0, 1) := by decide +kernel
theorem dX3_sum_12 : decode cX3_sum 12 = .ok (.istore 5, 2) := by decide +kernel
theorem dX3_sum_14 : decode cX3_sum 14 = .ok (.iconst 0, 1) := by decide +kernel
theorem dX3_sum_15 : decode cX3_sum 15 = .ok (.istore 6, 2) := by decide +kernel
theorem dX3_sum_17 : decode cX3_sum 17 = .ok (.iload 6, 2) := by decide +kernel
theorem dX3_sum_19 : decode cX3_sum 19 = .ok (.aload_n 0, 1) := by decide +kernel
theorem dX3_sum_20 : decode cX3_sum 20 = .ok (.getfield 44, 3) := by decide +kernel
theorem dX3_sum_23 : decode cX3_sum 23 = .ok (.if_icmp .ge 72, 3) := by decide +kernel
theorem dX3_sum_26 : decode cX3_sum 26 = .ok (.aload_n 0, 1) := by decide +kernel
theorem dX3_sum_27 : decode cX3_sum 27 = .ok (.aload_n 0, 1) := by decide +kernel
theorem dX3_sum_28 : decode cX3_sum 28 = .ok (.getfield 34, 3) := by decide +kernel
theorem dX3_sum_31 : decode cX3_sum 31 = .ok (.iload 6, 2) := by decide +kernel
theorem dX3_sum_33 : decode cX3_sum 33 = .ok (.iaload, 1) := by decide +kernel
theorem dX3_sum_34 : decode cX3_sum 34 = .ok (.invokevirtual 86, 3) := by decide +kernel
theorem dX3_sum_37 : decode cX3_sum 37 = .ok (.ifCond .ne 52, 3) := by decide +kernel
theorem dX3_sum_40 : decode cX3_sum 40 = .ok (.lload_n 3, 1) := by decide +kernel
theorem dX3_sum_41 : decode cX3_sum 41 = .ok (.iload 5, 2) := by decide +kernel
theorem dX3_sum_43 : decode cX3_sum 43 = .ok (.iload_n 1, 1) := by decide +kernel
theorem dX3_sum_44 : decode cX3_sum 44 = .ok (.if_icmp .lt 39, 3) := by decide +kernel
theorem dX3_sum_47 : decode cX3_sum 47 = .ok (.iload 5, 2) := by decide +kernel
theorem dX3_sum_49 : decode cX3_sum 49 = .ok (.iload_n 2, 1) := by decide +kernel
theorem dX3_sum_50 : decode cX3_sum 50 = .ok (.if_icmp .ge 33, 3) := by decide +kernel
theorem dX3_sum_53 : decode cX3_sum 53 = .ok (.aload_n 0, 1) := by decide +kernel
theorem dX3_sum_54 : decode cX3_sum 54 = .ok (.aload_n 0, 1) := by decide +kernel
theorem dX3_sum_55 : decode cX3_sum 55 = .ok (.getfield 34, 3) := by decide +kernel
theorem dX3_sum_58 : decode cX3_sum 58 = .ok (.iload 6, 2) := by decide +kernel
theorem dX3_sum_60 : decode cX3_sum 60 = .ok (.iaload, 1) := by decide +kernel
theorem dX3_sum_61 : decode cX3_sum 61 = .ok (.invokevirtual 96, 3) := by decide +kernel
theorem dX3_sum_64 : decode cX3_sum 64 = .ok (.iconst 2, 1) := by decide +kernel
theorem dX3_sum_65 : decode cX3_sum 65 = .ok (.if_icmp .ne 18, 3) := by decide +kernel
theorem dX3_sum_68 : decode cX3_sum 68 = .ok (.aload_n 0, 1) := by decide +kernel
theorem dX3_sum_69 : decode cX3_sum 69 = .ok (.aload_n 0, 1) := by decide +kernel
theorem dX3_sum_70 : decode cX3_sum 70 = .ok (.getfield 34, 3) := by decide +kernel
theorem dX3_sum_73 : decode cX3_sum 73 = .ok (.iload 6, 2) := by decide +kernel
theorem dX3_sum_75 : decode cX3_sum 75 = .ok (.iaload, 1) := by decide +kernel
theorem dX3_sum_76 : decode cX3_sum 76 = .ok (.invokevirtual 99, 3) := by decide +kernel
theorem dX3_sum_79 : decode cX3_sum 79 = .ok (.i2l, 1) := by decide +kernel
theorem dX3_sum_80 : decode cX3_sum 80 = .ok (.goto 4, 3) := by decide +kernel
theorem dX3_sum_83 : decode cX3_sum 83 = .ok (.lconst 0, 1) := by decide +kernel
theorem dX3_sum_84 : decode cX3_sum 84 = .ok (.ladd, 1) := by decide +kernel
theorem dX3_sum_85 : decode cX3_sum 85 = .ok (.lstore_n 3, 1) := by decide +kernel
theorem dX3_sum_86 : decode cX3_sum 86 = .ok (.iinc 5 1, 3) := by decide +kernel
theorem dX3_sum_89 : decode cX3_sum 89 = .ok (.iinc 6 1, 3) := by decide +kernel
theorem dX3_sum_92 : decode cX3_sum 92 = .ok (.goto (-75), 3) := by decide +kernel
theorem dX3_sum_95 : decode cX3_sum 95 = .ok (.lload_n 3, 1) := by decide +kernel
theorem dX3_sum_96 : decode cX3_sum 96 = .ok (.lreturn, 1) := by decide +kernel
theorem dX3_deepest_0 : decode cX3_deepest 0 = .ok (.iconst 0, 1) := by decide +kernel
theorem dX3_deepest_1 : decode cX3_deepest 1 = .ok (.istore_n 1, 1) := by decide +kernel
theorem dX3_deepest_2 : decode cX3_deepest 2 = .ok (.iconst 0, 1) := by decide +kernel
theorem dX3_deepest_3 : decode cX3_deepest 3 = .ok (.istore_n 2, 1) := by decide +kernel
theorem dX3_deepest_4 : decode cX3_deepest 4 = .ok (.iload_n 2, 1) := by decide +kernel
theorem dX3_deepest_5 : decode cX3_deepest 5 = .ok (.aload_n 0, 1) := by decide +kernel
theorem dX3_deepest_6 : decode cX3_deepest 6 = .ok (.getfield 44, 3) := by decide +kernel
theorem dX3_deepest_9 : decode cX3_deepest 9 = .ok (.if_icmp .ge 54, 3) := by decide +kernel
theorem dX3_deepest_12 : decode cX3_deepest 12 = .ok (.iconst 0, 1) := by decide +kernel
theorem dX3_deepest_13 : decode cX3_deepest 13 = .ok (.istore_n 3, 1) := by decide +kernel
theorem dX3_deepest_14 : decode cX3_deepest 14 = .ok (.aload_n 0, 1) := by decide +kernel
theorem dX3_deepest_15 : decode cX3_deepest 15 = .ok (.getfield 7, 3) := by decide +kernel
theorem dX3_deepest_18 : decode cX3_deepest 18 = .ok (.iload_n 2, 1) := by decide +kernel
theorem dX3_deepest_19 : decode cX3_deepest 19 = .ok (.iaload, 1) := by decide +kernel
theorem dX3_deepest_20 : decode cX3_deepest 20 = .ok (.istore 4, 2) := by decide +kernel
theorem dX3_deepest_22 : decode cX3_deepest 22 = .ok (.iload 4, 2) := by decide +kernel
theorem dX3_deepest_24 : decode cX3_deepest 24 = .ok (.ifCond .eq 22, 3) := by decide +kernel
theorem dX3_deepest_27 : decode cX3_deepest 27 = .ok (.iinc 3 1, 3) := by decide +kernel
theorem dX3_deepest_30 : decode cX3_deepest 30 = .ok (.aload_n 0, 1) := by decide +kernel
theorem dX3_deepest_31 : decode cX3_deepest 31 = .ok (.getfield 13, 3) := by decide +kernel
theorem dX3_deepest_34 : decode cX3_deepest 34 = .ok (.aload_n 0, 1) := by decide +kernel
theorem dX3_deepest_35 : decode cX3_deepest 35 = .ok (.iload 4, 2) := by decide +kernel
theorem dX3_deepest_37 : decode cX3_deepest 37 = .ok (.invokevirtual 48, 3) := by decide +kernel
theorem dX3_deepest_40 : decode cX3_deepest 40 = .ok (.iaload, 1) := by decide +kernel
theorem dX3_deepest_41 : decode cX3_deepest 41 = .ok (.istore 4, 2) := by decide +kernel
theorem dX3_deepest_43 : decode cX3_deepest 43 = .ok (.goto (-21), 3) := by decide +kernel
theorem dX3_deepest_46 : decode cX3_deepest 46 = .ok (.iload_n 3, 1) := by decide +kernel
theorem dX3_deepest_47 : decode cX3_deepest 47 = .ok (.iload_n 1, 1) := by decide +kernel
theorem dX3_deepest_48 : decode cX3_deepest 48 = .ok (.if_icmp .le 7, 3) := by decide +kernel
theorem dX3_deepest_51 : decode cX3_deepest 51 = .ok (.iload_n 3, 1) := by decide +kernel
theorem dX3_deepest_52 : decode cX3_deepest 52 = .ok (.goto 4, 3) := by decide +kernel
theorem dX3_deepest_55 : decode cX3_deepest 55 = .ok (.iload_n 1, 1) := by decide +kernel
theorem dX3_deepest_56 : decode cX3_deepest 56 = .ok (.istore_n 1, 1) := by decide +kernel
theorem dX3_deepest_57 : decode cX3_deepest 57 = .ok (.iinc 2 1, 3) := by decide +kernel
theorem dX3_deepest_60 : decode cX3_deepest 60 = .ok (.goto (-56), 3) := by decide +kernel
theorem dX3_deepest_63 : decode cX3_deepest 63 = .ok (.iload_n 1, 1) := by decide +kernel
theorem dX3_deepest_64 : decode cX3_deepest 64 = .ok (.ireturn, 1) := by decide +kernel
theorem dX3_greatest_0 : decode cX3_greatest 0 = .ok (.iconst (-1), 1) := by decide +kernel
theorem dX3_greatest_1 : decode cX3_greatest 1 = .ok (.istore_n 1, 1) := by decide +kernel
theorem dX3_greatest_2 : decode cX3_greatest 2 = .ok (.iconst 0, 1) := by decide +kernel
theorem dX3_greatest_3 : decode cX3_greatest 3 = .ok (.istore_n 2, 1) := by decide +kernel
theorem dX3_greatest_4 : decode cX3_greatest 4 = .ok (.iload_n 2, 1) := by decide +kernel
theorem dX3_greatest_5 : decode cX3_greatest 5 = .ok (.aload_n 0, 1) := by decide +kernel
theorem dX3_greatest_6 : decode cX3_greatest 6 = .ok (.getfield 44, 3) := by decide +kernel
theorem dX3_greatest_9 : decode cX3_greatest 9 = .ok (.if_icmp .ge 30, 3) := by decide +kernel
theorem dX3_greatest_12 : decode cX3_greatest 12 = .ok (.aload_n 0, 1) := by decide +kernel
theorem dX3_greatest_13 : decode cX3_greatest 13 = .ok (.getfield 7, 3) := by decide +kernel
theorem dX3_greatest_16 : decode cX3_greatest 16 = .ok (.iload_n 2, 1) := by decide +kernel
theorem dX3_greatest_17 : decode cX3_greatest 17 = .ok (.iaload, 1) := by decide +kernel
theorem dX3_greatest_18 : decode cX3_greatest 18 = .ok (.iload_n 1, 1) := by decide +kernel
theorem dX3_greatest_19 : decode cX3_greatest 19 = .ok (.if_icmp .le 12, 3) := by decide +kernel
theorem dX3_greatest_22 : decode cX3_greatest 22 = .ok (.aload_n 0, 1) := by decide +kernel
theorem dX3_greatest_23 : decode cX3_greatest 23 = .ok (.getfield 7, 3) := by decide +kernel
theorem dX3_greatest_26 : decode cX3_greatest 26 = .ok (.iload_n 2, 1) := by decide +kernel
theorem dX3_greatest_27 : decode cX3_greatest 27 = .ok (.iaload, 1) := by decide +kernel
theorem dX3_greatest_28 : decode cX3_greatest 28 = .ok (.goto 4, 3) := by decide +kernel
theorem dX3_greatest_31 : decode cX3_greatest 31 = .ok (.iload_n 1, 1) := by decide +kernel
theorem dX3_greatest_32 : decode cX3_greatest 32 = .ok (.istore_n 1, 1) := by decide +kernel
theorem dX3_greatest_33 : decode cX3_greatest 33 = .ok (.iinc 2 1, 3) := by decide +kernel
theorem dX3_greatest_36 : decode cX3_greatest 36 = .ok (.goto (-32), 3) := by decide +kernel
theorem dX3_greatest_39 : decode cX3_greatest 39 = .ok (.iconst 0, 1) := by decide +kernel
theorem dX3_greatest_40 : decode cX3_greatest 40 = .ok (.istore_n 2, 1) := by decide +kernel
theorem dX3_greatest_41 : decode cX3_greatest 41 = .ok (.iload_n 2, 1) := by decide +kernel
theorem dX3_greatest_42 : decode cX3_greatest 42 = .ok (.aload_n 0, 1) := by decide +kernel
theorem dX3_greatest_43 : decode cX3_greatest 43 = .ok (.getfield 52, 3) := by decide +kernel
theorem dX3_greatest_46 : decode cX3_greatest 46 = .ok (.if_icmp .ge 30, 3) := by decide +kernel
theorem dX3_greatest_49 : decode cX3_greatest 49 = .ok (.aload_n 0, 1) := by decide +kernel
theorem dX3_greatest_50 : decode cX3_greatest 50 = .ok (.getfield 22, 3) := by decide +kernel
theorem dX3_greatest_53 : decode cX3_greatest 53 = .ok (.iload_n 2, 1) := by decide +kernel
theorem dX3_greatest_54 : decode cX3_greatest 54 = .ok (.iaload, 1) := by decide +kernel
theorem dX3_greatest_55 : decode cX3_greatest 55 = .ok (.iload_n 1, 1) := by decide +kernel
theorem dX3_greatest_56 : decode cX3_greatest 56 = .ok (.if_icmp .le 12, 3) := by decide +kernel
theorem dX3_greatest_59 : decode cX3_greatest 59 = .ok (.aload_n 0, 1) := by decide +kernel
theorem dX3_greatest_60 : decode cX3_greatest 60 = .ok (.getfield 22, 3) := by decide +kernel
theorem dX3_greatest_63 : decode cX3_greatest 63 = .ok (.iload_n 2, 1) := by decide +kernel
theorem dX3_greatest_64 : decode cX3_greatest 64 = .ok (.iaload, 1) := by decide +kernel
theorem dX3_greatest_65 : decode cX3_greatest 65 = .ok (.goto 4, 3) := by decide +kernel
theorem dX3_greatest_68 : decode cX3_greatest 68 = .ok (.iload_n 1, 1) := by decide +kernel
theorem dX3_greatest_69 : decode cX3_greatest 69 = .ok (.istore_n 1, 1) := by decide +kernel
theorem dX3_greatest_70 : decode cX3_greatest 70 = .ok (.iinc 2 1, 3) := by decide +kernel
theorem dX3_greatest_73 : decode cX3_greatest 73 = .ok (.goto (-32), 3) := by decide +kernel
theorem dX3_greatest_76 : decode cX3_greatest 76 = .ok (.iload_n 1, 1) := by decide +kernel
theorem dX3_greatest_77 : decode cX3_greatest 77 = .ok (.ireturn, 1) := by decide +kernel
theorem dX3_look_0 : decode cX3_look 0 = .ok (.aload_n 0, 1) := by decide +kernel
theorem dX3_look_1 : decode cX3_look 1 = .ok (.iconst 0, 1) := by decide +kernel
theorem dX3_look_2 : decode cX3_look 2 = .ok (.putfield 40, 3) := by decide +kernel
theorem dX3_look_5 : decode cX3_look 5 = .ok (.iload_n 1, 1) := by decide +kernel
theorem dX3_look_6 : decode cX3_look 6 = .ok (.ifCond .ne 10, 3) := by decide +kernel
theorem dX3_look_9 : decode cX3_look 9 = .ok (.aload_n 0, 1) := by decide +kernel
theorem dX3_look_10 : decode cX3_look 10 = .ok (.getfield 44, 3) := by decide +kernel
theorem dX3_look_13 : decode cX3_look 13 = .ok (.goto 52, 3) := by decide +kernel
theorem dX3_look_16 : decode cX3_look 16 = .ok (.iload_n 1, 1) := by decide +kernel
theorem dX3_look_17 : decode cX3_look 17 = .ok (.iconst 1, 1) := by decide +kernel
theorem dX3_look_18 : decode cX3_look 18 = .ok (.if_icmp .ne 10, 3) := by decide +kernel
theorem dX3_look_21 : decode cX3_look 21 = .ok (.aload_n 0, 1) := by decide +kernel
theorem dX3_look_22 : decode cX3_look 22 = .ok (.invokevirtual 89, 3) := by decide +kernel
theorem dX3_look_25 : decode cX3_look 25 = .ok (.goto 40, 3) := by decide +kernel
theorem dX3_look_28 : decode cX3_look 28 = .ok (.iload_n 1, 1) := by decide +kernel
theorem dX3_look_29 : decode cX3_look 29 = .ok (.iconst 2, 1) := by decide +kernel
theorem dX3_look_30 : decode cX3_look 30 = .ok (.if_icmp .ne 10, 3) := by decide +kernel
theorem dX3_look_33 : decode cX3_look 33 = .ok (.aload_n 0, 1) := by decide +kernel
theorem dX3_look_34 : decode cX3_look 34 = .ok (.getfield 52, 3) := by decide +kernel
theorem dX3_look_37 : decode cX3_look 37 = .ok (.goto 28, 3) := by decide +kernel
theorem dX3_look_40 : decode cX3_look 40 = .ok (.iload_n 1, 1) := by decide +kernel
theorem dX3_look_41 : decode cX3_look 41 = .ok (.iconst 3, 1) := by decide +kernel
theorem dX3_look_42 : decode cX3_look 42 = .ok (.if_icmp .ne 10, 3) := by decide +kernel
theorem dX3_look_45 : decode cX3_look 45 = .ok (.aload_n 0, 1) := by decide +kernel
theorem dX3_look_46 : decode cX3_look 46 = .ok (.invokevirtual 114, 3) := by decide +kernel
theorem dX3_look_49 : decode cX3_look 49 = .ok (.goto 16, 3) := by decide +kernel
theorem dX3_look_52 : decode cX3_look 52 = .ok (.iload_n 1, 1) := by decide +kernel
theorem dX3_look_53 : decode cX3_look 53 = .ok (.iconst 4, 1) := by decide +kernel
theorem dX3_look_54 : decode cX3_look 54 = .ok (.if_icmp .ne 10, 3) := by decide +kernel
theorem dX3_look_57 : decode cX3_look 57 = .ok (.aload_n 0, 1) := by decide +kernel
theorem dX3_look_58 : decode cX3_look 58 = .ok (.invokevirtual 117, 3) := by decide +kernel
theorem dX3_look_61 : decode cX3_look 61 = .ok (.goto 4, 3) := by decide +kernel
theorem dX3_look_64 : decode cX3_look 64 = .ok (.iconst (-1), 1) := by decide +kernel
theorem dX3_look_65 : decode cX3_look 65 = .ok (.ireturn, 1) := by decide +kernel
end
section
theorem dL_at_0 : decode cL_at 0 = .ok (.aload_n 3, 1) := by decide +kernel
theorem dL_at_1 : decode cL_at 1 = .ok (.iconst 0, 1) := by decide +kernel
theorem dL_at_2 : decode cL_at 2 = .ok (.aload_n 0, 1) := by decide +kernel
theorem dL_at_3 : decode cL_at 3 = .ok (.iload_n 1, 1) := by decide +kernel
theorem dL_at_4 : decode cL_at 4 = .ok (.iload_n 2, 1) := by decide +kernel
theorem dL_at_5 : decode cL_at 5 = .ok (.invokevirtual 7, 3) := by decide +kernel
theorem dL_at_8 : decode cL_at 8 = .ok (.i2l, 1) := by decide +kernel
theorem dL_at_9 : decode cL_at 9 = .ok (.lastore, 1) := by decide +kernel
theorem dL_at_10 : decode cL_at 10 = .ok (.goto 7, 3) := by decide +kernel
theorem dL_at_13 : decode cL_at 13 = .ok (.astore 4, 2) := by decide +kernel
theorem dL_at_15 : decode cL_at 15 = .ok (.iconst 1, 1) := by decide +kernel
theorem dL_at_16 : decode cL_at 16 = .ok (.ireturn, 1) := by decide +kernel
theorem dL_at_17 : decode cL_at 17 = .ok (.iconst 0, 1) := by decide +kernel
theorem dL_at_18 : decode cL_at 18 = .ok (.ireturn, 1) := by decide +kernel
theorem dL_ahead_0 : decode cL_ahead 0 = .ok (.aload_n 2, 1) := by decide +kernel
theorem dL_ahead_1 : decode cL_ahead 1 = .ok (.iconst 0, 1) := by decide +kernel
theorem dL_ahead_2 : decode cL_ahead 2 = .ok (.aload_n 0, 1) := by decide +kernel
theorem dL_ahead_3 : decode cL_ahead 3 = .ok (.iload_n 1, 1) := by decide +kernel
theorem dL_ahead_4 : decode cL_ahead 4 = .ok (.invokevirtual 15, 3) := by decide +kernel
theorem dL_ahead_7 : decode cL_ahead 7 = .ok (.i2l, 1) := by decide +kernel
theorem dL_ahead_8 : decode cL_ahead 8 = .ok (.lastore, 1) := by decide +kernel
theorem dL_ahead_9 : decode cL_ahead 9 = .ok (.goto 6, 3) := by decide +kernel
theorem dL_ahead_12 : decode cL_ahead 12 = .ok (.astore_n 3, 1) := by decide +kernel
theorem dL_ahead_13 : decode cL_ahead 13 = .ok (.iconst 1, 1) := by decide +kernel
theorem dL_ahead_14 : decode cL_ahead 14 = .ok (.ireturn, 1) := by decide +kernel
theorem dL_ahead_15 : decode cL_ahead 15 = .ok (.iconst 0, 1) := by decide +kernel
theorem dL_ahead_16 : decode cL_ahead 16 = .ok (.ireturn, 1) := by decide +kernel
theorem dL_before_0 : decode cL_before 0 = .ok (.aload_n 3, 1) := by decide +kernel
theorem dL_before_1 : decode cL_before 1 = .ok (.iconst 0, 1) := by decide +kernel
theorem dL_before_2 : decode cL_before 2 = .ok (.aload_n 0, 1) := by decide +kernel
theorem dL_before_3 : decode cL_before 3 = .ok (.iload_n 1, 1) := by decide +kernel
theorem dL_before_4 : decode cL_before 4 = .ok (.iload_n 2, 1) := by decide +kernel
theorem dL_before_5 : decode cL_before 5 = .ok (.invokevirtual 21, 3) := by decide +kernel
theorem dL_before_8 : decode cL_before 8 = .ok (.ifCond .eq 7, 3) := by decide +kernel
theorem dL_before_11 : decode cL_before 11 = .ok (.lconst 1, 1) := by decide +kernel
theorem dL_before_12 : decode cL_before 12 = .ok (.goto 4, 3) := by decide +kernel
theorem dL_before_15 : decode cL_before 15 = .ok (.lconst 0, 1) := by decide +kernel
theorem dL_before_16 : decode cL_before 16 = .ok (.lastore, 1) := by decide +kernel
theorem dL_before_17 : decode cL_before 17 = .ok (.goto 7, 3) := by decide +kernel
theorem dL_before_20 : decode cL_before 20 = .ok (.astore 4, 2) := by decide +kernel
theorem dL_before_22 : decode cL_before 22 = .ok (.iconst 1, 1) := by decide +kernel
theorem dL_before_23 : decode cL_before 23 = .ok (.ireturn, 1) := by decide +kernel
theorem dL_before_24 : decode cL_before 24 = .ok (.iconst 0, 1) := by decide +kernel
theorem dL_before_25 : decode cL_before 25 = .ok (.ireturn, 1) := by decide +kernel
theorem dL_row_0 : decode cL_row 0 = .ok (.aload_n 2, 1) := by decide +kernel
theorem dL_row_1 : decode cL_row 1 = .ok (.iconst 0, 1) := by decide +kernel
theorem dL_row_2 : decode cL_row 2 = .ok (.aload_n 0, 1) := by decide +kernel
theorem dL_row_3 : decode cL_row 3 = .ok (.iload_n 1, 1) := by decide +kernel
theorem dL_row_4 : decode cL_row 4 = .ok (.invokevirtual 25, 3) := by decide +kernel
theorem dL_row_7 : decode cL_row 7 = .ok (.i2l, 1) := by decide +kernel
theorem dL_row_8 : decode cL_row 8 = .ok (.lastore, 1) := by decide +kernel
theorem dL_row_9 : decode cL_row 9 = .ok (.goto 6, 3) := by decide +kernel
theorem dL_row_12 : decode cL_row 12 = .ok (.astore_n 3, 1) := by decide +kernel
theorem dL_row_13 : decode cL_row 13 = .ok (.iconst 1, 1) := by decide +kernel
theorem dL_row_14 : decode cL_row 14 = .ok (.ireturn, 1) := by decide +kernel
theorem dL_row_15 : decode cL_row 15 = .ok (.iconst 0, 1) := by decide +kernel
theorem dL_row_16 : decode cL_row 16 = .ok (.ireturn, 1) := by decide +kernel
theorem dL_of_0 : decode cL_of 0 = .ok (.aload_n 3, 1) := by decide +kernel
theorem dL_of_1 : decode cL_of 1 = .ok (.iconst 0, 1) := by decide +kernel
theorem dL_of_2 : decode cL_of 2 = .ok (.aload_n 0, 1) := by decide +kernel
theorem dL_of_3 : decode cL_of 3 = .ok (.iload_n 1, 1) := by decide +kernel
theorem dL_of_4 : decode cL_of 4 = .ok (.iload_n 2, 1) := by decide +kernel
theorem dL_of_5 : decode cL_of 5 = .ok (.invokevirtual 28, 3) := by decide +kernel
theorem dL_of_8 : decode cL_of 8 = .ok (.i2l, 1) := by decide +kernel
theorem dL_of_9 : decode cL_of 9 = .ok (.lastore, 1) := by decide +kernel
theorem dL_of_10 : decode cL_of 10 = .ok (.goto 7, 3) := by decide +kernel
theorem dL_of_13 : decode cL_of 13 = .ok (.astore 4, 2) := by decide +kernel
theorem dL_of_15 : decode cL_of 15 = .ok (.iconst 1, 1) := by decide +kernel
theorem dL_of_16 : decode cL_of 16 = .ok (.ireturn, 1) := by decide +kernel
theorem dL_of_17 : decode cL_of 17 = .ok (.iconst 0, 1) := by decide +kernel
theorem dL_of_18 : decode cL_of 18 = .ok (.ireturn, 1) := by decide +kernel
theorem dL_law_0 : decode cL_law 0 = .ok (.new 8, 3) := by decide +kernel
theorem dL_law_3 : decode cL_law 3 = .ok (.dup, 1) := by decide +kernel
theorem dL_law_4 : decode cL_law 4 = .ok (.invokespecial 31, 3) := by decide +kernel
theorem dL_law_7 : decode cL_law 7 = .ok (.astore_n 1, 1) := by decide +kernel
theorem dL_law_8 : decode cL_law 8 = .ok (.new 32, 3) := by decide +kernel
theorem dL_law_11 : decode cL_law 11 = .ok (.dup, 1) := by decide +kernel
theorem dL_law_12 : decode cL_law 12 = .ok (.invokespecial 34, 3) := by decide +kernel
theorem dL_law_15 : decode cL_law 15 = .ok (.astore_n 2, 1) := by decide +kernel
theorem dL_law_16 : decode cL_law 16 = .ok (.iconst 1, 1) := by decide +kernel
theorem dL_law_17 : decode cL_law 17 = .ok (.newarray .long, 2) := by decide +kernel
theorem dL_law_19 : decode cL_law 19 = .ok (.astore_n 3, 1) := by decide +kernel
theorem dL_law_20 : decode cL_law 20 = .ok (.iconst 0, 1) := by decide +kernel
theorem dL_law_21 : decode cL_law 21 = .ok (.istore 4, 2) := by decide +kernel
theorem dL_law_23 : decode cL_law 23 = .ok (.iload 4, 2) := by decide +kernel
theorem dL_law_25 : decode cL_law 25 = .ok (.aload_n 0, 1) := by decide +kernel
theorem dL_law_26 : decode cL_law 26 = .ok (.arraylength, 1) := by decide +kernel
theorem dL_law_27 : decode cL_law 27 = .ok (.bipush 6, 2) := by decide +kernel
theorem dL_law_29 : decode cL_law 29 = .ok (.isub, 1) := by decide +kernel
theorem dL_law_30 : decode cL_law 30 = .ok (.if_icmp .gt 775, 3) := by decide +kernel
theorem dL_law_33 : decode cL_law 33 = .ok (.aload_n 0, 1) := by decide +kernel
theorem dL_law_34 : decode cL_law 34 = .ok (.iload 4, 2) := by decide +kernel
theorem dL_law_36 : decode cL_law 36 = .ok (.iaload, 1) := by decide +kernel
theorem dL_law_37 : decode cL_law 37 = .ok (.bipush 15, 2) := by decide +kernel
theorem dL_law_39 : decode cL_law 39 = .ok (.iand, 1) := by decide +kernel
theorem dL_law_40 : decode cL_law 40 = .ok (.tableswitch 759 0 13 #[72, 83, 144, 237, 298, 335, 348, 416, 441, 497, 572, 628, 696, 734], 72) := by decide +kernel
theorem dL_law_112 : decode cL_law 112 = .ok (.aload_n 1, 1) := by decide +kernel
theorem dL_law_113 : decode cL_law 113 = .ok (.invokevirtual 35, 3) := by decide +kernel
theorem dL_law_116 : decode cL_law 116 = .ok (.aload_n 2, 1) := by decide +kernel
theorem dL_law_117 : decode cL_law 117 = .ok (.invokevirtual 38, 3) := by decide +kernel
theorem dL_law_120 : decode cL_law 120 = .ok (.goto 679, 3) := by decide +kernel
theorem dL_law_123 : decode cL_law 123 = .ok (.aload_n 1, 1) := by decide +kernel
theorem dL_law_124 : decode cL_law 124 = .ok (.aload_n 0, 1) := by decide +kernel
theorem dL_law_125 : decode cL_law 125 = .ok (.iload 4, 2) := by decide +kernel
theorem dL_law_127 : decode cL_law 127 = .ok (.iconst 1, 1) := by decide +kernel
theorem dL_law_128 : decode cL_law 128 = .ok (.iadd, 1) := by decide +kernel
theorem dL_law_129 : decode cL_law 129 = .ok (.iaload, 1) := by decide +kernel
theorem dL_law_130 : decode cL_law 130 = .ok (.aload_n 0, 1) := by decide +kernel
theorem dL_law_131 : decode cL_law 131 = .ok (.iload 4, 2) := by decide +kernel
theorem dL_law_133 : decode cL_law 133 = .ok (.iconst 2, 1) := by decide +kernel
theorem dL_law_134 : decode cL_law 134 = .ok (.iadd, 1) := by decide +kernel
theorem dL_law_135 : decode cL_law 135 = .ok (.iaload, 1) := by decide +kernel
theorem dL_law_136 : decode cL_law 136 = .ok (.aload_n 0, 1) := by decide +kernel
theorem dL_law_137 : decode cL_law 137 = .ok (.iload 4, 2) := by decide +kernel
theorem dL_law_139 : decode cL_law 139 = .ok (.iconst 3, 1) := by decide +kernel
theorem dL_law_140 : decode cL_law 140 = .ok (.iadd, 1) := by decide +kernel
theorem dL_law_141 : decode cL_law 141 = .ok (.iaload, 1) := by decide +kernel
theorem dL_law_142 : decode cL_law 142 = .ok (.aload_n 0, 1) := by decide +kernel
theorem dL_law_143 : decode cL_law 143 = .ok (.iload 4, 2) := by decide +kernel
theorem dL_law_145 : decode cL_law 145 = .ok (.iconst 4, 1) := by decide +kernel
theorem dL_law_146 : decode cL_law 146 = .ok (.iadd, 1) := by decide +kernel
theorem dL_law_147 : decode cL_law 147 = .ok (.iaload, 1) := by decide +kernel
theorem dL_law_148 : decode cL_law 148 = .ok (.invokevirtual 39, 3) := by decide +kernel
theorem dL_law_151 : decode cL_law 151 = .ok (.aload_n 2, 1) := by decide +kernel
theorem dL_law_152 : decode cL_law 152 = .ok (.aload_n 0, 1) := by decide +kernel
theorem dL_law_153 : decode cL_law 153 = .ok (.iload 4, 2) := by decide +kernel
theorem dL_law_155 : decode cL_law 155 = .ok (.iconst 1, 1) := by decide +kernel
theorem dL_law_156 : decode cL_law 156 = .ok (.iadd, 1) := by decide +kernel
theorem dL_law_157 : decode cL_law 157 = .ok (.iaload, 1) := by decide +kernel
theorem dL_law_158 : decode cL_law 158 = .ok (.aload_n 0, 1) := by decide +kernel
theorem dL_law_159 : decode cL_law 159 = .ok (.iload 4, 2) := by decide +kernel
theorem dL_law_161 : decode cL_law 161 = .ok (.iconst 2, 1) := by decide +kernel
theorem dL_law_162 : decode cL_law 162 = .ok (.iadd, 1) := by decide +kernel
theorem dL_law_163 : decode cL_law 163 = .ok (.iaload, 1) := by decide +kernel
theorem dL_law_164 : decode cL_law 164 = .ok (.aload_n 0, 1) := by decide +kernel
theorem dL_law_165 : decode cL_law 165 = .ok (.iload 4, 2) := by decide +kernel
theorem dL_law_167 : decode cL_law 167 = .ok (.iconst 3, 1) := by decide +kernel
theorem dL_law_168 : decode cL_law 168 = .ok (.iadd, 1) := by decide +kernel
theorem dL_law_169 : decode cL_law 169 = .ok (.iaload, 1) := by decide +kernel
theorem dL_law_170 : decode cL_law 170 = .ok (.aload_n 0, 1) := by decide +kernel
theorem dL_law_171 : decode cL_law 171 = .ok (.iload 4, 2) := by decide +kernel
theorem dL_law_173 : decode cL_law 173 = .ok (.iconst 4, 1) := by decide +kernel
theorem dL_law_174 : decode cL_law 174 = .ok (.iadd, 1) := by decide +kernel
theorem dL_law_175 : decode cL_law 175 = .ok (.iaload, 1) := by decide +kernel
theorem dL_law_176 : decode cL_law 176 = .ok (.invokevirtual 43, 3) := by decide +kernel
theorem dL_law_179 : decode cL_law 179 = .ok (.if_icmp .eq 620, 3) := by decide +kernel
theorem dL_law_182 : decode cL_law 182 = .ok (.iconst 0, 1) := by decide +kernel
theorem dL_law_183 : decode cL_law 183 = .ok (.ireturn, 1) := by decide +kernel
theorem dL_law_184 : decode cL_law 184 = .ok (.aload_n 1, 1) := by decide +kernel
theorem dL_law_185 : decode cL_law 185 = .ok (.aload_n 0, 1) := by decide +kernel
theorem dL_law_186 : decode cL_law 186 = .ok (.iload 4, 2) := by decide +kernel
theorem dL_law_188 : decode cL_law 188 = .ok (.iconst 1, 1) := by decide +kernel
theorem dL_law_189 : decode cL_law 189 = .ok (.iadd, 1) := by decide +kernel
theorem dL_law_190 : decode cL_law 190 = .ok (.iaload, 1) := by decide +kernel
theorem dL_law_191 : decode cL_law 191 = .ok (.aload_n 0, 1) := by decide +kernel
theorem dL_law_192 : decode cL_law 192 = .ok (.iload 4, 2) := by decide +kernel
theorem dL_law_194 : decode cL_law 194 = .ok (.iconst 2, 1) := by decide +kernel
theorem dL_law_195 : decode cL_law 195 = .ok (.iadd, 1) := by decide +kernel
theorem dL_law_196 : decode cL_law 196 = .ok (.iaload, 1) := by decide +kernel
theorem dL_law_197 : decode cL_law 197 = .ok (.aload_n 0, 1) := by decide +kernel
theorem dL_law_198 : decode cL_law 198 = .ok (.iload 4, 2) := by decide +kernel
theorem dL_law_200 : decode cL_law 200 = .ok (.iconst 3, 1) := by decide +kernel
theorem dL_law_201 : decode cL_law 201 = .ok (.iadd, 1) := by decide +kernel
theorem dL_law_202 : decode cL_law 202 = .ok (.iaload, 1) := by decide +kernel
theorem dL_law_203 : decode cL_law 203 = .ok (.aload_n 0, 1) := by decide +kernel
theorem dL_law_204 : decode cL_law 204 = .ok (.iload 4, 2) := by decide +kernel
theorem dL_law_206 : decode cL_law 206 = .ok (.iconst 4, 1) := by decide +kernel
theorem dL_law_207 : decode cL_law 207 = .ok (.iadd, 1) := by decide +kernel
theorem dL_law_208 : decode cL_law 208 = .ok (.iaload, 1) := by decide +kernel
theorem dL_law_209 : decode cL_law 209 = .ok (.i2l, 1) := by decide +kernel
theorem dL_law_210 : decode cL_law 210 = .ok (.bipush 32, 2) := by decide +kernel
theorem dL_law_212 : decode cL_law 212 = .ok (.lshl, 1) := by decide +kernel
theorem dL_law_213 : decode cL_law 213 = .ok (.aload_n 0, 1) := by decide +kernel
theorem dL_law_214 : decode cL_law 214 = .ok (.iload 4, 2) := by decide +kernel
theorem dL_law_216 : decode cL_law 216 = .ok (.iconst 5, 1) := by decide +kernel
theorem dL_law_217 : decode cL_law 217 = .ok (.iadd, 1) := by decide +kernel
theorem dL_law_218 : decode cL_law 218 = .ok (.iaload, 1) := by decide +kernel
theorem dL_law_219 : decode cL_law 219 = .ok (.i2l, 1) := by decide +kernel
theorem dL_law_220 : decode cL_law 220 = .ok (.ldc2_w 44, 3) := by decide +kernel
theorem dL_law_223 : decode cL_law 223 = .ok (.land, 1) := by decide +kernel
theorem dL_law_224 : decode cL_law 224 = .ok (.lor, 1) := by decide +kernel
theorem dL_law_225 : decode cL_law 225 = .ok (.invokevirtual 46, 3) := by decide +kernel
theorem dL_law_228 : decode cL_law 228 = .ok (.aload_n 2, 1) := by decide +kernel
theorem dL_law_229 : decode cL_law 229 = .ok (.aload_n 0, 1) := by decide +kernel
theorem dL_law_230 : decode cL_law 230 = .ok (.iload 4, 2) := by decide +kernel
theorem dL_law_232 : decode cL_law 232 = .ok (.iconst 1, 1) := by decide +kernel
theorem dL_law_233 : decode cL_law 233 = .ok (.iadd, 1) := by decide +kernel
theorem dL_law_234 : decode cL_law 234 = .ok (.iaload, 1) := by decide +kernel
theorem dL_law_235 : decode cL_law 235 = .ok (.aload_n 0, 1) := by decide +kernel
theorem dL_law_236 : decode cL_law 236 = .ok (.iload 4, 2) := by decide +kernel
theorem dL_law_238 : decode cL_law 238 = .ok (.iconst 2, 1) := by decide +kernel
theorem dL_law_239 : decode cL_law 239 = .ok (.iadd, 1) := by decide +kernel
theorem dL_law_240 : decode cL_law 240 = .ok (.iaload, 1) := by decide +kernel
theorem dL_law_241 : decode cL_law 241 = .ok (.aload_n 0, 1) := by decide +kernel
theorem dL_law_242 : decode cL_law 242 = .ok (.iload 4, 2) := by decide +kernel
theorem dL_law_244 : decode cL_law 244 = .ok (.iconst 3, 1) := by decide +kernel
theorem dL_law_245 : decode cL_law 245 = .ok (.iadd, 1) := by decide +kernel
theorem dL_law_246 : decode cL_law 246 = .ok (.iaload, 1) := by decide +kernel
theorem dL_law_247 : decode cL_law 247 = .ok (.aload_n 0, 1) := by decide +kernel
theorem dL_law_248 : decode cL_law 248 = .ok (.iload 4, 2) := by decide +kernel
theorem dL_law_250 : decode cL_law 250 = .ok (.iconst 4, 1) := by decide +kernel
theorem dL_law_251 : decode cL_law 251 = .ok (.iadd, 1) := by decide +kernel
theorem dL_law_252 : decode cL_law 252 = .ok (.iaload, 1) := by decide +kernel
theorem dL_law_253 : decode cL_law 253 = .ok (.i2l, 1) := by decide +kernel
theorem dL_law_254 : decode cL_law 254 = .ok (.bipush 32, 2) := by decide +kernel
theorem dL_law_256 : decode cL_law 256 = .ok (.lshl, 1) := by decide +kernel
theorem dL_law_257 : decode cL_law 257 = .ok (.aload_n 0, 1) := by decide +kernel
theorem dL_law_258 : decode cL_law 258 = .ok (.iload 4, 2) := by decide +kernel
theorem dL_law_260 : decode cL_law 260 = .ok (.iconst 5, 1) := by decide +kernel
theorem dL_law_261 : decode cL_law 261 = .ok (.iadd, 1) := by decide +kernel
theorem dL_law_262 : decode cL_law 262 = .ok (.iaload, 1) := by decide +kernel
theorem dL_law_263 : decode cL_law 263 = .ok (.i2l, 1) := by decide +kernel
theorem dL_law_264 : decode cL_law 264 = .ok (.ldc2_w 44, 3) := by decide +kernel
theorem dL_law_267 : decode cL_law 267 = .ok (.land, 1) := by decide +kernel
theorem dL_law_268 : decode cL_law 268 = .ok (.lor, 1) := by decide +kernel
theorem dL_law_269 : decode cL_law 269 = .ok (.invokevirtual 50, 3) := by decide +kernel
theorem dL_law_272 : decode cL_law 272 = .ok (.if_icmp .eq 527, 3) := by decide +kernel
theorem dL_law_275 : decode cL_law 275 = .ok (.iconst 0, 1) := by decide +kernel
theorem dL_law_276 : decode cL_law 276 = .ok (.ireturn, 1) := by decide +kernel
theorem dL_law_277 : decode cL_law 277 = .ok (.aload_n 1, 1) := by decide +kernel
theorem dL_law_278 : decode cL_law 278 = .ok (.aload_n 0, 1) := by decide +kernel
theorem dL_law_279 : decode cL_law 279 = .ok (.iload 4, 2) := by decide +kernel
theorem dL_law_281 : decode cL_law 281 = .ok (.iconst 1, 1) := by decide +kernel
theorem dL_law_282 : decode cL_law 282 = .ok (.iadd, 1) := by decide +kernel
theorem dL_law_283 : decode cL_law 283 = .ok (.iaload, 1) := by decide +kernel
theorem dL_law_284 : decode cL_law 284 = .ok (.aload_n 0, 1) := by decide +kernel
theorem dL_law_285 : decode cL_law 285 = .ok (.iload 4, 2) := by decide +kernel
theorem dL_law_287 : decode cL_law 287 = .ok (.iconst 2, 1) := by decide +kernel
theorem dL_law_288 : decode cL_law 288 = .ok (.iadd, 1) := by decide +kernel
theorem dL_law_289 : decode cL_law 289 = .ok (.iaload, 1) := by decide +kernel
theorem dL_law_290 : decode cL_law 290 = .ok (.aload_n 0, 1) := by decide +kernel
theorem dL_law_291 : decode cL_law 291 = .ok (.iload 4, 2) := by decide +kernel
theorem dL_law_293 : decode cL_law 293 = .ok (.iconst 3, 1) := by decide +kernel
theorem dL_law_294 : decode cL_law 294 = .ok (.iadd, 1) := by decide +kernel
theorem dL_law_295 : decode cL_law 295 = .ok (.iaload, 1) := by decide +kernel
theorem dL_law_296 : decode cL_law 296 = .ok (.aload_n 0, 1) := by decide +kernel
theorem dL_law_297 : decode cL_law 297 = .ok (.iload 4, 2) := by decide +kernel
theorem dL_law_299 : decode cL_law 299 = .ok (.iconst 4, 1) := by decide +kernel
theorem dL_law_300 : decode cL_law 300 = .ok (.iadd, 1) := by decide +kernel
theorem dL_law_301 : decode cL_law 301 = .ok (.iaload, 1) := by decide +kernel
theorem dL_law_302 : decode cL_law 302 = .ok (.invokevirtual 51, 3) := by decide +kernel
theorem dL_law_305 : decode cL_law 305 = .ok (.aload_n 2, 1) := by decide +kernel
theorem dL_law_306 : decode cL_law 306 = .ok (.aload_n 0, 1) := by decide +kernel
theorem dL_law_307 : decode cL_law 307 = .ok (.iload 4, 2) := by decide +kernel
theorem dL_law_309 : decode cL_law 309 = .ok (.iconst 1, 1) := by decide +kernel
theorem dL_law_310 : decode cL_law 310 = .ok (.iadd, 1) := by decide +kernel
theorem dL_law_311 : decode cL_law 311 = .ok (.iaload, 1) := by decide +kernel
theorem dL_law_312 : decode cL_law 312 = .ok (.aload_n 0, 1) := by decide +kernel
theorem dL_law_313 : decode cL_law 313 = .ok (.iload 4, 2) := by decide +kernel
theorem dL_law_315 : decode cL_law 315 = .ok (.iconst 2, 1) := by decide +kernel
theorem dL_law_316 : decode cL_law 316 = .ok (.iadd, 1) := by decide +kernel
theorem dL_law_317 : decode cL_law 317 = .ok (.iaload, 1) := by decide +kernel
theorem dL_law_318 : decode cL_law 318 = .ok (.aload_n 0, 1) := by decide +kernel
theorem dL_law_319 : decode cL_law 319 = .ok (.iload 4, 2) := by decide +kernel
theorem dL_law_321 : decode cL_law 321 = .ok (.iconst 3, 1) := by decide +kernel
theorem dL_law_322 : decode cL_law 322 = .ok (.iadd, 1) := by decide +kernel
theorem dL_law_323 : decode cL_law 323 = .ok (.iaload, 1) := by decide +kernel
theorem dL_law_324 : decode cL_law 324 = .ok (.aload_n 0, 1) := by decide +kernel
theorem dL_law_325 : decode cL_law 325 = .ok (.iload 4, 2) := by decide +kernel
theorem dL_law_327 : decode cL_law 327 = .ok (.iconst 4, 1) := by decide +kernel
theorem dL_law_328 : decode cL_law 328 = .ok (.iadd, 1) := by decide +kernel
theorem dL_law_329 : decode cL_law 329 = .ok (.iaload, 1) := by decide +kernel
theorem dL_law_330 : decode cL_law 330 = .ok (.invokevirtual 54, 3) := by decide +kernel
theorem dL_law_333 : decode cL_law 333 = .ok (.if_icmp .eq 466, 3) := by decide +kernel
theorem dL_law_336 : decode cL_law 336 = .ok (.iconst 0, 1) := by decide +kernel
theorem dL_law_337 : decode cL_law 337 = .ok (.ireturn, 1) := by decide +kernel
theorem dL_law_338 : decode cL_law 338 = .ok (.aload_n 1, 1) := by decide +kernel
theorem dL_law_339 : decode cL_law 339 = .ok (.aload_n 0, 1) := by decide +kernel
theorem dL_law_340 : decode cL_law 340 = .ok (.iload 4, 2) := by decide +kernel
theorem dL_law_342 : decode cL_law 342 = .ok (.iconst 1, 1) := by decide +kernel
theorem dL_law_343 : decode cL_law 343 = .ok (.iadd, 1) := by decide +kernel
theorem dL_law_344 : decode cL_law 344 = .ok (.iaload, 1) := by decide +kernel
theorem dL_law_345 : decode cL_law 345 = .ok (.aload_n 0, 1) := by decide +kernel
theorem dL_law_346 : decode cL_law 346 = .ok (.iload 4, 2) := by decide +kernel
theorem dL_law_348 : decode cL_law 348 = .ok (.iconst 2, 1) := by decide +kernel
theorem dL_law_349 : decode cL_law 349 = .ok (.iadd, 1) := by decide +kernel
theorem dL_law_350 : decode cL_law 350 = .ok (.iaload, 1) := by decide +kernel
theorem dL_law_351 : decode cL_law 351 = .ok (.invokevirtual 55, 3) := by decide +kernel
theorem dL_law_354 : decode cL_law 354 = .ok (.aload_n 2, 1) := by decide +kernel
theorem dL_law_355 : decode cL_law 355 = .ok (.aload_n 0, 1) := by decide +kernel
theorem dL_law_356 : decode cL_law 356 = .ok (.iload 4, 2) := by decide +kernel
theorem dL_law_358 : decode cL_law 358 = .ok (.iconst 1, 1) := by decide +kernel
theorem dL_law_359 : decode cL_law 359 = .ok (.iadd, 1) := by decide +kernel
theorem dL_law_360 : decode cL_law 360 = .ok (.iaload, 1) := by decide +kernel
theorem dL_law_361 : decode cL_law 361 = .ok (.aload_n 0, 1) := by decide +kernel
theorem dL_law_362 : decode cL_law 362 = .ok (.iload 4, 2) := by decide +kernel
theorem dL_law_364 : decode cL_law 364 = .ok (.iconst 2, 1) := by decide +kernel
theorem dL_law_365 : decode cL_law 365 = .ok (.iadd, 1) := by decide +kernel
theorem dL_law_366 : decode cL_law 366 = .ok (.iaload, 1) := by decide +kernel
theorem dL_law_367 : decode cL_law 367 = .ok (.invokevirtual 58, 3) := by decide +kernel
theorem dL_law_370 : decode cL_law 370 = .ok (.if_icmp .eq 429, 3) := by decide +kernel
theorem dL_law_373 : decode cL_law 373 = .ok (.iconst 0, 1) := by decide +kernel
theorem dL_law_374 : decode cL_law 374 = .ok (.ireturn, 1) := by decide +kernel
theorem dL_law_375 : decode cL_law 375 = .ok (.aload_n 1, 1) := by decide +kernel
theorem dL_law_376 : decode cL_law 376 = .ok (.invokevirtual 59, 3) := by decide +kernel
theorem dL_law_379 : decode cL_law 379 = .ok (.aload_n 2, 1) := by decide +kernel
theorem dL_law_380 : decode cL_law 380 = .ok (.invokevirtual 63, 3) := by decide +kernel
theorem dL_law_383 : decode cL_law 383 = .ok (.if_icmp .eq 416, 3) := by decide +kernel
theorem dL_law_386 : decode cL_law 386 = .ok (.iconst 0, 1) := by decide +kernel
theorem dL_law_387 : decode cL_law 387 = .ok (.ireturn, 1) := by decide +kernel
theorem dL_law_388 : decode cL_law 388 = .ok (.aload_n 1, 1) := by decide +kernel
theorem dL_law_389 : decode cL_law 389 = .ok (.aload_n 0, 1) := by decide +kernel
theorem dL_law_390 : decode cL_law 390 = .ok (.iload 4, 2) := by decide +kernel
theorem dL_law_392 : decode cL_law 392 = .ok (.iconst 1, 1) := by decide +kernel
theorem dL_law_393 : decode cL_law 393 = .ok (.iadd, 1) := by decide +kernel
theorem dL_law_394 : decode cL_law 394 = .ok (.iaload, 1) := by decide +kernel
theorem dL_law_395 : decode cL_law 395 = .ok (.aload_n 0, 1) := by decide +kernel
theorem dL_law_396 : decode cL_law 396 = .ok (.iload 4, 2) := by decide +kernel
theorem dL_law_398 : decode cL_law 398 = .ok (.iconst 2, 1) := by decide +kernel
theorem dL_law_399 : decode cL_law 399 = .ok (.iadd, 1) := by decide +kernel
theorem dL_law_400 : decode cL_law 400 = .ok (.iaload, 1) := by decide +kernel
theorem dL_law_401 : decode cL_law 401 = .ok (.aload_n 3, 1) := by decide +kernel
theorem dL_law_402 : decode cL_law 402 = .ok (.invokestatic 64, 3) := by decide +kernel
theorem dL_law_405 : decode cL_law 405 = .ok (.istore 5, 2) := by decide +kernel
theorem dL_law_407 : decode cL_law 407 = .ok (.aload_n 2, 1) := by decide +kernel
theorem dL_law_408 : decode cL_law 408 = .ok (.aload_n 0, 1) := by decide +kernel
theorem dL_law_409 : decode cL_law 409 = .ok (.iload 4, 2) := by decide +kernel
theorem dL_law_411 : decode cL_law 411 = .ok (.iconst 1, 1) := by decide +kernel
theorem dL_law_412 : decode cL_law 412 = .ok (.iadd, 1) := by decide +kernel
theorem dL_law_413 : decode cL_law 413 = .ok (.iaload, 1) := by decide +kernel
theorem dL_law_414 : decode cL_law 414 = .ok (.aload_n 0, 1) := by decide +kernel
theorem dL_law_415 : decode cL_law 415 = .ok (.iload 4, 2) := by decide +kernel
theorem dL_law_417 : decode cL_law 417 = .ok (.iconst 2, 1) := by decide +kernel
theorem dL_law_418 : decode cL_law 418 = .ok (.iadd, 1) := by decide +kernel
theorem dL_law_419 : decode cL_law 419 = .ok (.iaload, 1) := by decide +kernel
theorem dL_law_420 : decode cL_law 420 = .ok (.invokevirtual 69, 3) := by decide +kernel
theorem dL_law_423 : decode cL_law 423 = .ok (.istore 6, 2) := by decide +kernel
theorem dL_law_425 : decode cL_law 425 = .ok (.aload_n 2, 1) := by decide +kernel
theorem dL_law_426 : decode cL_law 426 = .ok (.invokevirtual 70, 3) := by decide +kernel
theorem dL_law_429 : decode cL_law 429 = .ok (.iload 5, 2) := by decide +kernel
theorem dL_law_431 : decode cL_law 431 = .ok (.if_icmp .eq 5, 3) := by decide +kernel
theorem dL_law_434 : decode cL_law 434 = .ok (.iconst 0, 1) := by decide +kernel
theorem dL_law_435 : decode cL_law 435 = .ok (.ireturn, 1) := by decide +kernel
theorem dL_law_436 : decode cL_law 436 = .ok (.iload 5, 2) := by decide +kernel
theorem dL_law_438 : decode cL_law 438 = .ok (.ifCond .ne 15, 3) := by decide +kernel
theorem dL_law_441 : decode cL_law 441 = .ok (.aload_n 3, 1) := by decide +kernel
theorem dL_law_442 : decode cL_law 442 = .ok (.iconst 0, 1) := by decide +kernel
theorem dL_law_443 : decode cL_law 443 = .ok (.laload, 1) := by decide +kernel
theorem dL_law_444 : decode cL_law 444 = .ok (.iload 6, 2) := by decide +kernel
theorem dL_law_446 : decode cL_law 446 = .ok (.i2l, 1) := by decide +kernel
theorem dL_law_447 : decode cL_law 447 = .ok (.lcmp, 1) := by decide +kernel
theorem dL_law_448 : decode cL_law 448 = .ok (.ifCond .eq 5, 3) := by decide +kernel
theorem dL_law_451 : decode cL_law 451 = .ok (.iconst 0, 1) := by decide +kernel
theorem dL_law_452 : decode cL_law 452 = .ok (.ireturn, 1) := by decide +kernel
theorem dL_law_453 : decode cL_law 453 = .ok (.goto 346, 3) := by decide +kernel
theorem dL_law_456 : decode cL_law 456 = .ok (.aload_n 1, 1) := by decide +kernel
theorem dL_law_457 : decode cL_law 457 = .ok (.aload_n 0, 1) := by decide +kernel
theorem dL_law_458 : decode cL_law 458 = .ok (.iload 4, 2) := by decide +kernel
theorem dL_law_460 : decode cL_law 460 = .ok (.iconst 1, 1) := by decide +kernel
theorem dL_law_461 : decode cL_law 461 = .ok (.iadd, 1) := by decide +kernel
theorem dL_law_462 : decode cL_law 462 = .ok (.iaload, 1) := by decide +kernel
theorem dL_law_463 : decode cL_law 463 = .ok (.invokevirtual 73, 3) := by decide +kernel
theorem dL_law_466 : decode cL_law 466 = .ok (.aload_n 2, 1) := by decide +kernel
theorem dL_law_467 : decode cL_law 467 = .ok (.aload_n 0, 1) := by decide +kernel
theorem dL_law_468 : decode cL_law 468 = .ok (.iload 4, 2) := by decide +kernel
theorem dL_law_470 : decode cL_law 470 = .ok (.iconst 1, 1) := by decide +kernel
theorem dL_law_471 : decode cL_law 471 = .ok (.iadd, 1) := by decide +kernel
theorem dL_law_472 : decode cL_law 472 = .ok (.iaload, 1) := by decide +kernel
theorem dL_law_473 : decode cL_law 473 = .ok (.invokevirtual 76, 3) := by decide +kernel
theorem dL_law_476 : decode cL_law 476 = .ok (.if_icmp .eq 323, 3) := by decide +kernel
theorem dL_law_479 : decode cL_law 479 = .ok (.iconst 0, 1) := by decide +kernel
theorem dL_law_480 : decode cL_law 480 = .ok (.ireturn, 1) := by decide +kernel
theorem dL_law_481 : decode cL_law 481 = .ok (.aload_n 1, 1) := by decide +kernel
theorem dL_law_482 : decode cL_law 482 = .ok (.aload_n 0, 1) := by decide +kernel
theorem dL_law_483 : decode cL_law 483 = .ok (.iload 4, 2) := by decide +kernel
theorem dL_law_485 : decode cL_law 485 = .ok (.iconst 1, 1) := by decide +kernel
theorem dL_law_486 : decode cL_law 486 = .ok (.iadd, 1) := by decide +kernel
theorem dL_law_487 : decode cL_law 487 = .ok (.iaload, 1) := by decide +kernel
theorem dL_law_488 : decode cL_law 488 = .ok (.aload_n 3, 1) := by decide +kernel
theorem dL_law_489 : decode cL_law 489 = .ok (.invokestatic 77, 3) := by decide +kernel
theorem dL_law_492 : decode cL_law 492 = .ok (.istore 5, 2) := by decide +kernel
theorem dL_law_494 : decode cL_law 494 = .ok (.aload_n 2, 1) := by decide +kernel
theorem dL_law_495 : decode cL_law 495 = .ok (.aload_n 0, 1) := by decide +kernel
theorem dL_law_496 : decode cL_law 496 = .ok (.iload 4, 2) := by decide +kernel
theorem dL_law_498 : decode cL_law 498 = .ok (.iconst 1, 1) := by decide +kernel
theorem dL_law_499 : decode cL_law 499 = .ok (.iadd, 1) := by decide +kernel
theorem dL_law_500 : decode cL_law 500 = .ok (.iaload, 1) := by decide +kernel
theorem dL_law_501 : decode cL_law 501 = .ok (.invokevirtual 80, 3) := by decide +kernel
theorem dL_law_504 : decode cL_law 504 = .ok (.istore 6, 2) := by decide +kernel
theorem dL_law_506 : decode cL_law 506 = .ok (.aload_n 2, 1) := by decide +kernel
theorem dL_law_507 : decode cL_law 507 = .ok (.invokevirtual 70, 3) := by decide +kernel
theorem dL_law_510 : decode cL_law 510 = .ok (.iload 5, 2) := by decide +kernel
theorem dL_law_512 : decode cL_law 512 = .ok (.if_icmp .eq 5, 3) := by decide +kernel
theorem dL_law_515 : decode cL_law 515 = .ok (.iconst 0, 1) := by decide +kernel
theorem dL_law_516 : decode cL_law 516 = .ok (.ireturn, 1) := by decide +kernel
theorem dL_law_517 : decode cL_law 517 = .ok (.iload 5, 2) := by decide +kernel
theorem dL_law_519 : decode cL_law 519 = .ok (.ifCond .ne 15, 3) := by decide +kernel
theorem dL_law_522 : decode cL_law 522 = .ok (.aload_n 3, 1) := by decide +kernel
theorem dL_law_523 : decode cL_law 523 = .ok (.iconst 0, 1) := by decide +kernel
theorem dL_law_524 : decode cL_law 524 = .ok (.laload, 1) := by decide +kernel
theorem dL_law_525 : decode cL_law 525 = .ok (.iload 6, 2) := by decide +kernel
theorem dL_law_527 : decode cL_law 527 = .ok (.i2l, 1) := by decide +kernel
theorem dL_law_528 : decode cL_law 528 = .ok (.lcmp, 1) := by decide +kernel
theorem dL_law_529 : decode cL_law 529 = .ok (.ifCond .eq 5, 3) := by decide +kernel
theorem dL_law_532 : decode cL_law 532 = .ok (.iconst 0, 1) := by decide +kernel
theorem dL_law_533 : decode cL_law 533 = .ok (.ireturn, 1) := by decide +kernel
theorem dL_law_534 : decode cL_law 534 = .ok (.goto 265, 3) := by decide +kernel
theorem dL_law_537 : decode cL_law 537 = .ok (.aload_n 1, 1) := by decide +kernel
theorem dL_law_538 : decode cL_law 538 = .ok (.aload_n 0, 1) := by decide +kernel
theorem dL_law_539 : decode cL_law 539 = .ok (.iload 4, 2) := by decide +kernel
theorem dL_law_541 : decode cL_law 541 = .ok (.iconst 1, 1) := by decide +kernel
theorem dL_law_542 : decode cL_law 542 = .ok (.iadd, 1) := by decide +kernel
theorem dL_law_543 : decode cL_law 543 = .ok (.iaload, 1) := by decide +kernel
theorem dL_law_544 : decode cL_law 544 = .ok (.aload_n 0, 1) := by decide +kernel
theorem dL_law_545 : decode cL_law 545 = .ok (.iload 4, 2) := by decide +kernel
theorem dL_law_547 : decode cL_law 547 = .ok (.iconst 2, 1) := by decide +kernel
theorem dL_law_548 : decode cL_law 548 = .ok (.iadd, 1) := by decide +kernel
theorem dL_law_549 : decode cL_law 549 = .ok (.iaload, 1) := by decide +kernel
theorem dL_law_550 : decode cL_law 550 = .ok (.aload_n 3, 1) := by decide +kernel
theorem dL_law_551 : decode cL_law 551 = .ok (.invokestatic 81, 3) := by decide +kernel
theorem dL_law_554 : decode cL_law 554 = .ok (.istore 5, 2) := by decide +kernel
theorem dL_law_556 : decode cL_law 556 = .ok (.aload_n 2, 1) := by decide +kernel
theorem dL_law_557 : decode cL_law 557 = .ok (.aload_n 0, 1) := by decide +kernel
theorem dL_law_558 : decode cL_law 558 = .ok (.iload 4, 2) := by decide +kernel
theorem dL_law_560 : decode cL_law 560 = .ok (.iconst 1, 1) := by decide +kernel
theorem dL_law_561 : decode cL_law 561 = .ok (.iadd, 1) := by decide +kernel
theorem dL_law_562 : decode cL_law 562 = .ok (.iaload, 1) := by decide +kernel
theorem dL_law_563 : decode cL_law 563 = .ok (.aload_n 0, 1) := by decide +kernel
theorem dL_law_564 : decode cL_law 564 = .ok (.iload 4, 2) := by decide +kernel
theorem dL_law_566 : decode cL_law 566 = .ok (.iconst 2, 1) := by decide +kernel
theorem dL_law_567 : decode cL_law 567 = .ok (.iadd, 1) := by decide +kernel
theorem dL_law_568 : decode cL_law 568 = .ok (.iaload, 1) := by decide +kernel
theorem dL_law_569 : decode cL_law 569 = .ok (.invokevirtual 83, 3) := by decide +kernel
theorem dL_law_572 : decode cL_law 572 = .ok (.istore 6, 2) := by decide +kernel
theorem dL_law_574 : decode cL_law 574 = .ok (.aload_n 2, 1) := by decide +kernel
theorem dL_law_575 : decode cL_law 575 = .ok (.invokevirtual 70, 3) := by decide +kernel
theorem dL_law_578 : decode cL_law 578 = .ok (.iload 5, 2) := by decide +kernel
theorem dL_law_580 : decode cL_law 580 = .ok (.if_icmp .eq 5, 3) := by decide +kernel
theorem dL_law_583 : decode cL_law 583 = .ok (.iconst 0, 1) := by decide +kernel
theorem dL_law_584 : decode cL_law 584 = .ok (.ireturn, 1) := by decide +kernel
theorem dL_law_585 : decode cL_law 585 = .ok (.iload 5, 2) := by decide +kernel
theorem dL_law_587 : decode cL_law 587 = .ok (.ifCond .ne 22, 3) := by decide +kernel
theorem dL_law_590 : decode cL_law 590 = .ok (.aload_n 3, 1) := by decide +kernel
theorem dL_law_591 : decode cL_law 591 = .ok (.iconst 0, 1) := by decide +kernel
theorem dL_law_592 : decode cL_law 592 = .ok (.laload, 1) := by decide +kernel
theorem dL_law_593 : decode cL_law 593 = .ok (.iload 6, 2) := by decide +kernel
theorem dL_law_595 : decode cL_law 595 = .ok (.ifCond .eq 7, 3) := by decide +kernel
theorem dL_law_598 : decode cL_law 598 = .ok (.lconst 1, 1) := by decide +kernel
theorem dL_law_599 : decode cL_law 599 = .ok (.goto 4, 3) := by decide +kernel
theorem dL_law_602 : decode cL_law 602 = .ok (.lconst 0, 1) := by decide +kernel
theorem dL_law_603 : decode cL_law 603 = .ok (.lcmp, 1) := by decide +kernel
theorem dL_law_604 : decode cL_law 604 = .ok (.ifCond .eq 5, 3) := by decide +kernel
theorem dL_law_607 : decode cL_law 607 = .ok (.iconst 0, 1) := by decide +kernel
theorem dL_law_608 : decode cL_law 608 = .ok (.ireturn, 1) := by decide +kernel
theorem dL_law_609 : decode cL_law 609 = .ok (.goto 190, 3) := by decide +kernel
theorem dL_law_612 : decode cL_law 612 = .ok (.aload_n 1, 1) := by decide +kernel
theorem dL_law_613 : decode cL_law 613 = .ok (.aload_n 0, 1) := by decide +kernel
theorem dL_law_614 : decode cL_law 614 = .ok (.iload 4, 2) := by decide +kernel
theorem dL_law_616 : decode cL_law 616 = .ok (.iconst 1, 1) := by decide +kernel
theorem dL_law_617 : decode cL_law 617 = .ok (.iadd, 1) := by decide +kernel
theorem dL_law_618 : decode cL_law 618 = .ok (.iaload, 1) := by decide +kernel
theorem dL_law_619 : decode cL_law 619 = .ok (.aload_n 3, 1) := by decide +kernel
theorem dL_law_620 : decode cL_law 620 = .ok (.invokestatic 84, 3) := by decide +kernel
theorem dL_law_623 : decode cL_law 623 = .ok (.istore 5, 2) := by decide +kernel
theorem dL_law_625 : decode cL_law 625 = .ok (.aload_n 2, 1) := by decide +kernel
theorem dL_law_626 : decode cL_law 626 = .ok (.aload_n 0, 1) := by decide +kernel
theorem dL_law_627 : decode cL_law 627 = .ok (.iload 4, 2) := by decide +kernel
theorem dL_law_629 : decode cL_law 629 = .ok (.iconst 1, 1) := by decide +kernel
theorem dL_law_630 : decode cL_law 630 = .ok (.iadd, 1) := by decide +kernel
theorem dL_law_631 : decode cL_law 631 = .ok (.iaload, 1) := by decide +kernel
theorem dL_law_632 : decode cL_law 632 = .ok (.invokevirtual 86, 3) := by decide +kernel
theorem dL_law_635 : decode cL_law 635 = .ok (.istore 6, 2) := by decide +kernel
theorem dL_law_637 : decode cL_law 637 = .ok (.aload_n 2, 1) := by decide +kernel
theorem dL_law_638 : decode cL_law 638 = .ok (.invokevirtual 70, 3) := by decide +kernel
theorem dL_law_641 : decode cL_law 641 = .ok (.iload 5, 2) := by decide +kernel
theorem dL_law_643 : decode cL_law 643 = .ok (.if_icmp .eq 5, 3) := by decide +kernel
theorem dL_law_646 : decode cL_law 646 = .ok (.iconst 0, 1) := by decide +kernel
theorem dL_law_647 : decode cL_law 647 = .ok (.ireturn, 1) := by decide +kernel
theorem dL_law_648 : decode cL_law 648 = .ok (.iload 5, 2) := by decide +kernel
theorem dL_law_650 : decode cL_law 650 = .ok (.ifCond .ne 15, 3) := by decide +kernel
theorem dL_law_653 : decode cL_law 653 = .ok (.aload_n 3, 1) := by decide +kernel
theorem dL_law_654 : decode cL_law 654 = .ok (.iconst 0, 1) := by decide +kernel
theorem dL_law_655 : decode cL_law 655 = .ok (.laload, 1) := by decide +kernel
theorem dL_law_656 : decode cL_law 656 = .ok (.iload 6, 2) := by decide +kernel
theorem dL_law_658 : decode cL_law 658 = .ok (.i2l, 1) := by decide +kernel
theorem dL_law_659 : decode cL_law 659 = .ok (.lcmp, 1) := by decide +kernel
theorem dL_law_660 : decode cL_law 660 = .ok (.ifCond .eq 5, 3) := by decide +kernel
theorem dL_law_663 : decode cL_law 663 = .ok (.iconst 0, 1) := by decide +kernel
theorem dL_law_664 : decode cL_law 664 = .ok (.ireturn, 1) := by decide +kernel
theorem dL_law_665 : decode cL_law 665 = .ok (.goto 134, 3) := by decide +kernel
theorem dL_law_668 : decode cL_law 668 = .ok (.aload_n 1, 1) := by decide +kernel
theorem dL_law_669 : decode cL_law 669 = .ok (.aload_n 0, 1) := by decide +kernel
theorem dL_law_670 : decode cL_law 670 = .ok (.iload 4, 2) := by decide +kernel
theorem dL_law_672 : decode cL_law 672 = .ok (.iconst 1, 1) := by decide +kernel
theorem dL_law_673 : decode cL_law 673 = .ok (.iadd, 1) := by decide +kernel
theorem dL_law_674 : decode cL_law 674 = .ok (.iaload, 1) := by decide +kernel
theorem dL_law_675 : decode cL_law 675 = .ok (.aload_n 0, 1) := by decide +kernel
theorem dL_law_676 : decode cL_law 676 = .ok (.iload 4, 2) := by decide +kernel
theorem dL_law_678 : decode cL_law 678 = .ok (.iconst 2, 1) := by decide +kernel
theorem dL_law_679 : decode cL_law 679 = .ok (.iadd, 1) := by decide +kernel
theorem dL_law_680 : decode cL_law 680 = .ok (.iaload, 1) := by decide +kernel
theorem dL_law_681 : decode cL_law 681 = .ok (.aload_n 3, 1) := by decide +kernel
theorem dL_law_682 : decode cL_law 682 = .ok (.invokestatic 87, 3) := by decide +kernel
theorem dL_law_685 : decode cL_law 685 = .ok (.istore 5, 2) := by decide +kernel
theorem dL_law_687 : decode cL_law 687 = .ok (.aload_n 2, 1) := by decide +kernel
theorem dL_law_688 : decode cL_law 688 = .ok (.aload_n 0, 1) := by decide +kernel
theorem dL_law_689 : decode cL_law 689 = .ok (.iload 4, 2) := by decide +kernel
theorem dL_law_691 : decode cL_law 691 = .ok (.iconst 1, 1) := by decide +kernel
theorem dL_law_692 : decode cL_law 692 = .ok (.iadd, 1) := by decide +kernel
theorem dL_law_693 : decode cL_law 693 = .ok (.iaload, 1) := by decide +kernel
theorem dL_law_694 : decode cL_law 694 = .ok (.aload_n 0, 1) := by decide +kernel
theorem dL_law_695 : decode cL_law 695 = .ok (.iload 4, 2) := by decide +kernel
theorem dL_law_697 : decode cL_law 697 = .ok (.iconst 2, 1) := by decide +kernel
theorem dL_law_698 : decode cL_law 698 = .ok (.iadd, 1) := by decide +kernel
theorem dL_law_699 : decode cL_law 699 = .ok (.iaload, 1) := by decide +kernel
theorem dL_law_700 : decode cL_law 700 = .ok (.invokevirtual 89, 3) := by decide +kernel
theorem dL_law_703 : decode cL_law 703 = .ok (.istore 6, 2) := by decide +kernel
theorem dL_law_705 : decode cL_law 705 = .ok (.aload_n 2, 1) := by decide +kernel
theorem dL_law_706 : decode cL_law 706 = .ok (.invokevirtual 70, 3) := by decide +kernel
theorem dL_law_709 : decode cL_law 709 = .ok (.iload 5, 2) := by decide +kernel
theorem dL_law_711 : decode cL_law 711 = .ok (.if_icmp .eq 5, 3) := by decide +kernel
theorem dL_law_714 : decode cL_law 714 = .ok (.iconst 0, 1) := by decide +kernel
theorem dL_law_715 : decode cL_law 715 = .ok (.ireturn, 1) := by decide +kernel
theorem dL_law_716 : decode cL_law 716 = .ok (.iload 5, 2) := by decide +kernel
theorem dL_law_718 : decode cL_law 718 = .ok (.ifCond .ne 15, 3) := by decide +kernel
theorem dL_law_721 : decode cL_law 721 = .ok (.aload_n 3, 1) := by decide +kernel
theorem dL_law_722 : decode cL_law 722 = .ok (.iconst 0, 1) := by decide +kernel
theorem dL_law_723 : decode cL_law 723 = .ok (.laload, 1) := by decide +kernel
theorem dL_law_724 : decode cL_law 724 = .ok (.iload 6, 2) := by decide +kernel
theorem dL_law_726 : decode cL_law 726 = .ok (.i2l, 1) := by decide +kernel
theorem dL_law_727 : decode cL_law 727 = .ok (.lcmp, 1) := by decide +kernel
theorem dL_law_728 : decode cL_law 728 = .ok (.ifCond .eq 5, 3) := by decide +kernel
theorem dL_law_731 : decode cL_law 731 = .ok (.iconst 0, 1) := by decide +kernel
theorem dL_law_732 : decode cL_law 732 = .ok (.ireturn, 1) := by decide +kernel
theorem dL_law_733 : decode cL_law 733 = .ok (.goto 66, 3) := by decide +kernel
theorem dL_law_736 : decode cL_law 736 = .ok (.aload_n 1, 1) := by decide +kernel
theorem dL_law_737 : decode cL_law 737 = .ok (.aload_n 0, 1) := by decide +kernel
theorem dL_law_738 : decode cL_law 738 = .ok (.iload 4, 2) := by decide +kernel
theorem dL_law_740 : decode cL_law 740 = .ok (.iconst 1, 1) := by decide +kernel
theorem dL_law_741 : decode cL_law 741 = .ok (.iadd, 1) := by decide +kernel
theorem dL_law_742 : decode cL_law 742 = .ok (.iaload, 1) := by decide +kernel
theorem dL_law_743 : decode cL_law 743 = .ok (.aload_n 0, 1) := by decide +kernel
theorem dL_law_744 : decode cL_law 744 = .ok (.iload 4, 2) := by decide +kernel
theorem dL_law_746 : decode cL_law 746 = .ok (.iconst 2, 1) := by decide +kernel
theorem dL_law_747 : decode cL_law 747 = .ok (.iadd, 1) := by decide +kernel
theorem dL_law_748 : decode cL_law 748 = .ok (.iaload, 1) := by decide +kernel
theorem dL_law_749 : decode cL_law 749 = .ok (.invokevirtual 90, 3) := by decide +kernel
theorem dL_law_752 : decode cL_law 752 = .ok (.aload_n 2, 1) := by decide +kernel
theorem dL_law_753 : decode cL_law 753 = .ok (.aload_n 0, 1) := by decide +kernel
theorem dL_law_754 : decode cL_law 754 = .ok (.iload 4, 2) := by decide +kernel
theorem dL_law_756 : decode cL_law 756 = .ok (.iconst 1, 1) := by decide +kernel
theorem dL_law_757 : decode cL_law 757 = .ok (.iadd, 1) := by decide +kernel
theorem dL_law_758 : decode cL_law 758 = .ok (.iaload, 1) := by decide +kernel
theorem dL_law_759 : decode cL_law 759 = .ok (.aload_n 0, 1) := by decide +kernel
theorem dL_law_760 : decode cL_law 760 = .ok (.iload 4, 2) := by decide +kernel
theorem dL_law_762 : decode cL_law 762 = .ok (.iconst 2, 1) := by decide +kernel
theorem dL_law_763 : decode cL_law 763 = .ok (.iadd, 1) := by decide +kernel
theorem dL_law_764 : decode cL_law 764 = .ok (.iaload, 1) := by decide +kernel
theorem dL_law_765 : decode cL_law 765 = .ok (.invokevirtual 94, 3) := by decide +kernel
theorem dL_law_768 : decode cL_law 768 = .ok (.lcmp, 1) := by decide +kernel
theorem dL_law_769 : decode cL_law 769 = .ok (.ifCond .eq 30, 3) := by decide +kernel
theorem dL_law_772 : decode cL_law 772 = .ok (.iconst 0, 1) := by decide +kernel
theorem dL_law_773 : decode cL_law 773 = .ok (.ireturn, 1) := by decide +kernel
theorem dL_law_774 : decode cL_law 774 = .ok (.aload_n 1, 1) := by decide +kernel
theorem dL_law_775 : decode cL_law 775 = .ok (.aload_n 0, 1) := by decide +kernel
theorem dL_law_776 : decode cL_law 776 = .ok (.iload 4, 2) := by decide +kernel
theorem dL_law_778 : decode cL_law 778 = .ok (.iconst 1, 1) := by decide +kernel
theorem dL_law_779 : decode cL_law 779 = .ok (.iadd, 1) := by decide +kernel
theorem dL_law_780 : decode cL_law 780 = .ok (.iaload, 1) := by decide +kernel
theorem dL_law_781 : decode cL_law 781 = .ok (.invokevirtual 95, 3) := by decide +kernel
theorem dL_law_784 : decode cL_law 784 = .ok (.aload_n 2, 1) := by decide +kernel
theorem dL_law_785 : decode cL_law 785 = .ok (.aload_n 0, 1) := by decide +kernel
theorem dL_law_786 : decode cL_law 786 = .ok (.iload 4, 2) := by decide +kernel
theorem dL_law_788 : decode cL_law 788 = .ok (.iconst 1, 1) := by decide +kernel
theorem dL_law_789 : decode cL_law 789 = .ok (.iadd, 1) := by decide +kernel
theorem dL_law_790 : decode cL_law 790 = .ok (.iaload, 1) := by decide +kernel
theorem dL_law_791 : decode cL_law 791 = .ok (.invokevirtual 98, 3) := by decide +kernel
theorem dL_law_794 : decode cL_law 794 = .ok (.if_icmp .eq 5, 3) := by decide +kernel
theorem dL_law_797 : decode cL_law 797 = .ok (.iconst 0, 1) := by decide +kernel
theorem dL_law_798 : decode cL_law 798 = .ok (.ireturn, 1) := by decide +kernel
theorem dL_law_799 : decode cL_law 799 = .ok (.iinc 4 6, 3) := by decide +kernel
theorem dL_law_802 : decode cL_law 802 = .ok (.goto (-779), 3) := by decide +kernel
theorem dL_law_805 : decode cL_law 805 = .ok (.iconst 1, 1) := by decide +kernel
theorem dL_law_806 : decode cL_law 806 = .ok (.ireturn, 1) := by decide +kernel
end
section
/-! views for reading: what a heap holds of the class and of the reference -/
theorem va_one {D : va_G} {cl : List vw_C} {q : Nat × va_E} {H : Heap} (h : va_at D cl q H) : va_P D cl [q] H := fun k q' hk => by
  match k, hk with
  | 0, hk => cases hk; exact h
  | k + 1, hk => simp at hk
def eF (f : Nat → Int32) : List Value := [.int (f 0), .int (f 1), .int (f 2), .int (f 3), .int (f 4), .int (f 5), .int (f 6), .int (f 7), .int (f 8)]
theorem eF_at (f : Nat → Int32) {j : Nat} (hj : j < 9) : (eF f)[j]? = some (.int (f j)) := by
  match j, hj with
  | 0, _ => rfl
  | 1, _ => rfl
  | 2, _ => rfl
  | 3, _ => rfl
  | 4, _ => rfl
  | 5, _ => rfl
  | 6, _ => rfl
  | 7, _ => rfl
  | 8, _ => rfl
def RdE (D : va_G) (b : Nat) (fv : Nat → Int32) (U : State) (H : Heap) : Prop := va_at D cl_ (b, .inr (0, eF fv)) H ∧ va_K D cl_ [] U
def RdU (D : va_G) (u i cnt : Nat) (ids : Nat → Int32) (U : State) (H : Heap) : Prop :=
  ∃ cI : ClassId, va_at D cl_ (u, .inr (1, [.ref i, .int (nI cnt)])) H ∧ va_at D cl_ (i, .inl (cI, 1536, .inl ids)) H ∧ va_K D cl_ [(cI, .int)] U ∧ cnt ≤ 1536
def RdC (D : va_G) (x u i g w n c cnt : Nat) (ids : Nat → Int32) (ad : Nat → Nat) (f : Nat → Nat → Int32) (U : State) (H : Heap) : Prop :=
  ∃ (cI cW : ClassId) (wv : Nat → Option Nat),
    va_at D cl_ (x, .inr (2, [.ref u, .ref g, .ref w, .int (nI n), .int (nI c)])) H ∧ va_at D cl_ (u, .inr (1, [.ref i, .int (nI cnt)])) H ∧ va_at D cl_ (i, .inl (cI, 1536, .inl ids)) H ∧
    va_at D cl_ (w, .inl (cW, 512, .inr (.inr (.inr (.inr wv))))) H ∧ va_at D cl_ (g, .inr (0, eF (f g))) H ∧ (∀ k, k < n → wv k = some (ad k) ∧ va_at D cl_ (ad k, .inr (0, eF (f (ad k)))) H) ∧
    va_K D cl_ [(cI, .int), (cW, .object RX0)] U ∧ NW U ∧ n ≤ 512 ∧ c ≤ 1024 ∧ cnt ≤ 1536
/-- the sizes of the reference's arrays: ids, behinds, kinds, values; doneIds, doneOf, doneKinds, doneValues; order, stack -/
def szM (j : Nat) : Nat := if 4 ≤ j ∧ j < 8 then 1024 else 512
def fM (a : Nat → Nat) (n d : Nat) (th : Int32) : List Value := [.int th, .int (nI n), .ref (a 0), .ref (a 1), .ref (a 2), .ref (a 3), .int (nI d), .ref (a 4), .ref (a 5), .ref (a 6), .ref (a 7), .ref (a 8), .ref (a 9)]
def RdM (D : va_G) (y : Nat) (a : Nat → Nat) (n d : Nat) (th : Int32) (A : Nat → Nat → Int32) (U : State) (H : Heap) : Prop :=
  ∃ cI : ClassId, va_at D cl_ (y, .inr (3, fM a n d th)) H ∧ (∀ j, j < 10 → va_at D cl_ (a j, .inl (cI, szM j, .inl (A j))) H) ∧ va_K D cl_ [(cI, .int)] U ∧ n ≤ 512 ∧ d ≤ 1024
theorem RdE.mv {D : va_G} {b : Nat} {fv : Nat → Int32} {u U : State} {H : Heap} (hW : u.WarmedH U.vm) (h : RdE D b fv u H) : RdE D b fv U H := ⟨h.1, va_K.moved hW.alike h.2⟩
theorem RdU.mv {D : va_G} {u i cnt : Nat} {ids : Nat → Int32} {t U : State} {H : Heap} (hW : t.WarmedH U.vm) (h : RdU D u i cnt ids t H) : RdU D u i cnt ids U H := by
  obtain ⟨cI, h1, h2, h3, h4⟩ := h
  exact ⟨cI, h1, h2, va_K.moved hW.alike h3, h4⟩
theorem RdC.mv {D : va_G} {x u i g w n c cnt : Nat} {ids : Nat → Int32} {ad : Nat → Nat} {f : Nat → Nat → Int32} {t U : State} {H : Heap} (hW : t.WarmedH U.vm) (h : RdC D x u i g w n c cnt ids ad f t H) : RdC D x u i g w n c cnt ids ad f U H := by
  obtain ⟨cI, cW, wv, h1, h2, h3, h4, h5, h6, h7, h8, h9⟩ := h
  exact ⟨cI, cW, wv, h1, h2, h3, h4, h5, h6, va_K.moved hW.alike h7, NW.warm hW h8, h9⟩
theorem RdM.mv {D : va_G} {y : Nat} {a : Nat → Nat} {n d : Nat} {th : Int32} {A : Nat → Nat → Int32} {t U : State} {H : Heap} (hW : t.WarmedH U.vm) (h : RdM D y a n d th A t H) : RdM D y a n d th A U H := by
  obtain ⟨cI, h1, h2, h3, h4⟩ := h
  exact ⟨cI, h1, h2, va_K.moved hW.alike h3, h4⟩
theorem RdC.U {D : va_G} {x u i g w n c cnt : Nat} {ids : Nat → Int32} {ad : Nat → Nat} {f : Nat → Nat → Int32} {t : State} {H : Heap} (h : RdC D x u i g w n c cnt ids ad f t H) : RdU D u i cnt ids t H := by
  obtain ⟨cI, cW, wv, h1, h2, h3, h4, h5, h6, h7, h8, h9, h10, h11⟩ := h
  exact ⟨cI, h2, h3, h7.sub [0] rfl, h11⟩
theorem RdC.E {D : va_G} {x u i g w n c cnt : Nat} {ids : Nat → Int32} {ad : Nat → Nat} {f : Nat → Nat → Int32} {t : State} {H : Heap} (h : RdC D x u i g w n c cnt ids ad f t H) {b : Nat} (hb : b = g ∨ ∃ k, k < n ∧ b = ad k) : RdE D b (f b) t H := by
  obtain ⟨cI, cW, wv, h1, h2, h3, h4, h5, h6, h7, h8⟩ := h
  rcases hb with rfl | ⟨k, hk, rfl⟩
  · exact ⟨h5, h7.sub [] rfl⟩
  · exact ⟨(h6 k hk).2, h7.sub [] rfl⟩
theorem RdC.n {D : va_G} {x u i g w n c cnt : Nat} {ids : Nat → Int32} {ad : Nat → Nat} {f : Nat → Nat → Int32} {t : State} {H : Heap} (h : RdC D x u i g w n c cnt ids ad f t H) : n ≤ 512 ∧ c ≤ 1024 ∧ cnt ≤ 1536 := by
  obtain ⟨cI, cW, wv, h1, h2, h3, h4, h5, h6, h7, h8, h9⟩ := h
  exact h9
theorem RdM.n {D : va_G} {y : Nat} {a : Nat → Nat} {n d : Nat} {th : Int32} {A : Nat → Nat → Int32} {t : State} {H : Heap} (h : RdM D y a n d th A t H) : n ≤ 512 ∧ d ≤ 1024 := by
  obtain ⟨cI, h1, h2, h3, h4⟩ := h
  exact h4
theorem RdC.recv {D : va_G} {x u i g w n c cnt : Nat} {ids : Nat → Int32} {ad : Nat → Nat} {f : Nat → Nat → Int32} {t : State} {H : Heap} (h : RdC D x u i g w n c cnt ids ad f t H) : ∃ cell : Cell, H[x]? = some cell ∧ cell.vm.isStatics = false ∧ t.vm.findClass RX2 = some cell.cls := by
  obtain ⟨cI, cW, wv, h1, h2, h3, h4, h5, h6, h7, h8⟩ := h
  exact va_recv h7 (va_one h1) (ci := 2) (q0 := 0) rfl rfl
theorem RdU.recv {D : va_G} {u i cnt : Nat} {ids : Nat → Int32} {t : State} {H : Heap} (h : RdU D u i cnt ids t H) : ∃ cell : Cell, H[u]? = some cell ∧ cell.vm.isStatics = false ∧ t.vm.findClass RX1 = some cell.cls := by
  obtain ⟨cI, h1, h2, h3, h4⟩ := h
  exact va_recv h3 (va_one h1) (ci := 1) (q0 := 0) rfl rfl
theorem RdE.recv {D : va_G} {b : Nat} {fv : Nat → Int32} {t : State} {H : Heap} (h : RdE D b fv t H) : ∃ cell : Cell, H[b]? = some cell ∧ cell.vm.isStatics = false ∧ t.vm.findClass RX0 = some cell.cls := va_recv h.2 (va_one h.1) (ci := 0) (q0 := 0) rfl rfl
theorem RdM.recv {D : va_G} {y : Nat} {a : Nat → Nat} {n d : Nat} {th : Int32} {A : Nat → Nat → Int32} {t : State} {H : Heap} (h : RdM D y a n d th A t H) : ∃ cell : Cell, H[y]? = some cell ∧ cell.vm.isStatics = false ∧ t.vm.findClass RX3 = some cell.cls := by
  obtain ⟨cI, h1, h2, h3, h4⟩ := h
  exact va_recv h3 (va_one h1) (ci := 3) (q0 := 0) rfl rfl
section RD
variable {p : Program} {l : Launch} {e : Env} {R : Room} {s : State} {m : MethodId} {args : Array Value} {below : List Frame} {meth : Method} {c : Code} {H : Heap} {locs : List Loc} {cells slots : Nat} {Q : State → Prop} {cc : ByteArray} {nL pc : Nat} {ls : Array Slot} {rest : List Value} {D : va_G}
theorem rC_used (S : CallFix p m c cc nL s args gw RX2) {x u i g w n cn cnt : Nat} {ids : Nat → Int32} {ad : Nat → Nat} {f : Nat → Nat → Int32} (hC : RdC D x u i g w n cn cnt ids ad f s H) (hdg : decode cc pc = .ok (.getfield 10, 3)) (kk : W p l e R s m args below meth c H locs cells slots Q (F0 m (pc + 3) ls (.ref u :: rest))) : W p l e R s m args below meth c H locs cells slots Q (F0 m pc ls (.ref x :: rest)) := by
  obtain ⟨hx, hb, hml, hown, hg⟩ := S
  obtain ⟨cI, cW, wv, h1, h2, h3, h4, h5, h6, hK, h8, h9, h10, h11⟩ := hC
  exact va_get (D := D) (ci := 2) (C := RX2) (T := TX2) (N := 5) hx hb hg inX2 hown hK (va_one h1) 0 rfl rfl 0 (by decide) (hg _ wk_78) (fun _ h9 => h9) rfl hdg kk
theorem rC_beginning (S : CallFix p m c cc nL s args gw RX2) {x u i g w n cn cnt : Nat} {ids : Nat → Int32} {ad : Nat → Nat} {f : Nat → Nat → Int32} (hC : RdC D x u i g w n cn cnt ids ad f s H) (hdg : decode cc pc = .ok (.getfield 21, 3)) (kk : W p l e R s m args below meth c H locs cells slots Q (F0 m (pc + 3) ls (.ref g :: rest))) : W p l e R s m args below meth c H locs cells slots Q (F0 m pc ls (.ref x :: rest)) := by
  obtain ⟨hx, hb, hml, hown, hg⟩ := S
  obtain ⟨cI, cW, wv, h1, h2, h3, h4, h5, h6, hK, h8, h9, h10, h11⟩ := hC
  exact va_get (D := D) (ci := 2) (C := RX2) (T := TX2) (N := 5) hx hb hg inX2 hown hK (va_one h1) 0 rfl rfl 1 (by decide) (hg _ wk_79) (fun _ h9 => h9) rfl hdg kk
theorem rC_woven (S : CallFix p m c cc nL s args gw RX2) {x u i g w n cn cnt : Nat} {ids : Nat → Int32} {ad : Nat → Nat} {f : Nat → Nat → Int32} (hC : RdC D x u i g w n cn cnt ids ad f s H) (hdg : decode cc pc = .ok (.getfield 25, 3)) (kk : W p l e R s m args below meth c H locs cells slots Q (F0 m (pc + 3) ls (.ref w :: rest))) : W p l e R s m args below meth c H locs cells slots Q (F0 m pc ls (.ref x :: rest)) := by
  obtain ⟨hx, hb, hml, hown, hg⟩ := S
  obtain ⟨cI, cW, wv, h1, h2, h3, h4, h5, h6, hK, h8, h9, h10, h11⟩ := hC
  exact va_get (D := D) (ci := 2) (C := RX2) (T := TX2) (N := 5) hx hb hg inX2 hown hK (va_one h1) 0 rfl rfl 2 (by decide) (hg _ wk_80) (fun _ h9 => h9) rfl hdg kk
theorem rC_elements (S : CallFix p m c cc nL s args gw RX2) {x u i g w n cn cnt : Nat} {ids : Nat → Int32} {ad : Nat → Nat} {f : Nat → Nat → Int32} (hC : RdC D x u i g w n cn cnt ids ad f s H) (hdg : decode cc pc = .ok (.getfield 29, 3)) (kk : W p l e R s m args below meth c H locs cells slots Q (F0 m (pc + 3) ls (.int (nI n) :: rest))) : W p l e R s m args below meth c H locs cells slots Q (F0 m pc ls (.ref x :: rest)) := by
  obtain ⟨hx, hb, hml, hown, hg⟩ := S
  obtain ⟨cI, cW, wv, h1, h2, h3, h4, h5, h6, hK, h8, h9, h10, h11⟩ := hC
  exact va_get (D := D) (ci := 2) (C := RX2) (T := TX2) (N := 5) hx hb hg inX2 hown hK (va_one h1) 0 rfl rfl 3 (by decide) (hg _ wk_81) (fun _ h9 => h9) rfl hdg kk
theorem rC_changes (S : CallFix p m c cc nL s args gw RX2) {x u i g w n cn cnt : Nat} {ids : Nat → Int32} {ad : Nat → Nat} {f : Nat → Nat → Int32} (hC : RdC D x u i g w n cn cnt ids ad f s H) (hdg : decode cc pc = .ok (.getfield 33, 3)) (kk : W p l e R s m args below meth c H locs cells slots Q (F0 m (pc + 3) ls (.int (nI cn) :: rest))) : W p l e R s m args below meth c H locs cells slots Q (F0 m pc ls (.ref x :: rest)) := by
  obtain ⟨hx, hb, hml, hown, hg⟩ := S
  obtain ⟨cI, cW, wv, h1, h2, h3, h4, h5, h6, hK, h8, h9, h10, h11⟩ := hC
  exact va_get (D := D) (ci := 2) (C := RX2) (T := TX2) (N := 5) hx hb hg inX2 hown hK (va_one h1) 0 rfl rfl 4 (by decide) (hg _ wk_82) (fun _ h9 => h9) rfl hdg kk
theorem rU_ids (S : CallFix p m c cc nL s args gw RX1) {u i cnt : Nat} {ids : Nat → Int32} (hU : RdU D u i cnt ids s H) (hdg : decode cc pc = .ok (.getfield 9, 3)) (kk : W p l e R s m args below meth c H locs cells slots Q (F0 m (pc + 3) ls (.ref i :: rest))) : W p l e R s m args below meth c H locs cells slots Q (F0 m pc ls (.ref u :: rest)) := by
  obtain ⟨hx, hb, hml, hown, hg⟩ := S
  obtain ⟨cI, h1, h2, hK, h4⟩ := hU
  exact va_get (D := D) (ci := 1) (C := RX1) (T := TX1) (N := 2) hx hb hg inX1 hown hK (va_one h1) 0 rfl rfl 0 (by decide) (hg _ wk_26) (fun _ h9 => h9) rfl hdg kk
theorem rU_count (S : CallFix p m c cc nL s args gw RX1) {u i cnt : Nat} {ids : Nat → Int32} (hU : RdU D u i cnt ids s H) (hdg : decode cc pc = .ok (.getfield 15, 3)) (kk : W p l e R s m args below meth c H locs cells slots Q (F0 m (pc + 3) ls (.int (nI cnt) :: rest))) : W p l e R s m args below meth c H locs cells slots Q (F0 m pc ls (.ref u :: rest)) := by
  obtain ⟨hx, hb, hml, hown, hg⟩ := S
  obtain ⟨cI, h1, h2, hK, h4⟩ := hU
  exact va_get (D := D) (ci := 1) (C := RX1) (T := TX1) (N := 2) hx hb hg inX1 hown hK (va_one h1) 0 rfl rfl 1 (by decide) (hg _ wk_27) (fun _ h9 => h9) rfl hdg kk
theorem rE_removes (S : CallFix p m c cc nL s args gw RX0) {b : Nat} {fv : Nat → Int32} (hE : RdE D b fv s H) (hdg : decode cc pc = .ok (.getfield 27, 3)) (kk : W p l e R s m args below meth c H locs cells slots Q (F0 m (pc + 3) ls (.int (fv 5) :: rest))) : W p l e R s m args below meth c H locs cells slots Q (F0 m pc ls (.ref b :: rest)) := by
  obtain ⟨hx, hb, hml, hown, hg⟩ := S
  obtain ⟨h1, hK⟩ := hE
  exact va_get (D := D) (ci := 0) (C := RX0) (T := TX0) (N := 9) hx hb hg inX0 hown hK (va_one h1) 0 rfl rfl 5 (by decide) (hg _ wk_50) (fun _ h9 => h9) rfl hdg kk
theorem rE_standing (S : CallFix p m c cc nL s args gw RX0) {b : Nat} {fv : Nat → Int32} (hE : RdE D b fv s H) (hdg : decode cc pc = .ok (.getfield 30, 3)) (kk : W p l e R s m args below meth c H locs cells slots Q (F0 m (pc + 3) ls (.int (fv 6) :: rest))) : W p l e R s m args below meth c H locs cells slots Q (F0 m pc ls (.ref b :: rest)) := by
  obtain ⟨hx, hb, hml, hown, hg⟩ := S
  obtain ⟨h1, hK⟩ := hE
  exact va_get (D := D) (ci := 0) (C := RX0) (T := TX0) (N := 9) hx hb hg inX0 hown hK (va_one h1) 0 rfl rfl 6 (by decide) (hg _ wk_52) (fun _ h9 => h9) rfl hdg kk
theorem rE_kind (S : CallFix p m c cc nL s args gw RX0) {b : Nat} {fv : Nat → Int32} (hE : RdE D b fv s H) (hdg : decode cc pc = .ok (.getfield 33, 3)) (kk : W p l e R s m args below meth c H locs cells slots Q (F0 m (pc + 3) ls (.int (fv 7) :: rest))) : W p l e R s m args below meth c H locs cells slots Q (F0 m pc ls (.ref b :: rest)) := by
  obtain ⟨hx, hb, hml, hown, hg⟩ := S
  obtain ⟨h1, hK⟩ := hE
  exact va_get (D := D) (ci := 0) (C := RX0) (T := TX0) (N := 9) hx hb hg inX0 hown hK (va_one h1) 0 rfl rfl 7 (by decide) (hg _ wk_54) (fun _ h9 => h9) rfl hdg kk
theorem rE_value (S : CallFix p m c cc nL s args gw RX0) {b : Nat} {fv : Nat → Int32} (hE : RdE D b fv s H) (hdg : decode cc pc = .ok (.getfield 36, 3)) (kk : W p l e R s m args below meth c H locs cells slots Q (F0 m (pc + 3) ls (.int (fv 8) :: rest))) : W p l e R s m args below meth c H locs cells slots Q (F0 m pc ls (.ref b :: rest)) := by
  obtain ⟨hx, hb, hml, hown, hg⟩ := S
  obtain ⟨h1, hK⟩ := hE
  exact va_get (D := D) (ci := 0) (C := RX0) (T := TX0) (N := 9) hx hb hg inX0 hown hK (va_one h1) 0 rfl rfl 8 (by decide) (hg _ wk_56) (fun _ h9 => h9) rfl hdg kk
theorem rN_id (S : CallFix p m c cc nL s args gw RX2) {b : Nat} {fv : Nat → Int32} (hE : RdE D b fv s H) (hN : NW s) (hdg : decode cc pc = .ok (.getfield 98, 3)) (kk : W p l e R s m args below meth c H locs cells slots Q (F0 m (pc + 3) ls (.int (fv 0) :: rest))) : W p l e R s m args below meth c H locs cells slots Q (F0 m pc ls (.ref b :: rest)) := by
  obtain ⟨hx, hb, hml, hown, hg⟩ := S
  obtain ⟨h1, hK⟩ := hE
  exact va_getN (D := D) (ci := 0) (C := RX0) (T := TX0) (N := 9) hx hb hg inX0 hown hK (va_one h1) 0 rfl rfl 0 (by decide) (va_Nw.use rfl (nk_41 hN)) (fun _ h9 => h9) rfl hdg kk
theorem rN_behind (S : CallFix p m c cc nL s args gw RX2) {b : Nat} {fv : Nat → Int32} (hE : RdE D b fv s H) (hN : NW s) (hdg : decode cc pc = .ok (.getfield 128, 3)) (kk : W p l e R s m args below meth c H locs cells slots Q (F0 m (pc + 3) ls (.int (fv 1) :: rest))) : W p l e R s m args below meth c H locs cells slots Q (F0 m pc ls (.ref b :: rest)) := by
  obtain ⟨hx, hb, hml, hown, hg⟩ := S
  obtain ⟨h1, hK⟩ := hE
  exact va_getN (D := D) (ci := 0) (C := RX0) (T := TX0) (N := 9) hx hb hg inX0 hown hK (va_one h1) 0 rfl rfl 1 (by decide) (va_Nw.use rfl (nk_43 hN)) (fun _ h9 => h9) rfl hdg kk
theorem rN_way (S : CallFix p m c cc nL s args gw RX2) {b : Nat} {fv : Nat → Int32} (hE : RdE D b fv s H) (hN : NW s) (hdg : decode cc pc = .ok (.getfield 151, 3)) (kk : W p l e R s m args below meth c H locs cells slots Q (F0 m (pc + 3) ls (.int (fv 2) :: rest))) : W p l e R s m args below meth c H locs cells slots Q (F0 m pc ls (.ref b :: rest)) := by
  obtain ⟨hx, hb, hml, hown, hg⟩ := S
  obtain ⟨h1, hK⟩ := hE
  exact va_getN (D := D) (ci := 0) (C := RX0) (T := TX0) (N := 9) hx hb hg inX0 hown hK (va_one h1) 0 rfl rfl 2 (by decide) (va_Nw.use rfl (nk_45 hN)) (fun _ h9 => h9) rfl hdg kk
theorem rN_followers (S : CallFix p m c cc nL s args gw RX2) {b : Nat} {fv : Nat → Int32} (hE : RdE D b fv s H) (hN : NW s) (hdg : decode cc pc = .ok (.getfield 39, 3)) (kk : W p l e R s m args below meth c H locs cells slots Q (F0 m (pc + 3) ls (.int (fv 3) :: rest))) : W p l e R s m args below meth c H locs cells slots Q (F0 m pc ls (.ref b :: rest)) := by
  obtain ⟨hx, hb, hml, hown, hg⟩ := S
  obtain ⟨h1, hK⟩ := hE
  exact va_getN (D := D) (ci := 0) (C := RX0) (T := TX0) (N := 9) hx hb hg inX0 hown hK (va_one h1) 0 rfl rfl 3 (by decide) (va_Nw.use rfl (nk_47 hN)) (fun _ h9 => h9) rfl hdg kk
theorem rN_sets (S : CallFix p m c cc nL s args gw RX2) {b : Nat} {fv : Nat → Int32} (hE : RdE D b fv s H) (hN : NW s) (hdg : decode cc pc = .ok (.getfield 75, 3)) (kk : W p l e R s m args below meth c H locs cells slots Q (F0 m (pc + 3) ls (.int (fv 4) :: rest))) : W p l e R s m args below meth c H locs cells slots Q (F0 m pc ls (.ref b :: rest)) := by
  obtain ⟨hx, hb, hml, hown, hg⟩ := S
  obtain ⟨h1, hK⟩ := hE
  exact va_getN (D := D) (ci := 0) (C := RX0) (T := TX0) (N := 9) hx hb hg inX0 hown hK (va_one h1) 0 rfl rfl 4 (by decide) (va_Nw.use rfl (nk_49 hN)) (fun _ h9 => h9) rfl hdg kk
theorem rN_removes (S : CallFix p m c cc nL s args gw RX2) {b : Nat} {fv : Nat → Int32} (hE : RdE D b fv s H) (hN : NW s) (hdg : decode cc pc = .ok (.getfield 81, 3)) (kk : W p l e R s m args below meth c H locs cells slots Q (F0 m (pc + 3) ls (.int (fv 5) :: rest))) : W p l e R s m args below meth c H locs cells slots Q (F0 m pc ls (.ref b :: rest)) := by
  obtain ⟨hx, hb, hml, hown, hg⟩ := S
  obtain ⟨h1, hK⟩ := hE
  exact va_getN (D := D) (ci := 0) (C := RX0) (T := TX0) (N := 9) hx hb hg inX0 hown hK (va_one h1) 0 rfl rfl 5 (by decide) (va_Nw.use rfl (nk_51 hN)) (fun _ h9 => h9) rfl hdg kk
theorem rN_standing (S : CallFix p m c cc nL s args gw RX2) {b : Nat} {fv : Nat → Int32} (hE : RdE D b fv s H) (hN : NW s) (hdg : decode cc pc = .ok (.getfield 107, 3)) (kk : W p l e R s m args below meth c H locs cells slots Q (F0 m (pc + 3) ls (.int (fv 6) :: rest))) : W p l e R s m args below meth c H locs cells slots Q (F0 m pc ls (.ref b :: rest)) := by
  obtain ⟨hx, hb, hml, hown, hg⟩ := S
  obtain ⟨h1, hK⟩ := hE
  exact va_getN (D := D) (ci := 0) (C := RX0) (T := TX0) (N := 9) hx hb hg inX0 hown hK (va_one h1) 0 rfl rfl 6 (by decide) (va_Nw.use rfl (nk_53 hN)) (fun _ h9 => h9) rfl hdg kk
theorem rN_kind (S : CallFix p m c cc nL s args gw RX2) {b : Nat} {fv : Nat → Int32} (hE : RdE D b fv s H) (hN : NW s) (hdg : decode cc pc = .ok (.getfield 101, 3)) (kk : W p l e R s m args below meth c H locs cells slots Q (F0 m (pc + 3) ls (.int (fv 7) :: rest))) : W p l e R s m args below meth c H locs cells slots Q (F0 m pc ls (.ref b :: rest)) := by
  obtain ⟨hx, hb, hml, hown, hg⟩ := S
  obtain ⟨h1, hK⟩ := hE
  exact va_getN (D := D) (ci := 0) (C := RX0) (T := TX0) (N := 9) hx hb hg inX0 hown hK (va_one h1) 0 rfl rfl 7 (by decide) (va_Nw.use rfl (nk_55 hN)) (fun _ h9 => h9) rfl hdg kk
theorem rN_value (S : CallFix p m c cc nL s args gw RX2) {b : Nat} {fv : Nat → Int32} (hE : RdE D b fv s H) (hN : NW s) (hdg : decode cc pc = .ok (.getfield 104, 3)) (kk : W p l e R s m args below meth c H locs cells slots Q (F0 m (pc + 3) ls (.int (fv 8) :: rest))) : W p l e R s m args below meth c H locs cells slots Q (F0 m pc ls (.ref b :: rest)) := by
  obtain ⟨hx, hb, hml, hown, hg⟩ := S
  obtain ⟨h1, hK⟩ := hE
  exact va_getN (D := D) (ci := 0) (C := RX0) (T := TX0) (N := 9) hx hb hg inX0 hown hK (va_one h1) 0 rfl rfl 8 (by decide) (va_Nw.use rfl (nk_57 hN)) (fun _ h9 => h9) rfl hdg kk
theorem RdC.nw {x u i g w n cn cnt : Nat} {ids : Nat → Int32} {ad : Nat → Nat} {f : Nat → Nat → Int32} (hC : RdC D x u i g w n cn cnt ids ad f s H) : NW s := by
  obtain ⟨cI, cW, wv, h1, h2, h3, h4, h5, h6, hK, h8, h9⟩ := hC
  exact h8
theorem rC_ald (S : CallFix p m c cc nL s args gw RX2) {x u i g w n cn cnt : Nat} {ids : Nat → Int32} {ad : Nat → Nat} {f : Nat → Nat → Int32} (hC : RdC D x u i g w n cn cnt ids ad f s H) {k : Nat} (hk : k < n) (hdg : decode cc pc = .ok (.aaload, 1)) (kk : W p l e R s m args below meth c H locs cells slots Q (F0 m (pc + 1) ls (.ref (ad k) :: rest))) : W p l e R s m args below meth c H locs cells slots Q (F0 m pc ls (.int (nI k) :: .ref w :: rest)) := by
  obtain ⟨hx, hb, hml, hown, hg⟩ := S
  obtain ⟨cI, cW, wv, h1, h2, h3, h4, h5, h6, hK, h8, h9, h10, h11⟩ := hC
  refine va_aldq (D := D) hx hb hK (va_one h4) 0 1 rfl rfl (vp_in_nI (by omega) (by omega)) hdg ?_
  rw [nI_clamp (by omega), (h6 k hk).1]
  exact kk
theorem rU_ald (S : CallFix p m c cc nL s args gw RX1) {u i cnt : Nat} {ids : Nat → Int32} (hU : RdU D u i cnt ids s H) {k : Nat} (hk : k < 1536) (hdg : decode cc pc = .ok (.iaload, 1)) (kk : W p l e R s m args below meth c H locs cells slots Q (F0 m (pc + 1) ls (.int (ids k) :: rest))) : W p l e R s m args below meth c H locs cells slots Q (F0 m pc ls (.int (nI k) :: .ref i :: rest)) := by
  obtain ⟨hx, hb, hml, hown, hg⟩ := S
  obtain ⟨cI, h1, h2, hK, h4⟩ := hU
  refine va_iald (D := D) hx hb hK (va_one h2) 0 0 rfl rfl (vp_in_nI hk (by omega)) hdg ?_
  rw [nI_clamp (by omega)]
  exact kk
theorem rM_thrown (S : CallFix p m c cc nL s args gw RX3) {y : Nat} {a : Nat → Nat} {n d : Nat} {th : Int32} {A : Nat → Nat → Int32} (hM : RdM D y a n d th A s H) (hdg : decode cc pc = .ok (.getfield 40, 3)) (kk : W p l e R s m args below meth c H locs cells slots Q (F0 m (pc + 3) ls (.int th :: rest))) : W p l e R s m args below meth c H locs cells slots Q (F0 m pc ls (.ref y :: rest)) := by
  obtain ⟨hx, hb, hml, hown, hg⟩ := S
  obtain ⟨cI, h1, h2, hK, h4⟩ := hM
  exact va_get (D := D) (ci := 3) (C := RX3) (T := TX3) (N := 13) hx hb hg inX3 hown hK (va_one h1) 0 rfl rfl 0 (by decide) (hg _ wk_349) (fun _ h9 => h9) rfl hdg kk
theorem rM_many (S : CallFix p m c cc nL s args gw RX3) {y : Nat} {a : Nat → Nat} {n d : Nat} {th : Int32} {A : Nat → Nat → Int32} (hM : RdM D y a n d th A s H) (hdg : decode cc pc = .ok (.getfield 44, 3)) (kk : W p l e R s m args below meth c H locs cells slots Q (F0 m (pc + 3) ls (.int (nI n) :: rest))) : W p l e R s m args below meth c H locs cells slots Q (F0 m pc ls (.ref y :: rest)) := by
  obtain ⟨hx, hb, hml, hown, hg⟩ := S
  obtain ⟨cI, h1, h2, hK, h4⟩ := hM
  exact va_get (D := D) (ci := 3) (C := RX3) (T := TX3) (N := 13) hx hb hg inX3 hown hK (va_one h1) 0 rfl rfl 1 (by decide) (hg _ wk_350) (fun _ h9 => h9) rfl hdg kk
theorem rM_ids (S : CallFix p m c cc nL s args gw RX3) {y : Nat} {a : Nat → Nat} {n d : Nat} {th : Int32} {A : Nat → Nat → Int32} (hM : RdM D y a n d th A s H) (hdg : decode cc pc = .ok (.getfield 7, 3)) (kk : W p l e R s m args below meth c H locs cells slots Q (F0 m (pc + 3) ls (.ref (a 0) :: rest))) : W p l e R s m args below meth c H locs cells slots Q (F0 m pc ls (.ref y :: rest)) := by
  obtain ⟨hx, hb, hml, hown, hg⟩ := S
  obtain ⟨cI, h1, h2, hK, h4⟩ := hM
  exact va_get (D := D) (ci := 3) (C := RX3) (T := TX3) (N := 13) hx hb hg inX3 hown hK (va_one h1) 0 rfl rfl 2 (by decide) (hg _ wk_351) (fun _ h9 => h9) rfl hdg kk
theorem rM_behinds (S : CallFix p m c cc nL s args gw RX3) {y : Nat} {a : Nat → Nat} {n d : Nat} {th : Int32} {A : Nat → Nat → Int32} (hM : RdM D y a n d th A s H) (hdg : decode cc pc = .ok (.getfield 13, 3)) (kk : W p l e R s m args below meth c H locs cells slots Q (F0 m (pc + 3) ls (.ref (a 1) :: rest))) : W p l e R s m args below meth c H locs cells slots Q (F0 m pc ls (.ref y :: rest)) := by
  obtain ⟨hx, hb, hml, hown, hg⟩ := S
  obtain ⟨cI, h1, h2, hK, h4⟩ := hM
  exact va_get (D := D) (ci := 3) (C := RX3) (T := TX3) (N := 13) hx hb hg inX3 hown hK (va_one h1) 0 rfl rfl 3 (by decide) (hg _ wk_352) (fun _ h9 => h9) rfl hdg kk
theorem rM_kinds (S : CallFix p m c cc nL s args gw RX3) {y : Nat} {a : Nat → Nat} {n d : Nat} {th : Int32} {A : Nat → Nat → Int32} (hM : RdM D y a n d th A s H) (hdg : decode cc pc = .ok (.getfield 16, 3)) (kk : W p l e R s m args below meth c H locs cells slots Q (F0 m (pc + 3) ls (.ref (a 2) :: rest))) : W p l e R s m args below meth c H locs cells slots Q (F0 m pc ls (.ref y :: rest)) := by
  obtain ⟨hx, hb, hml, hown, hg⟩ := S
  obtain ⟨cI, h1, h2, hK, h4⟩ := hM
  exact va_get (D := D) (ci := 3) (C := RX3) (T := TX3) (N := 13) hx hb hg inX3 hown hK (va_one h1) 0 rfl rfl 4 (by decide) (hg _ wk_353) (fun _ h9 => h9) rfl hdg kk
theorem rM_values (S : CallFix p m c cc nL s args gw RX3) {y : Nat} {a : Nat → Nat} {n d : Nat} {th : Int32} {A : Nat → Nat → Int32} (hM : RdM D y a n d th A s H) (hdg : decode cc pc = .ok (.getfield 19, 3)) (kk : W p l e R s m args below meth c H locs cells slots Q (F0 m (pc + 3) ls (.ref (a 3) :: rest))) : W p l e R s m args below meth c H locs cells slots Q (F0 m pc ls (.ref y :: rest)) := by
  obtain ⟨hx, hb, hml, hown, hg⟩ := S
  obtain ⟨cI, h1, h2, hK, h4⟩ := hM
  exact va_get (D := D) (ci := 3) (C := RX3) (T := TX3) (N := 13) hx hb hg inX3 hown hK (va_one h1) 0 rfl rfl 5 (by decide) (hg _ wk_354) (fun _ h9 => h9) rfl hdg kk
theorem rM_done (S : CallFix p m c cc nL s args gw RX3) {y : Nat} {a : Nat → Nat} {n d : Nat} {th : Int32} {A : Nat → Nat → Int32} (hM : RdM D y a n d th A s H) (hdg : decode cc pc = .ok (.getfield 52, 3)) (kk : W p l e R s m args below meth c H locs cells slots Q (F0 m (pc + 3) ls (.int (nI d) :: rest))) : W p l e R s m args below meth c H locs cells slots Q (F0 m pc ls (.ref y :: rest)) := by
  obtain ⟨hx, hb, hml, hown, hg⟩ := S
  obtain ⟨cI, h1, h2, hK, h4⟩ := hM
  exact va_get (D := D) (ci := 3) (C := RX3) (T := TX3) (N := 13) hx hb hg inX3 hown hK (va_one h1) 0 rfl rfl 6 (by decide) (hg _ wk_355) (fun _ h9 => h9) rfl hdg kk
theorem rM_doneIds (S : CallFix p m c cc nL s args gw RX3) {y : Nat} {a : Nat → Nat} {n d : Nat} {th : Int32} {A : Nat → Nat → Int32} (hM : RdM D y a n d th A s H) (hdg : decode cc pc = .ok (.getfield 22, 3)) (kk : W p l e R s m args below meth c H locs cells slots Q (F0 m (pc + 3) ls (.ref (a 4) :: rest))) : W p l e R s m args below meth c H locs cells slots Q (F0 m pc ls (.ref y :: rest)) := by
  obtain ⟨hx, hb, hml, hown, hg⟩ := S
  obtain ⟨cI, h1, h2, hK, h4⟩ := hM
  exact va_get (D := D) (ci := 3) (C := RX3) (T := TX3) (N := 13) hx hb hg inX3 hown hK (va_one h1) 0 rfl rfl 7 (by decide) (hg _ wk_356) (fun _ h9 => h9) rfl hdg kk
theorem rM_doneOf (S : CallFix p m c cc nL s args gw RX3) {y : Nat} {a : Nat → Nat} {n d : Nat} {th : Int32} {A : Nat → Nat → Int32} (hM : RdM D y a n d th A s H) (hdg : decode cc pc = .ok (.getfield 25, 3)) (kk : W p l e R s m args below meth c H locs cells slots Q (F0 m (pc + 3) ls (.ref (a 5) :: rest))) : W p l e R s m args below meth c H locs cells slots Q (F0 m pc ls (.ref y :: rest)) := by
  obtain ⟨hx, hb, hml, hown, hg⟩ := S
  obtain ⟨cI, h1, h2, hK, h4⟩ := hM
  exact va_get (D := D) (ci := 3) (C := RX3) (T := TX3) (N := 13) hx hb hg inX3 hown hK (va_one h1) 0 rfl rfl 8 (by decide) (hg _ wk_357) (fun _ h9 => h9) rfl hdg kk
theorem rM_doneKinds (S : CallFix p m c cc nL s args gw RX3) {y : Nat} {a : Nat → Nat} {n d : Nat} {th : Int32} {A : Nat → Nat → Int32} (hM : RdM D y a n d th A s H) (hdg : decode cc pc = .ok (.getfield 28, 3)) (kk : W p l e R s m args below meth c H locs cells slots Q (F0 m (pc + 3) ls (.ref (a 6) :: rest))) : W p l e R s m args below meth c H locs cells slots Q (F0 m pc ls (.ref y :: rest)) := by
  obtain ⟨hx, hb, hml, hown, hg⟩ := S
  obtain ⟨cI, h1, h2, hK, h4⟩ := hM
  exact va_get (D := D) (ci := 3) (C := RX3) (T := TX3) (N := 13) hx hb hg inX3 hown hK (va_one h1) 0 rfl rfl 9 (by decide) (hg _ wk_358) (fun _ h9 => h9) rfl hdg kk
theorem rM_doneValues (S : CallFix p m c cc nL s args gw RX3) {y : Nat} {a : Nat → Nat} {n d : Nat} {th : Int32} {A : Nat → Nat → Int32} (hM : RdM D y a n d th A s H) (hdg : decode cc pc = .ok (.getfield 31, 3)) (kk : W p l e R s m args below meth c H locs cells slots Q (F0 m (pc + 3) ls (.ref (a 7) :: rest))) : W p l e R s m args below meth c H locs cells slots Q (F0 m pc ls (.ref y :: rest)) := by
  obtain ⟨hx, hb, hml, hown, hg⟩ := S
  obtain ⟨cI, h1, h2, hK, h4⟩ := hM
  exact va_get (D := D) (ci := 3) (C := RX3) (T := TX3) (N := 13) hx hb hg inX3 hown hK (va_one h1) 0 rfl rfl 10 (by decide) (hg _ wk_359) (fun _ h9 => h9) rfl hdg kk
theorem rM_order (S : CallFix p m c cc nL s args gw RX3) {y : Nat} {a : Nat → Nat} {n d : Nat} {th : Int32} {A : Nat → Nat → Int32} (hM : RdM D y a n d th A s H) (hdg : decode cc pc = .ok (.getfield 34, 3)) (kk : W p l e R s m args below meth c H locs cells slots Q (F0 m (pc + 3) ls (.ref (a 8) :: rest))) : W p l e R s m args below meth c H locs cells slots Q (F0 m pc ls (.ref y :: rest)) := by
  obtain ⟨hx, hb, hml, hown, hg⟩ := S
  obtain ⟨cI, h1, h2, hK, h4⟩ := hM
  exact va_get (D := D) (ci := 3) (C := RX3) (T := TX3) (N := 13) hx hb hg inX3 hown hK (va_one h1) 0 rfl rfl 11 (by decide) (hg _ wk_360) (fun _ h9 => h9) rfl hdg kk
theorem rM_stack (S : CallFix p m c cc nL s args gw RX3) {y : Nat} {a : Nat → Nat} {n d : Nat} {th : Int32} {A : Nat → Nat → Int32} (hM : RdM D y a n d th A s H) (hdg : decode cc pc = .ok (.getfield 37, 3)) (kk : W p l e R s m args below meth c H locs cells slots Q (F0 m (pc + 3) ls (.ref (a 9) :: rest))) : W p l e R s m args below meth c H locs cells slots Q (F0 m pc ls (.ref y :: rest)) := by
  obtain ⟨hx, hb, hml, hown, hg⟩ := S
  obtain ⟨cI, h1, h2, hK, h4⟩ := hM
  exact va_get (D := D) (ci := 3) (C := RX3) (T := TX3) (N := 13) hx hb hg inX3 hown hK (va_one h1) 0 rfl rfl 12 (by decide) (hg _ wk_361) (fun _ h9 => h9) rfl hdg kk
theorem rM_ald (S : CallFix p m c cc nL s args gw RX3) {y : Nat} {a : Nat → Nat} {n d : Nat} {th : Int32} {A : Nat → Nat → Int32} (hM : RdM D y a n d th A s H) (j : Nat) {k : Nat} (hj : j < 10) (hk : k < szM j) (hdg : decode cc pc = .ok (.iaload, 1)) (kk : W p l e R s m args below meth c H locs cells slots Q (F0 m (pc + 1) ls (.int (A j k) :: rest))) : W p l e R s m args below meth c H locs cells slots Q (F0 m pc ls (.int (nI k) :: .ref (a j) :: rest)) := by
  obtain ⟨hx, hb, hml, hown, hg⟩ := S
  obtain ⟨cI, h1, h2, hK, h4⟩ := hM
  have h31 : szM j < 2 ^ 31 := by unfold szM; split <;> decide
  refine va_iald (D := D) hx hb hK (va_one (h2 j hj)) 0 0 rfl rfl (vp_in_nI hk h31) hdg ?_
  rw [nI_clamp (by omega)]
  exact kk
end RD
/-- the head of a method that returns -/
theorem met_go {l : Launch} {y : MethodName} {cc : ByteArray} {maxL : Nat} {ret : Option FieldType} {rm : Room} {av : List Value} {B : State → Prop} {Qc : Array Value → State → Outcome → State → Prop} {mc ms : Nat} {free : Addr → Prop}
    (hy : plainName y.cls = true) (hn : (lg_sl av).length ≤ maxL)
    (body : ∀ (p : Program) (e : Env) (s : State) (m : MethodId) (below : List Frame) (meth : Method) (c : Code) (ls : Array Slot), CallFix p m c cc maxL s av.toArray gw y.cls → meth.sig.returnType = ret → meth.locks = false → meth.name = y.name → B s → lv_has ls maxL (lv_args 0 av) →
      W p l e rm s m av.toArray below meth c s.heap [] 0 0 (MQ below Qc av.toArray s mc ms free) (F0 m 0 ls [])) : Met l y (gws y cc maxL ret) rm (va_Pc av B) Qc mc ms free := by
  refine Met.ofW (cc := cc) (maxL := maxL) (ret := ret) hy rfl ?_
  intro p e s m args below meth c s₁ B9 hml hv
  obtain ⟨rfl, hB⟩ := hv
  have hts := atoms_spec (ws := gws y cc maxL ret) B9.pre
  have hg : ∀ w ∈ gw, w.before av.toArray s = true := fun w h => hts w (List.mem_cons_of_mem _ h)
  have hl := lv_entry av (n := maxL) hn
  rw [lg_entry_eq]
  generalize (lg_sl av ++ List.replicate (maxL - (lg_sl av).length) Slot.unset).toArray = ls at hl ⊢
  exact body p e s m below meth c ls ⟨B9.exec, B9.bytes, hml, findClass_of_methodNamed B9.named, hg⟩ B9.returns B9.notSynchronized (name_of_methodNamed B9.named B9.method).1 hB hl
/-- views that stay when the tables grow warm -/
def Mv (Bh : State → Heap → Prop) : Prop := ∀ (u U : State) (H : Heap), u.WarmedH U.vm → Bh u H → Bh U H
theorem Mv.blind {Bh : State → Heap → Prop} {av : List Value} (h : Mv Bh) : FrameBlind (va_Pc av (fun U => Bh U U.heap)) := fun a U g mk q => ⟨q.1, h U (U.calling g mk a) U.heap (State.WarmedH.refl U) q.2⟩
theorem Mv.at {Bh : State → Heap → Prop} {s : State} {H : Heap} (h : Mv Bh) (hB : Bh s H) (av : List Value) : ∀ U : State, U.heap = H → s.WarmedH U.vm → va_Pc av (fun U => Bh U U.heap) av.toArray U := fun U hU hW => ⟨rfl, by show Bh U U.heap; rw [hU]; exact h s U H hW hB⟩
section CALLS
variable {p : Program} {l : Launch} {e : Env} {R : Room} {s : State} {m : MethodId} {args : Array Value} {below : List Frame} {meth : Method} {c : Code} {H : Heap} {locs : List Loc} {cells slots : Nat} {Q : State → Prop} {cc : ByteArray} {nL pc : Nat} {ls : Array Slot} {rest : List Value} {y : MethodName} {b9 : ByteArray} {n9 idx : Nat} {r9 : Option FieldType} {rm : Room} {Bh : State → Heap → Prop} {own C host : String} {o9 : Nat} {As : List Value}
theorem runV {Qc : Array Value → State → Outcome → State → Prop} {mc ms : Nat} {free : Addr → Prop} (S : CallFix p m c cc nL s args gw own) (hM : Met l y (gws y b9 n9 r9) rm (va_Pc (.ref o9 :: As) (fun U => Bh U U.heap)) Qc mc ms free) (hT : GoodIn gw (wsV own idx C y (gws y b9 n9 r9))) (hrc : rm.cells = mc) (hrs : rm.slots = ms) (k9 : Nat) (hk9 : As.length = k9)
    (hd : y.cls = C ∧ y.cls ≠ "java/lang/invoke/MethodHandle" ∧ y.cls ≠ "java/lang/invoke/VarHandle" ∧ (parseMethodDescriptor y.desc).map (fun d => d.parameters.length) = some k9) (hR : rm.frames + 1 ≤ R.frames ∧ 8 + (n9 + 11) + rm.locals ≤ R.locals) (hf : cells + mc ≤ R.cells ∧ slots + ms ≤ R.slots)
    (hMv : Mv Bh) (hrecv : ∃ cell : Cell, H[o9]? = some cell ∧ cell.vm.isStatics = false ∧ s.vm.findClass C = some cell.cls) (hB : Bh s H) (hsize : ls.size = nL) (hW : (rest.map fun v => v.category).sum ≤ 8) (hdg : decode cc pc = .ok (.invokevirtual idx, 3)) :
    va_Run p l e R s m args below meth c H locs cells slots mc ms (F0 m pc ls (As.reverse ++ .ref o9 :: rest)) rest (Qc (.ref o9 :: As).toArray) free :=
  va_runV (As := As) (rest := rest) S hM (cwV k9 S.2.2.2.2 hT rfl hrc hrs hd hR) ⟨hMv.blind, hrecv, hMv.at hB _⟩ rfl hk9 hsize rfl (lv_room hW) hdg hf
theorem runVN {Qc : Array Value → State → Outcome → State → Prop} {mc ms : Nat} {free : Addr → Prop} (S : CallFix p m c cc nL s args gw own) (hM : Met l y (gws y b9 n9 r9) rm (va_Pc (.ref o9 :: As) (fun U => Bh U U.heap)) Qc mc ms free) (hT : GoodIn gw (gws y b9 n9 r9)) (hl : va_Nw (.methodLinkNest own idx y host) s) (hini : Cond.initialized y.cls ∈ gw) (hin : Cond.instanceMethod y ∈ gw) (hse : Cond.selects C y y ∈ gw) (hrc : rm.cells = mc) (hrs : rm.slots = ms) (k9 : Nat) (hk9 : As.length = k9)
    (hd : y.cls ≠ "java/lang/invoke/MethodHandle" ∧ y.cls ≠ "java/lang/invoke/VarHandle" ∧ (parseMethodDescriptor y.desc).map (fun d => d.parameters.length) = some k9) (hR : rm.frames + 1 ≤ R.frames ∧ 8 + (n9 + 11) + rm.locals ≤ R.locals) (hf : cells + mc ≤ R.cells ∧ slots + ms ≤ R.slots)
    (hMv : Mv Bh) (hrecv : ∃ cell : Cell, H[o9]? = some cell ∧ cell.vm.isStatics = false ∧ s.vm.findClass C = some cell.cls) (hB : Bh s H) (hsize : ls.size = nL) (hW : (rest.map fun v => v.category).sum ≤ 8) (hdg : decode cc pc = .ok (.invokevirtual idx, 3)) :
    va_Run p l e R s m args below meth c H locs cells slots mc ms (F0 m pc ls (As.reverse ++ .ref o9 :: rest)) rest (Qc (.ref o9 :: As).toArray) free :=
  va_runVN (As := As) (rest := rest) S hM ⟨va_cnB k9 S.2.2.2.2 hT rfl hrc hrs hl (S.2.2.2.2 _ hini) hd hR, S.2.2.2.2 _ hin, S.2.2.2.2 _ hse⟩ ⟨hMv.blind, hrecv, hMv.at hB _⟩ rfl hk9 hsize rfl (lv_room hW) hdg hf
theorem runS {Qc : Array Value → State → Outcome → State → Prop} {mc ms : Nat} {free : Addr → Prop} (S : CallFix p m c cc nL s args gw own) (hM : Met l y (gws y b9 n9 r9) rm (va_Pc As (fun U => Bh U U.heap)) Qc mc ms free) (hT : GoodIn gw (wsS own idx y (gws y b9 n9 r9))) (hrc : rm.cells = mc) (hrs : rm.slots = ms) (k9 : Nat) (hk9 : As.length = k9)
    (hd : y.cls = own ∧ y.cls ≠ "java/lang/invoke/MethodHandle" ∧ y.cls ≠ "java/lang/invoke/VarHandle" ∧ (parseMethodDescriptor y.desc).map (fun d => d.parameters.length) = some k9) (hR : rm.frames + 1 ≤ R.frames ∧ 8 + (n9 + 11) + rm.locals ≤ R.locals) (hf : cells + mc ≤ R.cells ∧ slots + ms ≤ R.slots)
    (hMv : Mv Bh) (hB : Bh s H) (hsize : ls.size = nL) (hW : (rest.map fun v => v.category).sum ≤ 8) (hdg : decode cc pc = .ok (.invokestatic idx, 3)) :
    va_Run p l e R s m args below meth c H locs cells slots mc ms (F0 m pc ls (As.reverse ++ rest)) rest (Qc As.toArray) free :=
  va_runS (As := As) (rest := rest) S hM (cwS k9 S.2.2.2.2 hT rfl hrc hrs hd hR) ⟨hMv.blind, hMv.at hB _⟩ rfl hk9 hsize rfl (lv_room hW) hdg hf
end CALLS
end
section
/-! pure words -/
/-- how many of the first k are 0 -/
def vis (g : Nat → Int32) : Nat → Nat
  | 0 => 0
  | k + 1 => vis g k + (if g k = 0 then 1 else 0)
theorem vis_le (g : Nat → Int32) : ∀ k, vis g k ≤ k
  | 0 => Nat.le_refl 0
  | k + 1 => by
    have := vis_le g k
    unfold vis
    split <;> omega
/-- sorted, each once -/
def Srt (ids : Nat → Int32) (cnt : Nat) : Prop := ∀ a b, a < b → b < cnt → ids a < ids b
/-- where id is, or would be -/
def Fnb (ids : Nat → Int32) (cnt : Nat) (v1 : Int32) (q : Nat) : Prop := q ≤ cnt ∧ (∀ j, j < q → ids j < v1) ∧ ∀ j, q ≤ j → j < cnt → ¬ ids j < v1
theorem i32_tri {a b : Int32} (h1 : ¬ a < b) (h2 : ¬ a = b) : b < a := by
  rw [Int32.lt_iff_toInt_lt] at h1 ⊢
  have h3 : a.toInt ≠ b.toInt := fun h => h2 (Int32.toInt_inj.mp h)
  omega
theorem i32_irr {a b : Int32} (h : a < b) : ¬ a = b := fun e => by
  rw [e, Int32.lt_iff_toInt_lt] at h
  omega
theorem i32_asym {a b : Int32} (h : a < b) : ¬ b < a := by
  rw [Int32.lt_iff_toInt_lt] at h ⊢
  omega
theorem i32_trans {a b c : Int32} (h : a < b) (h2 : b < c) : a < c := by
  rw [Int32.lt_iff_toInt_lt] at h h2 ⊢
  omega
theorem i32_nle {a b : Int32} : ¬ a ≤ b ↔ b < a := by
  rw [Int32.lt_iff_toInt_lt, Int32.le_iff_toInt_le]
  omega
theorem i32_nlt {a b : Int32} : ¬ a < b ↔ b ≤ a := by
  rw [Int32.lt_iff_toInt_lt, Int32.le_iff_toInt_le]
  omega
theorem Srt.le {ids : Nat → Int32} {cnt a b : Nat} (h : Srt ids cnt) (hab : a ≤ b) (hb : b < cnt) : ¬ ids b < ids a := by
  rcases Nat.lt_or_eq_of_le hab with q | q
  · exact i32_asym (h a b q hb)
  · subst q
    exact fun z => i32_irr z rfl
/-- the id is among the sorted ones just where it would be -/
theorem Fnb.has {ids : Nat → Int32} {cnt q : Nat} {v1 : Int32} (h : Fnb ids cnt v1 q) : (∃ j, j < cnt ∧ ids j = v1) → Srt ids cnt → q < cnt ∧ ids q = v1 := by
  intro ⟨j, hj, e⟩ hs
  obtain ⟨h1, h2, h3⟩ := h
  have hq : q ≤ j := by
    rcases Nat.lt_or_ge j q with z | z
    · exact absurd e (i32_irr (h2 j z))
    · exact z
  rcases Nat.lt_or_eq_of_le hq with z | z
  · have z1 := h3 q (Nat.le_refl q) (by omega)
    have z2 := hs q j z hj
    rw [e] at z2
    exact absurd z2 z1
  · subst z
    exact ⟨hj, e⟩
theorem half_lt {a b : Nat} (h : a < b) : a ≤ (a + b) / 2 ∧ (a + b) / 2 < b := by omega
theorem int_m1_ne (k : Nat) (h : k < 2 ^ 31) : ¬ nI k = -1 := fun e => by
  have h1 := nI_toInt h
  rw [e] at h1
  have h2 : (-1 : Int32).toInt = -1 := by decide
  rw [h2] at h1
  omega
theorem Srt.dn {ids : Nat → Int32} {cnt q : Nat} {v : Int32} (hs : Srt ids cnt) (hq : q < cnt) (h : ids q < v) : ∀ j, j < q + 1 → ids j < v := fun j hj => by
  rcases Nat.lt_or_eq_of_le (Nat.lt_succ_iff.mp hj) with z | z
  · exact i32_trans (hs j q z hq) h
  · rw [z]; exact h
theorem Srt.up {ids : Nat → Int32} {cnt q : Nat} {v : Int32} (hs : Srt ids cnt) (h : ¬ ids q < v) : ∀ j, q ≤ j → j < cnt → ¬ ids j < v := fun j hj hj2 z => by
  rcases Nat.lt_or_eq_of_le hj with y | y
  · exact h (i32_trans (hs q j y hj2) z)
  · rw [y] at h; exact h z
/-- the row of an element -/
def Row (L : Nat → Int32) (n : Nat) (e : Int32) (r : Int32) : Prop := (∃ k, k < n ∧ L k = e ∧ (∀ j, j < k → ¬ L j = e) ∧ r = nI k) ∨ ((∀ k, k < n → ¬ L k = e) ∧ r = -1)
end
section
set_option maxHeartbeats 4000000 in
set_option maxRecDepth 100000 in
theorem c_X0_isVisible (l : Launch) {D : va_G} {b : Nat} {fv : Nat → Int32}   : Met l yX0_isVisible (gws yX0_isVisible cX0_isVisible 1 (some .boolean)) { frames := 0, cells := 0, slots := 0, locals := 0 } (va_Pc [.ref b] (fun U => RdE D b fv U U.heap)) (vp_Si (fun r => (fv 5 = 0 ∧ r = 1) ∨ (¬ fv 5 = 0 ∧ r = 0))) 0 0 (fun _ => False) := by
  refine met_go (by decide) (Nat.le_of_ble_eq_true rfl) ?_
  intro p e s m below meth c ls S hr hlocks hnm hE hl
  obtain ⟨hx, hb, hml, hown, hg⟩ := id S
  have hl : lv_has ls 1 [(0, .ref b)] := hl
  refine lv_aload_n hx hb dX0_isVisible_0 rfl (lv_at hl 0 rfl) ?_
  refine rE_removes S hE dX0_isVisible_1 ?_
  refine lv_if_ne (tgt := 11) hx hb dX0_isVisible_4 (by decide) (fun c_4 => ?_) (fun c_4 => ?_)
  · refine lv_iconst (v := 0) hx hb dX0_isVisible_11 (by decide) ?_
    exact W.zret (v := 0) hx hb hr rfl (fun t9 ht9 _ => ⟨_, rfl, Or.inr ⟨c_4, rfl⟩, ht9⟩) (fun _ h => nomatch h) dX0_isVisible_12
  · refine lv_iconst (v := 1) hx hb dX0_isVisible_7 (by decide) ?_
    refine lv_goto (tgt := 12) hx hb dX0_isVisible_8 (by decide) ?_
    exact W.zret (v := 1) hx hb hr rfl (fun t9 ht9 _ => ⟨_, rfl, Or.inl ⟨c_4, rfl⟩, ht9⟩) (fun _ h => nomatch h) dX0_isVisible_12
set_option maxHeartbeats 4000000 in
set_option maxRecDepth 100000 in
theorem c_X1_firstNotBelow (l : Launch) {D : va_G} {u i cnt : Nat} {ids : Nat → Int32} (v1 : Int32) (hs : Srt ids cnt) : Met l yX1_firstNotBelow (gws yX1_firstNotBelow cX1_firstNotBelow 5 (some .int)) { frames := 0, cells := 0, slots := 0, locals := 0 } (va_Pc [.ref u, .int v1] (fun U => RdU D u i cnt ids U U.heap)) (vp_Si (fun r => ∃ q, Fnb ids cnt v1 q ∧ r = nI q)) 0 0 (fun _ => False) := by
  refine met_go (by decide) (Nat.le_of_ble_eq_true rfl) ?_
  intro p e s m below meth c ls S hr hlocks hnm hU hl
  obtain ⟨hx, hb, hml, hown, hg⟩ := id S
  have hl : lv_has ls 5 [(0, .ref u), (1, .int v1)] := hl
  obtain ⟨_, _, _, _, hn⟩ := id hU
  refine lv_iconst (v := nI 0) hx hb dX1_firstNotBelow_0 (by decide) ?_
  refine lv_istore_n (lv' := [(2, .int (nI 0)), (0, .ref u), (1, .int v1)]) hx hb dX1_firstNotBelow_1 rfl hl (by decide) rfl (fun ls hl => ?_)
  refine lv_aload_n hx hb dX1_firstNotBelow_2 rfl (lv_at hl 1 rfl) ?_
  refine rU_count S hU dX1_firstNotBelow_3 ?_
  refine lv_istore_n (lv' := [(3, .int (nI cnt)), (2, .int (nI 0)), (0, .ref u), (1, .int v1)]) hx hb dX1_firstNotBelow_6 rfl hl (by decide) rfl (fun ls hl => ?_)
  suffices hloop : ∀ (fuel : Nat) (a b : Nat), a ≤ b → b ≤ cnt → b - a < fuel → (∀ j, j < a → ids j < v1) → (∀ j, b ≤ j → j < cnt → ¬ ids j < v1) → ∀ ls : Array Slot, lv_has ls 5 [(2, .int (nI a)), (3, .int (nI b)), (0, .ref u), (1, .int v1)] → W p l e { frames := 0, cells := 0, slots := 0, locals := 0 } s m [.ref u, .int v1].toArray below meth c s.heap [] 0 0 (MQ below (vp_Si (fun r => ∃ q, Fnb ids cnt v1 q ∧ r = nI q)) [.ref u, .int v1].toArray s 0 0 (fun _ => False)) (F0 m 7 ls []) from hloop (cnt + 1) 0 cnt (by omega) (by omega) (by omega) (fun _ h => absurd h (Nat.not_lt_zero _)) (fun _ h h2 => absurd h2 (by omega))  ls (lv_sub hl [1, 0, 2, 3] rfl)
  intro fuel
  induction fuel with
  | zero => intro a b hab hbc hf hA hB; omega
  | succ fuel ih =>
    intro a b hab hbc hf hA hB  ls hl
    refine lv_iload_n hx hb dX1_firstNotBelow_7 rfl (lv_at hl 0 rfl) ?_
    refine lv_iload_n hx hb dX1_firstNotBelow_8 rfl (lv_at hl 1 rfl) ?_
    refine lv_icmp_ge (tgt := 44) hx hb dX1_firstNotBelow_9 (by decide) (fun c_9 => ?_) (fun c_9 => ?_)
    · rw [nI_leI (by omega) (by omega)] at c_9
      refine lv_iload_n hx hb dX1_firstNotBelow_44 rfl (lv_at hl 0 rfl) ?_
      exact W.iret (v := (nI a)) hx hb hr (fun t9 ht9 _ => ⟨_, rfl, ⟨a, ⟨by omega, hA, fun j hj hj2 => hB j (by omega) hj2⟩, rfl⟩, ht9⟩) (fun _ h => nomatch h) dX1_firstNotBelow_45
    · rw [nI_leI (by omega) (by omega)] at c_9
      refine lv_iload_n hx hb dX1_firstNotBelow_12 rfl (lv_at hl 0 rfl) ?_
      refine lv_iload_n hx hb dX1_firstNotBelow_13 rfl (lv_at hl 1 rfl) ?_
      refine lv_iadd hx hb dX1_firstNotBelow_14 ?_
      refine lv_iconst (v := nI 2) hx hb dX1_firstNotBelow_15 (by decide) ?_
      refine lv_idiv hx hb dX1_firstNotBelow_16 (by decide) ?_
      rw [nI_add, show (nI 2 : Int32) = nI 2 from rfl, pk_div (by omega) (by omega) (by omega)]
      obtain ⟨q, hq⟩ : ∃ q, q = (a + b) / 2 := ⟨_, rfl⟩
      rw [← hq]
      refine lv_istore (lv' := [(4, .int (nI q)), (2, .int (nI a)), (3, .int (nI b)), (0, .ref u), (1, .int v1)]) hx hb dX1_firstNotBelow_17 hl (by decide) rfl (fun ls hl => ?_)
      refine lv_aload_n hx hb dX1_firstNotBelow_19 rfl (lv_at hl 3 rfl) ?_
      refine rU_ids S hU dX1_firstNotBelow_20 ?_
      refine lv_iload hx hb dX1_firstNotBelow_23 (lv_at hl 0 rfl) ?_
      refine rU_ald S hU (by omega) dX1_firstNotBelow_25 ?_
      refine lv_iload_n hx hb dX1_firstNotBelow_26 rfl (lv_at hl 4 rfl) ?_
      refine lv_icmp_ge (tgt := 38) hx hb dX1_firstNotBelow_27 (by decide) (fun c_27 => ?_) (fun c_27 => ?_)
      · refine lv_iload hx hb dX1_firstNotBelow_38 (lv_at hl 0 rfl) ?_
        refine lv_istore_n (lv' := [(3, .int (nI q)), (4, .int (nI q)), (2, .int (nI a)), (0, .ref u), (1, .int v1)]) hx hb dX1_firstNotBelow_40 rfl hl (by decide) rfl (fun ls hl => ?_)
        refine lv_goto (tgt := 7) hx hb dX1_firstNotBelow_41 (by decide) ?_
        exact ih a q (by omega) (by omega) (by omega) hA (hs.up (i32_nlt.mpr c_27))  ls (lv_sub hl [2, 0, 3, 4] rfl)
      · refine lv_iload hx hb dX1_firstNotBelow_30 (lv_at hl 0 rfl) ?_
        refine lv_iconst (v := nI 1) hx hb dX1_firstNotBelow_32 (by decide) ?_
        refine lv_iadd hx hb dX1_firstNotBelow_33 ?_
        rw [nI_add]
        refine lv_istore_n (lv' := [(2, .int (nI (q + 1))), (4, .int (nI q)), (3, .int (nI b)), (0, .ref u), (1, .int v1)]) hx hb dX1_firstNotBelow_34 rfl hl (by decide) rfl (fun ls hl => ?_)
        refine lv_goto (tgt := 41) hx hb dX1_firstNotBelow_35 (by decide) ?_
        refine lv_goto (tgt := 7) hx hb dX1_firstNotBelow_41 (by decide) ?_
        exact ih (q + 1) b (by omega) (by omega) (by omega) (hs.dn (by omega) (i32_nle.mp c_27)) hB  ls (lv_sub hl [0, 2, 3, 4] rfl)
set_option maxHeartbeats 4000000 in
set_option maxRecDepth 100000 in
theorem c_X1_has (l : Launch) {D : va_G} {u i cnt : Nat} {ids : Nat → Int32} (v1 : Int32) (hs : Srt ids cnt) : Met l yX1_has (gws yX1_has cX1_has 3 (some .boolean)) { frames := 1, cells := 0, slots := 0, locals := 24 } (va_Pc [.ref u, .int v1] (fun U => RdU D u i cnt ids U U.heap)) (vp_Si (fun r => ((∃ j, j < cnt ∧ ids j = v1) ∧ r = 1) ∨ ((¬ ∃ j, j < cnt ∧ ids j = v1) ∧ r = 0))) 0 0 (fun _ => False) := by
  refine met_go (by decide) (Nat.le_of_ble_eq_true rfl) ?_
  intro p e s m below meth c ls S hr hlocks hnm hU hl
  obtain ⟨hx, hb, hml, hown, hg⟩ := id S
  have hl : lv_has ls 3 [(0, .ref u), (1, .int v1)] := hl
  obtain ⟨_, _, _, _, hn⟩ := id hU
  refine lv_aload_n hx hb dX1_has_0 rfl (lv_at hl 0 rfl) ?_
  refine lv_iload_n hx hb dX1_has_1 rfl (lv_at hl 1 rfl) ?_
  refine vp_callSi (va_Run.run (runV (As := [.int v1]) (rest := []) (Bh := RdU D u i cnt ids) S (c_X1_firstNotBelow l v1 hs) (gw_V wk_127 wk_129 wp_6 wk_2 wk_130) rfl rfl 1 rfl (by decide +kernel) (by decide) ⟨Nat.le_refl _, Nat.le_refl _⟩ (fun _ _ _ h q => RdU.mv h q) hU.recv hU hl.1 (Nat.le_of_ble_eq_true rfl) dX1_has_2)) (fun r_2 hr_2 => ?_)
  obtain ⟨q, hq, rfl⟩ := hr_2
  have hqc := hq.1
  refine lv_istore_n (lv' := [(2, .int (nI q)), (0, .ref u), (1, .int v1)]) hx hb dX1_has_5 rfl hl (by decide) rfl (fun ls hl => ?_)
  refine lv_iload_n hx hb dX1_has_6 rfl (lv_at hl 0 rfl) ?_
  refine lv_aload_n hx hb dX1_has_7 rfl (lv_at hl 1 rfl) ?_
  refine rU_count S hU dX1_has_8 ?_
  refine lv_icmp_ge (tgt := 28) hx hb dX1_has_11 (by decide) (fun c_11 => ?_) (fun c_11 => ?_)
  · rw [nI_leI (by omega) (by omega)] at c_11
    refine lv_iconst (v := 0) hx hb dX1_has_28 (by decide) ?_
    exact W.zret (v := 0) hx hb hr rfl (fun t9 ht9 _ => ⟨_, rfl, Or.inr ⟨fun z => absurd (hq.has z hs).1 (by omega), rfl⟩, ht9⟩) (fun _ h => nomatch h) dX1_has_29
  · rw [nI_leI (by omega) (by omega)] at c_11
    refine lv_aload_n hx hb dX1_has_14 rfl (lv_at hl 1 rfl) ?_
    refine rU_ids S hU dX1_has_15 ?_
    refine lv_iload_n hx hb dX1_has_18 rfl (lv_at hl 0 rfl) ?_
    refine rU_ald S hU (by omega) dX1_has_19 ?_
    refine lv_iload_n hx hb dX1_has_20 rfl (lv_at hl 2 rfl) ?_
    refine lv_icmp_ne (tgt := 28) hx hb dX1_has_21 (by decide) (fun c_21 => ?_) (fun c_21 => ?_)
    · refine lv_iconst (v := 0) hx hb dX1_has_28 (by decide) ?_
      exact W.zret (v := 0) hx hb hr rfl (fun t9 ht9 _ => ⟨_, rfl, Or.inr ⟨fun z => c_21 (hq.has z hs).2, rfl⟩, ht9⟩) (fun _ h => nomatch h) dX1_has_29
    · refine lv_iconst (v := 1) hx hb dX1_has_24 (by decide) ?_
      refine lv_goto (tgt := 29) hx hb dX1_has_25 (by decide) ?_
      exact W.zret (v := 1) hx hb hr rfl (fun t9 ht9 _ => ⟨_, rfl, Or.inl ⟨⟨q, by omega, c_21⟩, rfl⟩, ht9⟩) (fun _ h => nomatch h) dX1_has_29
set_option maxHeartbeats 4000000 in
set_option maxRecDepth 100000 in
theorem c_X1_greatest (l : Launch) {D : va_G} {u i cnt : Nat} {ids : Nat → Int32}   : Met l yX1_greatest (gws yX1_greatest cX1_greatest 1 (some .int)) { frames := 0, cells := 0, slots := 0, locals := 0 } (va_Pc [.ref u] (fun U => RdU D u i cnt ids U U.heap)) (vp_Si (fun r => (cnt = 0 ∧ r = -1) ∨ (0 < cnt ∧ r = ids (cnt - 1)))) 0 0 (fun _ => False) := by
  refine met_go (by decide) (Nat.le_of_ble_eq_true rfl) ?_
  intro p e s m below meth c ls S hr hlocks hnm hU hl
  obtain ⟨hx, hb, hml, hown, hg⟩ := id S
  have hl : lv_has ls 1 [(0, .ref u)] := hl
  obtain ⟨_, _, _, _, hn⟩ := id hU
  refine lv_aload_n hx hb dX1_greatest_0 rfl (lv_at hl 0 rfl) ?_
  refine rU_count S hU dX1_greatest_1 ?_
  refine lv_if_ne (tgt := 11) hx hb dX1_greatest_4 (by decide) (fun c_4 => ?_) (fun c_4 => ?_)
  · have hc0 : cnt ≠ 0 := fun z => c_4 (by rw [z]; rfl)
    refine lv_aload_n hx hb dX1_greatest_11 rfl (lv_at hl 0 rfl) ?_
    refine rU_ids S hU dX1_greatest_12 ?_
    refine lv_aload_n hx hb dX1_greatest_15 rfl (lv_at hl 0 rfl) ?_
    refine rU_count S hU dX1_greatest_16 ?_
    refine lv_iconst (v := 1) hx hb dX1_greatest_19 (by decide) ?_
    refine lv_isub hx hb dX1_greatest_20 ?_
    rw [show (1 : Int32) = nI 1 from rfl, pk_sub (by omega)]
    refine rU_ald S hU (by omega) dX1_greatest_21 ?_
    exact W.iret (v := (ids (cnt - 1))) hx hb hr (fun t9 ht9 _ => ⟨_, rfl, Or.inr ⟨by omega, rfl⟩, ht9⟩) (fun _ h => nomatch h) dX1_greatest_22
  · refine lv_iconst (v := (-1)) hx hb dX1_greatest_7 (by decide) ?_
    refine lv_goto (tgt := 22) hx hb dX1_greatest_8 (by decide) ?_
    exact W.iret (v := (-1)) hx hb hr (fun t9 ht9 _ => ⟨_, rfl, Or.inl ⟨Nat.eq_zero_of_not_pos (fun z => nI_ne0 z (by omega) c_4), rfl⟩, ht9⟩) (fun _ h => nomatch h) dX1_greatest_22
end
section
/-! pure words for the rows -/
def El (L : Nat → Int32) (ad : Nat → Nat) (n : Nat) (v : Int32) (r : Option Nat) : Prop := (∃ k, k < n ∧ L k = v ∧ r = some (ad k)) ∨ ((∀ k, k < n → ¬ L k = v) ∧ r = none)
def Fre (ids : Nat → Int32) (cnt : Nat) (v : Int32) : Prop := ¬ v < 8 ∧ ¬ 800007 < v ∧ ¬ ∃ j, j < cnt ∧ ids j = v
def mxw (g : Nat → Int32) : Nat → Int32
  | 0 => 0
  | k + 1 => if mxw g k < g k then g k else mxw g k
def smt (g kd vl : Nat → Int32) (v1 v2 : Int32) : Nat → Int64
  | 0 => 0
  | k + 1 => smt g kd vl v1 v2 k + (if g k = 0 ∧ v1 ≤ nI (vis g k) ∧ nI (vis g k) < v2 ∧ kd k = 2 then (vl k).toInt64 else 0)
theorem vis_mono (g : Nat → Int32) {a b : Nat} (h : a ≤ b) : vis g a ≤ vis g b := by
  induction b with
  | zero => rw [Nat.le_zero.mp h]; exact Nat.le_refl _
  | succ b ih =>
    rcases Nat.lt_or_eq_of_le h with q | q
    · exact Nat.le_trans (ih (by omega)) (by rw [vis]; omega)
    · rw [q]; exact Nat.le_refl _
theorem i64_z (a : Int64) : a + 0 = a := by simp
theorem smt_stop {g kd vl : Nat → Int32} {v1 v2 : Int32} {a b : Nat} (hab : a ≤ b) (hb : b < 2 ^ 31) (h : v2 ≤ nI (vis g a)) : smt g kd vl v1 v2 b = smt g kd vl v1 v2 a := by
  induction b with
  | zero => rw [Nat.le_zero.mp hab]
  | succ b ih =>
    rcases Nat.lt_or_eq_of_le hab with q | q
    · rw [smt, ih (by omega) (by omega), if_neg, i64_z]
      intro z
      have h1 := vis_mono g (show a ≤ b by omega)
      have h2 := vis_le g b
      have h3 := nI_le h1 (by omega)
      rw [Int32.le_iff_toInt_le] at h h3
      have h4 := z.2.2.1
      rw [Int32.lt_iff_toInt_lt] at h4
      omega
    · rw [q]
theorem vis_s {g : Nat → Int32} {k q : Nat} (hq : q = vis g k) (h : g k = 0) : q + 1 = vis g (k + 1) := by rw [vis, if_pos h, hq]
theorem vis_n {g : Nat → Int32} {k q : Nat} (hq : q = vis g k) (h : ¬ g k = 0) : q = vis g (k + 1) := by rw [vis, if_neg h, hq]; rfl
def At (L g : Nat → Int32) (ad : Nat → Nat) (n : Nat) (v : Int32) (r : Option Nat) : Prop := (∃ k, k < n ∧ g k = 0 ∧ nI (vis g k) = v ∧ r = some (ad k)) ∨ ((∀ k, k < n → g k = 0 → ¬ nI (vis g k) = v) ∧ r = none)
set_option maxHeartbeats 4000000 in
set_option maxRecDepth 100000 in
theorem c_X2_rowOf (l : Launch) {D : va_G} {x u i g w n cn cnt : Nat} {ids : Nat → Int32} {ad : Nat → Nat} {f : Nat → Nat → Int32} (v1 : Int32)  : Met l yX2_rowOf (gws yX2_rowOf cX2_rowOf 3 (some .int)) { frames := 0, cells := 0, slots := 0, locals := 0 } (va_Pc [.ref x, .int v1] (fun U => RdC D x u i g w n cn cnt ids ad f U U.heap)) (vp_Si (fun r => Row (fun k => f (ad k) 0) n v1 r)) 0 0 (fun _ => False) := by
  refine met_go (by decide) (Nat.le_of_ble_eq_true rfl) ?_
  intro p e s m below meth c ls S hr hlocks hnm hC hl
  obtain ⟨hx, hb, hml, hown, hg⟩ := id S
  have hl : lv_has ls 3 [(0, .ref x), (1, .int v1)] := hl
  have hn := hC.n
  refine lv_iconst (v := nI 0) hx hb dX2_rowOf_0 (by decide) ?_
  refine lv_istore_n (lv' := [(2, .int (nI 0)), (0, .ref x), (1, .int v1)]) hx hb dX2_rowOf_1 rfl hl (by decide) rfl (fun ls hl => ?_)
  suffices hloop : ∀ (fuel : Nat) (k : Nat), k ≤ n → n - k < fuel → (∀ j, j < k → ¬ f (ad j) 0 = v1) → ∀ ls : Array Slot, lv_has ls 3 [(2, .int (nI k)), (0, .ref x), (1, .int v1)] → W p l e { frames := 0, cells := 0, slots := 0, locals := 0 } s m [.ref x, .int v1].toArray below meth c s.heap [] 0 0 (MQ below (vp_Si (fun r => Row (fun k => f (ad k) 0) n v1 r)) [.ref x, .int v1].toArray s 0 0 (fun _ => False)) (F0 m 2 ls []) from hloop (n + 1) 0 (by omega) (by omega) (fun _ h => absurd h (Nat.not_lt_zero _))  ls (lv_sub hl [0, 1, 2] rfl)
  intro fuel
  induction fuel with
  | zero => intro k hk hf hI; omega
  | succ fuel ih =>
    intro k hk hf hI  ls hl
    refine lv_iload_n hx hb dX2_rowOf_2 rfl (lv_at hl 0 rfl) ?_
    refine lv_aload_n hx hb dX2_rowOf_3 rfl (lv_at hl 1 rfl) ?_
    refine rC_elements S hC dX2_rowOf_4 ?_
    refine lv_icmp_ge (tgt := 31) hx hb dX2_rowOf_7 (by decide) (fun c_7 => ?_) (fun c_7 => ?_)
    · rw [nI_leI (by omega) (by omega)] at c_7
      refine lv_iconst (v := (-1)) hx hb dX2_rowOf_31 (by decide) ?_
      exact W.iret (v := (-1)) hx hb hr (fun t9 ht9 _ => ⟨_, rfl, Or.inr ⟨fun j hj => hI j (by omega), rfl⟩, ht9⟩) (fun _ h => nomatch h) dX2_rowOf_32
    · rw [nI_leI (by omega) (by omega)] at c_7
      refine lv_aload_n hx hb dX2_rowOf_10 rfl (lv_at hl 1 rfl) ?_
      refine rC_woven S hC dX2_rowOf_11 ?_
      refine lv_iload_n hx hb dX2_rowOf_14 rfl (lv_at hl 0 rfl) ?_
      refine rC_ald S hC (by omega) dX2_rowOf_15 ?_
      refine rN_id S (hC.E (Or.inr ⟨_, (by omega), rfl⟩)) hC.nw dX2_rowOf_16 ?_
      refine lv_iload_n hx hb dX2_rowOf_19 rfl (lv_at hl 2 rfl) ?_
      refine lv_icmp_ne (tgt := 25) hx hb dX2_rowOf_20 (by decide) (fun c_20 => ?_) (fun c_20 => ?_)
      · refine lv_iinc (v := nI (k + 1)) (lv' := [(2, .int (nI (k + 1))), (0, .ref x), (1, .int v1)]) hx hb dX2_rowOf_25 hl (k := 0) rfl (nI_1 _) (by decide) rfl (fun ls hl => ?_)
        refine lv_goto (tgt := 2) hx hb dX2_rowOf_28 (by decide) ?_
        exact ih (k + 1) (by omega) (by omega) (lt_s hI c_20)  ls (lv_sub hl [0, 1, 2] rfl)
      · refine lv_iload_n hx hb dX2_rowOf_23 rfl (lv_at hl 0 rfl) ?_
        exact W.iret (v := (nI k)) hx hb hr (fun t9 ht9 _ => ⟨_, rfl, Or.inl ⟨k, by omega, c_20, hI, rfl⟩, ht9⟩) (fun _ h => nomatch h) dX2_rowOf_24
set_option maxHeartbeats 4000000 in
set_option maxRecDepth 100000 in
theorem c_X2_elementOf (l : Launch) {D : va_G} {x u i g w n cn cnt : Nat} {ids : Nat → Int32} {ad : Nat → Nat} {f : Nat → Nat → Int32} (v1 : Int32)  : Met l yX2_elementOf (gws yX2_elementOf cX2_elementOf 3 (some (.object "ListWeave$Element"))) { frames := 1, cells := 0, slots := 0, locals := 22 } (va_Pc [.ref x, .int v1] (fun U => RdC D x u i g w n cn cnt ids ad f U U.heap)) (va_Sq (fun r => El (fun k => f (ad k) 0) ad n v1 r)) 0 0 (fun _ => False) := by
  refine met_go (by decide) (Nat.le_of_ble_eq_true rfl) ?_
  intro p e s m below meth c ls S hr hlocks hnm hC hl
  obtain ⟨hx, hb, hml, hown, hg⟩ := id S
  have hl : lv_has ls 3 [(0, .ref x), (1, .int v1)] := hl
  have hn := hC.n
  refine lv_aload_n hx hb dX2_elementOf_0 rfl (lv_at hl 0 rfl) ?_
  refine lv_iload_n hx hb dX2_elementOf_1 rfl (lv_at hl 1 rfl) ?_
  refine vp_callSi (va_Run.run (runV (As := [.int v1]) (rest := []) (Bh := RdC D x u i g w n cn cnt ids ad f) S (c_X2_rowOf l v1) (gw_V wk_114 wk_116 wp_3 wk_1 wk_117) rfl rfl 1 rfl (by decide +kernel) (by decide) ⟨Nat.le_refl _, Nat.le_refl _⟩ (fun _ _ _ h q => RdC.mv h q) hC.recv hC hl.1 (Nat.le_of_ble_eq_true rfl) dX2_elementOf_2)) (fun r hr => ?_)
  rcases hr with ⟨k_2, hk_2, he_2, hf_2, rfl⟩ | ⟨hn_2, rfl⟩
  · refine lv_istore_n (lv' := [(2, .int (nI k_2)), (0, .ref x), (1, .int v1)]) hx hb dX2_elementOf_5 rfl hl (by decide) rfl (fun ls hl => ?_)
    refine lv_iload_n hx hb dX2_elementOf_6 rfl (lv_at hl 0 rfl) ?_
    refine lv_iconst (v := (-1)) hx hb dX2_elementOf_7 (by decide) ?_
    refine lv_icmp_ne (tgt := 15) hx hb dX2_elementOf_8 (by decide) (fun c_8 => ?_) (fun c_8 => ?_)
    · refine lv_aload_n hx hb dX2_elementOf_15 rfl (lv_at hl 1 rfl) ?_
      refine rC_woven S hC dX2_elementOf_16 ?_
      refine lv_iload_n hx hb dX2_elementOf_19 rfl (lv_at hl 0 rfl) ?_
      refine rC_ald S hC hk_2 dX2_elementOf_20 ?_
      exact W.aret (v := .ref (ad k_2)) hx hb hr (Or.inl ⟨_, rfl⟩) (Or.inr ⟨_, rfl⟩) (fun t9 ht9 _ => ⟨some (ad k_2), rfl, Or.inl ⟨k_2, hk_2, he_2, rfl⟩, ht9⟩) (fun _ h => nomatch h) dX2_elementOf_21
    · exact absurd c_8 (int_m1_ne _ (by omega))
  · refine lv_istore_n (lv' := [(2, .int (-1)), (0, .ref x), (1, .int v1)]) hx hb dX2_elementOf_5 rfl hl (by decide) rfl (fun ls hl => ?_)
    refine lv_iload_n hx hb dX2_elementOf_6 rfl (lv_at hl 0 rfl) ?_
    refine lv_iconst (v := (-1)) hx hb dX2_elementOf_7 (by decide) ?_
    refine lv_icmp_ne (tgt := 15) hx hb dX2_elementOf_8 (by decide) (fun c_8 => ?_) (fun c_8 => ?_)
    · exact absurd (show _ from c_8) (by decide)
    · refine lv_null hx hb dX2_elementOf_11 ?_
      refine lv_goto (tgt := 21) hx hb dX2_elementOf_12 (by decide) ?_
      exact W.aret (v := .null) hx hb hr (Or.inl ⟨_, rfl⟩) (Or.inl rfl) (fun t9 ht9 _ => ⟨none, rfl, Or.inr ⟨hn_2, rfl⟩, ht9⟩) (fun _ h => nomatch h) dX2_elementOf_21
set_option maxHeartbeats 4000000 in
set_option maxRecDepth 100000 in
theorem c_X2_elementOrBeginning (l : Launch) {D : va_G} {x u i g w n cn cnt : Nat} {ids : Nat → Int32} {ad : Nat → Nat} {f : Nat → Nat → Int32} (v1 : Int32)  : Met l yX2_elementOrBeginning (gws yX2_elementOrBeginning cX2_elementOrBeginning 2 (some (.object "ListWeave$Element"))) { frames := 2, cells := 0, slots := 0, locals := 44 } (va_Pc [.ref x, .int v1] (fun U => RdC D x u i g w n cn cnt ids ad f U U.heap)) (va_Sq (fun r => (v1 = 0 ∧ r = some g) ∨ (¬ v1 = 0 ∧ El (fun k => f (ad k) 0) ad n v1 r))) 0 0 (fun _ => False) := by
  refine met_go (by decide) (Nat.le_of_ble_eq_true rfl) ?_
  intro p e s m below meth c ls S hr hlocks hnm hC hl
  obtain ⟨hx, hb, hml, hown, hg⟩ := id S
  have hl : lv_has ls 2 [(0, .ref x), (1, .int v1)] := hl
  have hn := hC.n
  refine lv_iload_n hx hb dX2_elementOrBeginning_0 rfl (lv_at hl 1 rfl) ?_
  refine lv_if_ne (tgt := 11) hx hb dX2_elementOrBeginning_1 (by decide) (fun c_1 => ?_) (fun c_1 => ?_)
  · refine lv_aload_n hx hb dX2_elementOrBeginning_11 rfl (lv_at hl 0 rfl) ?_
    refine lv_iload_n hx hb dX2_elementOrBeginning_12 rfl (lv_at hl 1 rfl) ?_
    refine va_csq (va_Run.run (runV (As := [.int v1]) (rest := []) (Bh := RdC D x u i g w n cn cnt ids ad f) S (c_X2_elementOf l v1) (gw_V wk_110 wk_112 wp_2 wk_1 wk_113) rfl rfl 1 rfl (by decide +kernel) (by decide) ⟨Nat.le_refl _, Nat.le_refl _⟩ (fun _ _ _ h q => RdC.mv h q) hC.recv hC hl.1 (Nat.le_of_ble_eq_true rfl) dX2_elementOrBeginning_13)) (fun r hr => ?_)
    rcases hr with ⟨k_13, hk_13, he_13, rfl⟩ | ⟨hn_13, rfl⟩
    · show W p l e { frames := 2, cells := 0, slots := 0, locals := 44 } s m [.ref x, .int v1].toArray below meth c s.heap [] 0 0 (MQ below (va_Sq (fun r => (v1 = 0 ∧ r = some g) ∨ (¬ v1 = 0 ∧ El (fun k => f (ad k) 0) ad n v1 r))) [.ref x, .int v1].toArray s 0 0 (fun _ => False)) (F0 m 16 ls [.ref (ad k_13)])
      exact W.aret (v := .ref (ad k_13)) hx hb hr (Or.inl ⟨_, rfl⟩) (Or.inr ⟨_, rfl⟩) (fun t9 ht9 _ => ⟨some (ad k_13), rfl, Or.inr ⟨c_1, Or.inl ⟨k_13, hk_13, he_13, rfl⟩⟩, ht9⟩) (fun _ h => nomatch h) dX2_elementOrBeginning_16
    · show W p l e { frames := 2, cells := 0, slots := 0, locals := 44 } s m [.ref x, .int v1].toArray below meth c s.heap [] 0 0 (MQ below (va_Sq (fun r => (v1 = 0 ∧ r = some g) ∨ (¬ v1 = 0 ∧ El (fun k => f (ad k) 0) ad n v1 r))) [.ref x, .int v1].toArray s 0 0 (fun _ => False)) (F0 m 16 ls [.null])
      exact W.aret (v := .null) hx hb hr (Or.inl ⟨_, rfl⟩) (Or.inl rfl) (fun t9 ht9 _ => ⟨none, rfl, Or.inr ⟨c_1, Or.inr ⟨hn_13, rfl⟩⟩, ht9⟩) (fun _ h => nomatch h) dX2_elementOrBeginning_16
  · refine lv_aload_n hx hb dX2_elementOrBeginning_4 rfl (lv_at hl 0 rfl) ?_
    refine rC_beginning S hC dX2_elementOrBeginning_5 ?_
    refine lv_goto (tgt := 16) hx hb dX2_elementOrBeginning_8 (by decide) ?_
    exact W.aret (v := .ref g) hx hb hr (Or.inl ⟨_, rfl⟩) (Or.inr ⟨_, rfl⟩) (fun t9 ht9 _ => ⟨some g, rfl, Or.inl ⟨c_1, rfl⟩, ht9⟩) (fun _ h => nomatch h) dX2_elementOrBeginning_16
set_option maxHeartbeats 4000000 in
set_option maxRecDepth 100000 in
theorem c_X2_visibleUpTo (l : Launch) {D : va_G} {x u i g w n cn cnt : Nat} {ids : Nat → Int32} {ad : Nat → Nat} {f : Nat → Nat → Int32} (E : Nat) (hE : E ≤ n) : Met l yX2_visibleUpTo (gws yX2_visibleUpTo cX2_visibleUpTo 4 (some .int)) { frames := 1, cells := 0, slots := 0, locals := 20 } (va_Pc [.ref x, .int (nI E)] (fun U => RdC D x u i g w n cn cnt ids ad f U U.heap)) (vp_Si (fun r => r = nI (vis (fun k => f (ad k) 5) E))) 0 0 (fun _ => False) := by
  refine met_go (by decide) (Nat.le_of_ble_eq_true rfl) ?_
  intro p e s m below meth c ls S hr hlocks hnm hC hl
  obtain ⟨hx, hb, hml, hown, hg⟩ := id S
  have hl : lv_has ls 4 [(0, .ref x), (1, .int (nI E))] := hl
  have hn := hC.n
  refine lv_iconst (v := nI 0) hx hb dX2_visibleUpTo_0 (by decide) ?_
  refine lv_istore_n (lv' := [(2, .int (nI 0)), (0, .ref x), (1, .int (nI E))]) hx hb dX2_visibleUpTo_1 rfl hl (by decide) rfl (fun ls hl => ?_)
  refine lv_iconst (v := nI 0) hx hb dX2_visibleUpTo_2 (by decide) ?_
  refine lv_istore_n (lv' := [(3, .int (nI 0)), (2, .int (nI 0)), (0, .ref x), (1, .int (nI E))]) hx hb dX2_visibleUpTo_3 rfl hl (by decide) rfl (fun ls hl => ?_)
  suffices hloop : ∀ (fuel : Nat) (k q : Nat), k ≤ E → E - k < fuel → q = vis (fun k => f (ad k) 5) k → ∀ ls : Array Slot, lv_has ls 4 [(3, .int (nI k)), (2, .int (nI q)), (0, .ref x), (1, .int (nI E))] → W p l e { frames := 1, cells := 0, slots := 0, locals := 20 } s m [.ref x, .int (nI E)].toArray below meth c s.heap [] 0 0 (MQ below (vp_Si (fun r => r = nI (vis (fun k => f (ad k) 5) E))) [.ref x, .int (nI E)].toArray s 0 0 (fun _ => False)) (F0 m 4 ls []) from hloop (E + 1) 0 0 (by omega) (by omega) rfl  ls (lv_sub hl [0, 1, 2, 3] rfl)
  intro fuel
  induction fuel with
  | zero => intro k q hk hf hq; omega
  | succ fuel ih =>
    intro k q hk hf hq  ls hl
    refine lv_iload_n hx hb dX2_visibleUpTo_4 rfl (lv_at hl 0 rfl) ?_
    refine lv_iload_n hx hb dX2_visibleUpTo_5 rfl (lv_at hl 3 rfl) ?_
    refine lv_icmp_ge (tgt := 30) hx hb dX2_visibleUpTo_6 (by decide) (fun c_6 => ?_) (fun c_6 => ?_)
    · rw [nI_leI (by omega) (by omega)] at c_6
      refine lv_iload_n hx hb dX2_visibleUpTo_30 rfl (lv_at hl 1 rfl) ?_
      exact W.iret (v := (nI q)) hx hb hr (fun t9 ht9 _ => ⟨_, rfl, by rw [hq, show k = E by omega], ht9⟩) (fun _ h => nomatch h) dX2_visibleUpTo_31
    · rw [nI_leI (by omega) (by omega)] at c_6
      refine lv_aload_n hx hb dX2_visibleUpTo_9 rfl (lv_at hl 2 rfl) ?_
      refine rC_woven S hC dX2_visibleUpTo_10 ?_
      refine lv_iload_n hx hb dX2_visibleUpTo_13 rfl (lv_at hl 0 rfl) ?_
      refine rC_ald S hC (by omega) dX2_visibleUpTo_14 ?_
      refine vp_callSi (va_Run.run (runVN (As := []) (rest := []) (Bh := RdE D (ad k) (f (ad k))) S (c_X0_isVisible l ) (gw_self wk_192) (nk_189 hC.nw) wk_3 wk_191 wp_15 rfl rfl 0 rfl (by decide +kernel) (by decide) ⟨Nat.le_refl _, Nat.le_refl _⟩ (fun _ _ _ h q => RdE.mv h q) (RdE.recv (hC.E (Or.inr ⟨_, (by omega), rfl⟩))) (hC.E (Or.inr ⟨_, (by omega), rfl⟩)) hl.1 (Nat.le_of_ble_eq_true rfl) dX2_visibleUpTo_15)) (fun r hr => ?_)
      rcases hr with ⟨h_15, rfl⟩ | ⟨h_15, rfl⟩
      · refine lv_if_eq (tgt := 24) hx hb dX2_visibleUpTo_18 (by decide) (fun c_18 => ?_) (fun c_18 => ?_)
        · exact absurd (show _ from c_18) (by decide)
        · refine lv_iinc (v := nI (q + 1)) (lv' := [(2, .int (nI (q + 1))), (3, .int (nI k)), (0, .ref x), (1, .int (nI E))]) hx hb dX2_visibleUpTo_21 hl (k := 1) rfl (nI_1 _) (by decide) rfl (fun ls hl => ?_)
          refine lv_iinc (v := nI (k + 1)) (lv' := [(3, .int (nI (k + 1))), (2, .int (nI (q + 1))), (0, .ref x), (1, .int (nI E))]) hx hb dX2_visibleUpTo_24 hl (k := 1) rfl (nI_1 _) (by decide) rfl (fun ls hl => ?_)
          refine lv_goto (tgt := 4) hx hb dX2_visibleUpTo_27 (by decide) ?_
          exact ih (k + 1) (q + 1) (by omega) (by omega) (vis_s hq h_15)  ls (lv_sub hl [0, 1, 2, 3] rfl)
      · refine lv_if_eq (tgt := 24) hx hb dX2_visibleUpTo_18 (by decide) (fun c_18 => ?_) (fun c_18 => ?_)
        · refine lv_iinc (v := nI (k + 1)) (lv' := [(3, .int (nI (k + 1))), (2, .int (nI q)), (0, .ref x), (1, .int (nI E))]) hx hb dX2_visibleUpTo_24 hl (k := 0) rfl (nI_1 _) (by decide) rfl (fun ls hl => ?_)
          refine lv_goto (tgt := 4) hx hb dX2_visibleUpTo_27 (by decide) ?_
          exact ih (k + 1) q (by omega) (by omega) (vis_n hq h_15)  ls (lv_sub hl [0, 1, 2, 3] rfl)
        · exact absurd (show _ from c_18) (by decide)
set_option maxHeartbeats 4000000 in
set_option maxRecDepth 100000 in
theorem c_X2_longestWay (l : Launch) {D : va_G} {x u i g w n cn cnt : Nat} {ids : Nat → Int32} {ad : Nat → Nat} {f : Nat → Nat → Int32}   : Met l yX2_longestWay (gws yX2_longestWay cX2_longestWay 3 (some .int)) { frames := 1, cells := 0, slots := 0, locals := 24 } (va_Pc [.ref x] (fun U => RdC D x u i g w n cn cnt ids ad f U U.heap)) (vp_Si (fun r => r = mxw (fun k => f (ad k) 2) n)) 0 0 (fun _ => False) := by
  refine met_go (by decide) (Nat.le_of_ble_eq_true rfl) ?_
  intro p e s m below meth c ls S hr hlocks hnm hC hl
  obtain ⟨hx, hb, hml, hown, hg⟩ := id S
  have hl : lv_has ls 3 [(0, .ref x)] := hl
  have hn := hC.n
  refine lv_iconst (v := 0) hx hb dX2_longestWay_0 (by decide) ?_
  refine lv_istore_n (lv' := [(1, .int 0), (0, .ref x)]) hx hb dX2_longestWay_1 rfl hl (by decide) rfl (fun ls hl => ?_)
  refine lv_iconst (v := nI 0) hx hb dX2_longestWay_2 (by decide) ?_
  refine lv_istore_n (lv' := [(2, .int (nI 0)), (1, .int 0), (0, .ref x)]) hx hb dX2_longestWay_3 rfl hl (by decide) rfl (fun ls hl => ?_)
  suffices hloop : ∀ (fuel : Nat) (k : Nat) (q : Int32), k ≤ n → n - k < fuel → q = mxw (fun k => f (ad k) 2) k → ∀ ls : Array Slot, lv_has ls 3 [(2, .int (nI k)), (1, .int q), (0, .ref x)] → W p l e { frames := 1, cells := 0, slots := 0, locals := 24 } s m [.ref x].toArray below meth c s.heap [] 0 0 (MQ below (vp_Si (fun r => r = mxw (fun k => f (ad k) 2) n)) [.ref x].toArray s 0 0 (fun _ => False)) (F0 m 4 ls []) from hloop (n + 1) 0 0 (by omega) (by omega) rfl  ls (lv_sub hl [0, 1, 2] rfl)
  intro fuel
  induction fuel with
  | zero => intro k q hk hf hq; omega
  | succ fuel ih =>
    intro k q hk hf hq  ls hl
    refine lv_iload_n hx hb dX2_longestWay_4 rfl (lv_at hl 0 rfl) ?_
    refine lv_aload_n hx hb dX2_longestWay_5 rfl (lv_at hl 2 rfl) ?_
    refine rC_elements S hC dX2_longestWay_6 ?_
    refine lv_icmp_ge (tgt := 32) hx hb dX2_longestWay_9 (by decide) (fun c_9 => ?_) (fun c_9 => ?_)
    · rw [nI_leI (by omega) (by omega)] at c_9
      refine lv_iload_n hx hb dX2_longestWay_32 rfl (lv_at hl 1 rfl) ?_
      exact W.iret (v := q) hx hb hr (fun t9 ht9 _ => ⟨_, rfl, by rw [hq, show k = n by omega], ht9⟩) (fun _ h => nomatch h) dX2_longestWay_33
    · rw [nI_leI (by omega) (by omega)] at c_9
      refine lv_iload_n hx hb dX2_longestWay_12 rfl (lv_at hl 1 rfl) ?_
      refine lv_aload_n hx hb dX2_longestWay_13 rfl (lv_at hl 2 rfl) ?_
      refine rC_woven S hC dX2_longestWay_14 ?_
      refine lv_iload_n hx hb dX2_longestWay_17 rfl (lv_at hl 0 rfl) ?_
      refine rC_ald S hC (by omega) dX2_longestWay_18 ?_
      refine rN_way S (hC.E (Or.inr ⟨_, (by omega), rfl⟩)) hC.nw dX2_longestWay_19 ?_
      refine va_mmax hx hb (by rw [hml]; exact hl.1.symm) hown (hg _ wk_213) (hg _ wk_214) (hg _ wk_11) (hg _ wk_215) (by decide) (by decide) (Nat.le_refl _) (Nat.le_refl _) dX2_longestWay_22 ?_
      refine lv_istore_n (lv' := [(1, .int (if q < (f (ad k) 2) then (f (ad k) 2) else q)), (2, .int (nI k)), (0, .ref x)]) hx hb dX2_longestWay_25 rfl hl (by decide) rfl (fun ls hl => ?_)
      refine lv_iinc (v := nI (k + 1)) (lv' := [(2, .int (nI (k + 1))), (1, .int (if q < (f (ad k) 2) then (f (ad k) 2) else q)), (0, .ref x)]) hx hb dX2_longestWay_26 hl (k := 1) rfl (nI_1 _) (by decide) rfl (fun ls hl => ?_)
      refine lv_goto (tgt := 4) hx hb dX2_longestWay_29 (by decide) ?_
      exact ih (k + 1) _ (by omega) (by omega) (by rw [mxw, hq])  ls (lv_sub hl [0, 1, 2] rfl)
set_option maxHeartbeats 4000000 in
set_option maxRecDepth 100000 in
theorem c_X2_elementAt (l : Launch) {D : va_G} {x u i g w n cn cnt : Nat} {ids : Nat → Int32} {ad : Nat → Nat} {f : Nat → Nat → Int32} (v1 : Int32)  : Met l yX2_elementAt (gws yX2_elementAt cX2_elementAt 4 (some (.object "ListWeave$Element"))) { frames := 1, cells := 0, slots := 0, locals := 20 } (va_Pc [.ref x, .int v1] (fun U => RdC D x u i g w n cn cnt ids ad f U U.heap)) (va_Sq (fun r => At (fun k => f (ad k) 0) (fun k => f (ad k) 5) ad n v1 r)) 0 0 (fun _ => False) := by
  refine met_go (by decide) (Nat.le_of_ble_eq_true rfl) ?_
  intro p e s m below meth c ls S hr hlocks hnm hC hl
  obtain ⟨hx, hb, hml, hown, hg⟩ := id S
  have hl : lv_has ls 4 [(0, .ref x), (1, .int v1)] := hl
  have hn := hC.n
  refine lv_iconst (v := nI 0) hx hb dX2_elementAt_0 (by decide) ?_
  refine lv_istore_n (lv' := [(2, .int (nI 0)), (0, .ref x), (1, .int v1)]) hx hb dX2_elementAt_1 rfl hl (by decide) rfl (fun ls hl => ?_)
  refine lv_iconst (v := nI 0) hx hb dX2_elementAt_2 (by decide) ?_
  refine lv_istore_n (lv' := [(3, .int (nI 0)), (2, .int (nI 0)), (0, .ref x), (1, .int v1)]) hx hb dX2_elementAt_3 rfl hl (by decide) rfl (fun ls hl => ?_)
  suffices hloop : ∀ (fuel : Nat) (k q : Nat), k ≤ n → n - k < fuel → q = vis (fun k => f (ad k) 5) k → (∀ j, j < k → f (ad j) 5 = 0 → ¬ nI (vis (fun k => f (ad k) 5) j) = v1) → ∀ ls : Array Slot, lv_has ls 4 [(3, .int (nI k)), (2, .int (nI q)), (0, .ref x), (1, .int v1)] → W p l e { frames := 1, cells := 0, slots := 0, locals := 20 } s m [.ref x, .int v1].toArray below meth c s.heap [] 0 0 (MQ below (va_Sq (fun r => At (fun k => f (ad k) 0) (fun k => f (ad k) 5) ad n v1 r)) [.ref x, .int v1].toArray s 0 0 (fun _ => False)) (F0 m 4 ls []) from hloop (n + 1) 0 0 (by omega) (by omega) rfl (fun _ h => absurd h (Nat.not_lt_zero _))  ls (lv_sub hl [0, 1, 2, 3] rfl)
  intro fuel
  induction fuel with
  | zero => intro k q hk hf hq hI; omega
  | succ fuel ih =>
    intro k q hk hf hq hI  ls hl
    refine lv_iload_n hx hb dX2_elementAt_4 rfl (lv_at hl 0 rfl) ?_
    refine lv_aload_n hx hb dX2_elementAt_5 rfl (lv_at hl 2 rfl) ?_
    refine rC_elements S hC dX2_elementAt_6 ?_
    refine lv_icmp_ge (tgt := 48) hx hb dX2_elementAt_9 (by decide) (fun c_9 => ?_) (fun c_9 => ?_)
    · rw [nI_leI (by omega) (by omega)] at c_9
      refine lv_null hx hb dX2_elementAt_48 ?_
      exact W.aret (v := .null) hx hb hr (Or.inl ⟨_, rfl⟩) (Or.inl rfl) (fun t9 ht9 _ => ⟨none, rfl, Or.inr ⟨fun j hj => hI j (by omega), rfl⟩, ht9⟩) (fun _ h => nomatch h) dX2_elementAt_49
    · rw [nI_leI (by omega) (by omega)] at c_9
      refine lv_aload_n hx hb dX2_elementAt_12 rfl (lv_at hl 2 rfl) ?_
      refine rC_woven S hC dX2_elementAt_13 ?_
      refine lv_iload_n hx hb dX2_elementAt_16 rfl (lv_at hl 0 rfl) ?_
      refine rC_ald S hC (by omega) dX2_elementAt_17 ?_
      refine vp_callSi (va_Run.run (runVN (As := []) (rest := []) (Bh := RdE D (ad k) (f (ad k))) S (c_X0_isVisible l ) (gw_self wk_192) (nk_189 hC.nw) wk_3 wk_191 wp_15 rfl rfl 0 rfl (by decide +kernel) (by decide) ⟨Nat.le_refl _, Nat.le_refl _⟩ (fun _ _ _ h q => RdE.mv h q) (RdE.recv (hC.E (Or.inr ⟨_, (by omega), rfl⟩))) (hC.E (Or.inr ⟨_, (by omega), rfl⟩)) hl.1 (Nat.le_of_ble_eq_true rfl) dX2_elementAt_18)) (fun r hr => ?_)
      rcases hr with ⟨h_18, rfl⟩ | ⟨h_18, rfl⟩
      · refine lv_if_ne (tgt := 27) hx hb dX2_elementAt_21 (by decide) (fun c_21 => ?_) (fun c_21 => ?_)
        · refine lv_iload_n hx hb dX2_elementAt_27 rfl (lv_at hl 1 rfl) ?_
          refine lv_iload_n hx hb dX2_elementAt_28 rfl (lv_at hl 3 rfl) ?_
          refine lv_icmp_ne (tgt := 39) hx hb dX2_elementAt_29 (by decide) (fun c_29 => ?_) (fun c_29 => ?_)
          · refine lv_iinc (v := nI (q + 1)) (lv' := [(2, .int (nI (q + 1))), (3, .int (nI k)), (0, .ref x), (1, .int v1)]) hx hb dX2_elementAt_39 hl (k := 1) rfl (nI_1 _) (by decide) rfl (fun ls hl => ?_)
            refine lv_iinc (v := nI (k + 1)) (lv' := [(3, .int (nI (k + 1))), (2, .int (nI (q + 1))), (0, .ref x), (1, .int v1)]) hx hb dX2_elementAt_42 hl (k := 1) rfl (nI_1 _) (by decide) rfl (fun ls hl => ?_)
            refine lv_goto (tgt := 4) hx hb dX2_elementAt_45 (by decide) ?_
            exact ih (k + 1) (q + 1) (by omega) (by omega) (vis_s hq h_18) (lt_s hI (fun _ => by rw [← hq]; exact c_29))  ls (lv_sub hl [0, 1, 2, 3] rfl)
          · refine lv_aload_n hx hb dX2_elementAt_32 rfl (lv_at hl 2 rfl) ?_
            refine rC_woven S hC dX2_elementAt_33 ?_
            refine lv_iload_n hx hb dX2_elementAt_36 rfl (lv_at hl 0 rfl) ?_
            refine rC_ald S hC (by omega) dX2_elementAt_37 ?_
            exact W.aret (v := .ref (ad k)) hx hb hr (Or.inl ⟨_, rfl⟩) (Or.inr ⟨_, rfl⟩) (fun t9 ht9 _ => ⟨some (ad k), rfl, Or.inl ⟨k, by omega, h_18, by rw [← hq]; exact c_29, rfl⟩, ht9⟩) (fun _ h => nomatch h) dX2_elementAt_38
        · exact absurd (show _ from c_21) (by decide)
      · refine lv_if_ne (tgt := 27) hx hb dX2_elementAt_21 (by decide) (fun c_21 => ?_) (fun c_21 => ?_)
        · exact absurd (show _ from c_21) (by decide)
        · refine lv_goto (tgt := 42) hx hb dX2_elementAt_24 (by decide) ?_
          refine lv_iinc (v := nI (k + 1)) (lv' := [(3, .int (nI (k + 1))), (2, .int (nI q)), (0, .ref x), (1, .int v1)]) hx hb dX2_elementAt_42 hl (k := 0) rfl (nI_1 _) (by decide) rfl (fun ls hl => ?_)
          refine lv_goto (tgt := 4) hx hb dX2_elementAt_45 (by decide) ?_
          exact ih (k + 1) q (by omega) (by omega) (vis_n hq h_18) (lt_s hI (fun z => absurd z h_18))  ls (lv_sub hl [0, 1, 2, 3] rfl)
set_option maxHeartbeats 4000000 in
set_option maxRecDepth 100000 in
theorem c_X2_isFree (l : Launch) {D : va_G} {x u i g w n cn cnt : Nat} {ids : Nat → Int32} {ad : Nat → Nat} {f : Nat → Nat → Int32} (v1 : Int32) (hs : Srt ids cnt) : Met l yX2_isFree (gws yX2_isFree cX2_isFree 2 (some .boolean)) { frames := 2, cells := 0, slots := 0, locals := 46 } (va_Pc [.ref x, .int v1] (fun U => RdC D x u i g w n cn cnt ids ad f U U.heap)) (vp_Si (fun r => (Fre ids cnt v1 ∧ r = 1) ∨ (¬ Fre ids cnt v1 ∧ r = 0))) 0 0 (fun _ => False) := by
  refine met_go (by decide) (Nat.le_of_ble_eq_true rfl) ?_
  intro p e s m below meth c ls S hr hlocks hnm hC hl
  obtain ⟨hx, hb, hml, hown, hg⟩ := id S
  have hl : lv_has ls 2 [(0, .ref x), (1, .int v1)] := hl
  have hn := hC.n
  refine lv_iload_n hx hb dX2_isFree_0 rfl (lv_at hl 1 rfl) ?_
  refine lv_bipush (v := 8) hx hb dX2_isFree_1 (by decide) ?_
  refine lv_icmp_lt (tgt := 27) hx hb dX2_isFree_3 (by decide) (fun c_3 => ?_) (fun c_3 => ?_)
  · refine lv_iconst (v := 0) hx hb dX2_isFree_27 (by decide) ?_
    exact W.zret (v := 0) hx hb hr rfl (fun t9 ht9 _ => ⟨_, rfl, Or.inr ⟨fun z => z.1 c_3, rfl⟩, ht9⟩) (fun _ h => nomatch h) dX2_isFree_28
  · refine lv_iload_n hx hb dX2_isFree_6 rfl (lv_at hl 1 rfl) ?_
    refine lv_ldc (v := 800007) hx hb hown (hg _ wk_122) dX2_isFree_7 ?_
    refine lv_icmp_gt (tgt := 27) hx hb dX2_isFree_9 (by decide) (fun c_9 => ?_) (fun c_9 => ?_)
    · refine lv_iconst (v := 0) hx hb dX2_isFree_27 (by decide) ?_
      exact W.zret (v := 0) hx hb hr rfl (fun t9 ht9 _ => ⟨_, rfl, Or.inr ⟨fun z => z.2.1 c_9, rfl⟩, ht9⟩) (fun _ h => nomatch h) dX2_isFree_28
    · refine lv_aload_n hx hb dX2_isFree_12 rfl (lv_at hl 0 rfl) ?_
      refine rC_used S hC dX2_isFree_13 ?_
      refine lv_iload_n hx hb dX2_isFree_16 rfl (lv_at hl 1 rfl) ?_
      refine vp_callSi (va_Run.run (runVN (As := [.int v1]) (rest := []) (Bh := RdU D u i cnt ids) S (c_X1_has l v1 hs) (gw_self wk_126) (nk_123 hC.nw) wk_2 wk_125 wp_5 rfl rfl 1 rfl (by decide +kernel) (by decide) ⟨Nat.le_refl _, Nat.le_refl _⟩ (fun _ _ _ h q => RdU.mv h q) hC.U.recv hC.U hl.1 (Nat.le_of_ble_eq_true rfl) dX2_isFree_17)) (fun r hr => ?_)
      rcases hr with ⟨h_17, rfl⟩ | ⟨h_17, rfl⟩
      · refine lv_if_ne (tgt := 27) hx hb dX2_isFree_20 (by decide) (fun c_20 => ?_) (fun c_20 => ?_)
        · refine lv_iconst (v := 0) hx hb dX2_isFree_27 (by decide) ?_
          exact W.zret (v := 0) hx hb hr rfl (fun t9 ht9 _ => ⟨_, rfl, Or.inr ⟨fun z => z.2.2 h_17, rfl⟩, ht9⟩) (fun _ h => nomatch h) dX2_isFree_28
        · exact absurd (show _ from c_20) (by decide)
      · refine lv_if_ne (tgt := 27) hx hb dX2_isFree_20 (by decide) (fun c_20 => ?_) (fun c_20 => ?_)
        · exact absurd (show _ from c_20) (by decide)
        · refine lv_iconst (v := 1) hx hb dX2_isFree_23 (by decide) ?_
          refine lv_goto (tgt := 28) hx hb dX2_isFree_24 (by decide) ?_
          exact W.zret (v := 1) hx hb hr rfl (fun t9 ht9 _ => ⟨_, rfl, Or.inl ⟨⟨c_3, c_9, h_17⟩, rfl⟩, ht9⟩) (fun _ h => nomatch h) dX2_isFree_28
set_option maxHeartbeats 4000000 in
set_option maxRecDepth 100000 in
theorem c_X2_areFree (l : Launch) {D : va_G} {x u i g w n cn cnt : Nat} {ids : Nat → Int32} {ad : Nat → Nat} {f : Nat → Nat → Int32} (v1 : Int32) (M : Nat) (hs : Srt ids cnt) (hM8 : M ≤ 8) : Met l yX2_areFree (gws yX2_areFree cX2_areFree 4 (some .boolean)) { frames := 3, cells := 0, slots := 0, locals := 67 } (va_Pc [.ref x, .int v1, .int (nI M)] (fun U => RdC D x u i g w n cn cnt ids ad f U U.heap)) (vp_Si (fun r => ((∀ k, k < M → Fre ids cnt (v1 + 8 * nI k)) ∧ r = 1) ∨ ((¬ ∀ k, k < M → Fre ids cnt (v1 + 8 * nI k)) ∧ r = 0))) 0 0 (fun _ => False) := by
  refine met_go (by decide) (Nat.le_of_ble_eq_true rfl) ?_
  intro p e s m below meth c ls S hr hlocks hnm hC hl
  obtain ⟨hx, hb, hml, hown, hg⟩ := id S
  have hl : lv_has ls 4 [(0, .ref x), (1, .int v1), (2, .int (nI M))] := hl
  have hn := hC.n
  refine lv_iconst (v := nI 0) hx hb dX2_areFree_0 (by decide) ?_
  refine lv_istore_n (lv' := [(3, .int (nI 0)), (0, .ref x), (1, .int v1), (2, .int (nI M))]) hx hb dX2_areFree_1 rfl hl (by decide) rfl (fun ls hl => ?_)
  suffices hloop : ∀ (fuel : Nat) (k : Nat), k ≤ M → M - k < fuel → (∀ j, j < k → Fre ids cnt (v1 + 8 * nI j)) → ∀ ls : Array Slot, lv_has ls 4 [(3, .int (nI k)), (0, .ref x), (1, .int v1), (2, .int (nI M))] → W p l e { frames := 3, cells := 0, slots := 0, locals := 67 } s m [.ref x, .int v1, .int (nI M)].toArray below meth c s.heap [] 0 0 (MQ below (vp_Si (fun r => ((∀ k, k < M → Fre ids cnt (v1 + 8 * nI k)) ∧ r = 1) ∨ ((¬ ∀ k, k < M → Fre ids cnt (v1 + 8 * nI k)) ∧ r = 0))) [.ref x, .int v1, .int (nI M)].toArray s 0 0 (fun _ => False)) (F0 m 2 ls []) from hloop (M + 1) 0 (by omega) (by omega) (fun _ h => absurd h (Nat.not_lt_zero _))  ls (lv_sub hl [0, 1, 2, 3] rfl)
  intro fuel
  induction fuel with
  | zero => intro k hk hf hI; omega
  | succ fuel ih =>
    intro k hk hf hI  ls hl
    refine lv_iload_n hx hb dX2_areFree_2 rfl (lv_at hl 0 rfl) ?_
    refine lv_iload_n hx hb dX2_areFree_3 rfl (lv_at hl 3 rfl) ?_
    refine lv_icmp_ge (tgt := 28) hx hb dX2_areFree_4 (by decide) (fun c_4 => ?_) (fun c_4 => ?_)
    · rw [nI_leI (by omega) (by omega)] at c_4
      refine lv_iconst (v := 1) hx hb dX2_areFree_28 (by decide) ?_
      exact W.zret (v := 1) hx hb hr rfl (fun t9 ht9 _ => ⟨_, rfl, Or.inl ⟨fun j hj => hI j (by omega), rfl⟩, ht9⟩) (fun _ h => nomatch h) dX2_areFree_29
    · rw [nI_leI (by omega) (by omega)] at c_4
      refine lv_aload_n hx hb dX2_areFree_7 rfl (lv_at hl 1 rfl) ?_
      refine lv_iload_n hx hb dX2_areFree_8 rfl (lv_at hl 2 rfl) ?_
      refine lv_bipush (v := 8) hx hb dX2_areFree_9 (by decide) ?_
      refine lv_iload_n hx hb dX2_areFree_11 rfl (lv_at hl 0 rfl) ?_
      refine lv_imul hx hb dX2_areFree_12 ?_
      refine lv_iadd hx hb dX2_areFree_13 ?_
      refine vp_callSi (va_Run.run (runV (As := [.int (v1 + (8 * (nI k)))]) (rest := []) (Bh := RdC D x u i g w n cn cnt ids ad f) S (c_X2_isFree l (v1 + (8 * (nI k))) hs) (gw_V wk_118 wk_120 wp_4 wk_1 wk_121) rfl rfl 1 rfl (by decide +kernel) (by decide) ⟨Nat.le_refl _, Nat.le_refl _⟩ (fun _ _ _ h q => RdC.mv h q) hC.recv hC hl.1 (Nat.le_of_ble_eq_true rfl) dX2_areFree_14)) (fun r hr => ?_)
      rcases hr with ⟨h_14, rfl⟩ | ⟨h_14, rfl⟩
      · refine lv_if_ne (tgt := 22) hx hb dX2_areFree_17 (by decide) (fun c_17 => ?_) (fun c_17 => ?_)
        · refine lv_iinc (v := nI (k + 1)) (lv' := [(3, .int (nI (k + 1))), (0, .ref x), (1, .int v1), (2, .int (nI M))]) hx hb dX2_areFree_22 hl (k := 0) rfl (nI_1 _) (by decide) rfl (fun ls hl => ?_)
          refine lv_goto (tgt := 2) hx hb dX2_areFree_25 (by decide) ?_
          exact ih (k + 1) (by omega) (by omega) (lt_s hI h_14)  ls (lv_sub hl [0, 1, 2, 3] rfl)
        · exact absurd (show _ from c_17) (by decide)
      · refine lv_if_ne (tgt := 22) hx hb dX2_areFree_17 (by decide) (fun c_17 => ?_) (fun c_17 => ?_)
        · exact absurd (show _ from c_17) (by decide)
        · refine lv_iconst (v := 0) hx hb dX2_areFree_20 (by decide) ?_
          exact W.zret (v := 0) hx hb hr rfl (fun t9 ht9 _ => ⟨_, rfl, Or.inr ⟨fun z => h_14 (z k (by omega)), rfl⟩, ht9⟩) (fun _ h => nomatch h) dX2_areFree_21
set_option maxHeartbeats 4000000 in
set_option maxRecDepth 100000 in
theorem c_X2_isKind (l : Launch)  (v1 : Int32)  : Met l yX2_isKind (gws yX2_isKind cX2_isKind 1 (some .boolean)) { frames := 0, cells := 0, slots := 0, locals := 0 } (va_Pc [.int v1] (fun _ => True)) (vp_Si (fun r => ((¬ v1 < 0 ∧ ¬ 7 ≤ v1) ∧ r = 1) ∨ ((¬ (¬ v1 < 0 ∧ ¬ 7 ≤ v1)) ∧ r = 0))) 0 0 (fun _ => False) := by
  refine met_go (by decide) (Nat.le_of_ble_eq_true rfl) ?_
  intro p e s m below meth c ls S hr hlocks hnm _hT hl
  obtain ⟨hx, hb, hml, hown, hg⟩ := id S
  have hl : lv_has ls 1 [(0, .int v1)] := hl
  refine lv_iload_n hx hb dX2_isKind_0 rfl (lv_at hl 0 rfl) ?_
  refine lv_if_lt (tgt := 14) hx hb dX2_isKind_1 (by decide) (fun c_1 => ?_) (fun c_1 => ?_)
  · refine lv_iconst (v := 0) hx hb dX2_isKind_14 (by decide) ?_
    exact W.zret (v := 0) hx hb hr rfl (fun t9 ht9 _ => ⟨_, rfl, Or.inr ⟨fun z => z.1 c_1, rfl⟩, ht9⟩) (fun _ h => nomatch h) dX2_isKind_15
  · refine lv_iload_n hx hb dX2_isKind_4 rfl (lv_at hl 0 rfl) ?_
    refine lv_bipush (v := 7) hx hb dX2_isKind_5 (by decide) ?_
    refine lv_icmp_ge (tgt := 14) hx hb dX2_isKind_7 (by decide) (fun c_7 => ?_) (fun c_7 => ?_)
    · refine lv_iconst (v := 0) hx hb dX2_isKind_14 (by decide) ?_
      exact W.zret (v := 0) hx hb hr rfl (fun t9 ht9 _ => ⟨_, rfl, Or.inr ⟨fun z => z.2 c_7, rfl⟩, ht9⟩) (fun _ h => nomatch h) dX2_isKind_15
    · refine lv_iconst (v := 1) hx hb dX2_isKind_10 (by decide) ?_
      refine lv_goto (tgt := 15) hx hb dX2_isKind_11 (by decide) ?_
      exact W.zret (v := 1) hx hb hr rfl (fun t9 ht9 _ => ⟨_, rfl, Or.inl ⟨⟨c_1, c_7⟩, rfl⟩, ht9⟩) (fun _ h => nomatch h) dX2_isKind_15
set_option maxHeartbeats 4000000 in
set_option maxRecDepth 100000 in
theorem c_X2_mayChange (l : Launch) {D : va_G} {x u i g w n cn cnt : Nat} {ids : Nat → Int32} {ad : Nat → Nat} {f : Nat → Nat → Int32} (v1 : Int32) (v2 : Int32) (hs : Srt ids cnt) : Met l yX2_mayChange (gws yX2_mayChange cX2_mayChange 3 (some .boolean)) { frames := 3, cells := 0, slots := 0, locals := 67 } (va_Pc [.ref x, .int v1, .int v2] (fun U => RdC D x u i g w n cn cnt ids ad f U U.heap)) (vp_Si (fun r => ((Fre ids cnt v1 ∧ ¬ v1 ≤ v2 ∧ cn < 1024) ∧ r = 1) ∨ ((¬ (Fre ids cnt v1 ∧ ¬ v1 ≤ v2 ∧ cn < 1024)) ∧ r = 0))) 0 0 (fun _ => False) := by
  refine met_go (by decide) (Nat.le_of_ble_eq_true rfl) ?_
  intro p e s m below meth c ls S hr hlocks hnm hC hl
  obtain ⟨hx, hb, hml, hown, hg⟩ := id S
  have hl : lv_has ls 3 [(0, .ref x), (1, .int v1), (2, .int v2)] := hl
  have hn := hC.n
  refine lv_aload_n hx hb dX2_mayChange_0 rfl (lv_at hl 0 rfl) ?_
  refine lv_iload_n hx hb dX2_mayChange_1 rfl (lv_at hl 1 rfl) ?_
  refine vp_callSi (va_Run.run (runV (As := [.int v1]) (rest := []) (Bh := RdC D x u i g w n cn cnt ids ad f) S (c_X2_isFree l v1 hs) (gw_V wk_118 wk_120 wp_4 wk_1 wk_121) rfl rfl 1 rfl (by decide +kernel) (by decide) ⟨Nat.le_refl _, Nat.le_refl _⟩ (fun _ _ _ h q => RdC.mv h q) hC.recv hC hl.1 (Nat.le_of_ble_eq_true rfl) dX2_mayChange_2)) (fun r hr => ?_)
  rcases hr with ⟨h_2, rfl⟩ | ⟨h_2, rfl⟩
  · refine lv_if_eq (tgt := 27) hx hb dX2_mayChange_5 (by decide) (fun c_5 => ?_) (fun c_5 => ?_)
    · exact absurd (show _ from c_5) (by decide)
    · refine lv_iload_n hx hb dX2_mayChange_8 rfl (lv_at hl 1 rfl) ?_
      refine lv_iload_n hx hb dX2_mayChange_9 rfl (lv_at hl 2 rfl) ?_
      refine lv_icmp_le (tgt := 27) hx hb dX2_mayChange_10 (by decide) (fun c_10 => ?_) (fun c_10 => ?_)
      · refine lv_iconst (v := 0) hx hb dX2_mayChange_27 (by decide) ?_
        exact W.zret (v := 0) hx hb hr rfl (fun t9 ht9 _ => ⟨_, rfl, Or.inr ⟨fun z => z.2.1 c_10, rfl⟩, ht9⟩) (fun _ h => nomatch h) dX2_mayChange_28
      · refine lv_aload_n hx hb dX2_mayChange_13 rfl (lv_at hl 0 rfl) ?_
        refine rC_changes S hC dX2_mayChange_14 ?_
        refine lv_sipush (v := nI 1024) hx hb dX2_mayChange_17 (by decide) ?_
        refine lv_icmp_ge (tgt := 27) hx hb dX2_mayChange_20 (by decide) (fun c_20 => ?_) (fun c_20 => ?_)
        · rw [nI_leI (by omega) (by omega)] at c_20
          refine lv_iconst (v := 0) hx hb dX2_mayChange_27 (by decide) ?_
          exact W.zret (v := 0) hx hb hr rfl (fun t9 ht9 _ => ⟨_, rfl, Or.inr ⟨fun z => absurd z.2.2 (by omega), rfl⟩, ht9⟩) (fun _ h => nomatch h) dX2_mayChange_28
        · rw [nI_leI (by omega) (by omega)] at c_20
          refine lv_iconst (v := 1) hx hb dX2_mayChange_23 (by decide) ?_
          refine lv_goto (tgt := 28) hx hb dX2_mayChange_24 (by decide) ?_
          exact W.zret (v := 1) hx hb hr rfl (fun t9 ht9 _ => ⟨_, rfl, Or.inl ⟨⟨h_2, c_10, by omega⟩, rfl⟩, ht9⟩) (fun _ h => nomatch h) dX2_mayChange_28
  · refine lv_if_eq (tgt := 27) hx hb dX2_mayChange_5 (by decide) (fun c_5 => ?_) (fun c_5 => ?_)
    · refine lv_iconst (v := 0) hx hb dX2_mayChange_27 (by decide) ?_
      exact W.zret (v := 0) hx hb hr rfl (fun t9 ht9 _ => ⟨_, rfl, Or.inr ⟨fun z => h_2 z.1, rfl⟩, ht9⟩) (fun _ h => nomatch h) dX2_mayChange_28
    · exact absurd (show _ from c_5) (by decide)
set_option maxHeartbeats 4000000 in
set_option maxRecDepth 100000 in
theorem c_X2_byteOf (l : Launch)  (v1 : Int64) (v2 : Int32)  : Met l yX2_byteOf (gws yX2_byteOf cX2_byteOf 3 (some .int)) { frames := 0, cells := 0, slots := 0, locals := 0 } (va_Pc [.long v1, .int v2] (fun _ => True)) (vp_Si (fun r => r = ((v1.toUInt64 >>> ((8 * v2).toInt64.toUInt64 &&& Int64.toUInt64 63)).toInt64 &&& 255).toInt32)) 0 0 (fun _ => False) := by
  refine met_go (by decide) (Nat.le_of_ble_eq_true rfl) ?_
  intro p e s m below meth c ls S hr hlocks hnm _hT hl
  obtain ⟨hx, hb, hml, hown, hg⟩ := id S
  have hl : lv_has ls 3 [(0, .long v1), (2, .int v2)] := hl
  refine lv_lload_n hx hb dX2_byteOf_0 rfl (lv_at hl 0 rfl) ?_
  refine lv_bipush (v := 8) hx hb dX2_byteOf_1 (by decide) ?_
  refine lv_iload_n hx hb dX2_byteOf_3 rfl (lv_at hl 1 rfl) ?_
  refine lv_imul hx hb dX2_byteOf_4 ?_
  refine lv_lushr (v := (v1.toUInt64 >>> ((8 * v2).toInt64.toUInt64 &&& Int64.toUInt64 63)).toInt64) hx hb dX2_byteOf_5 rfl ?_
  refine lv_ldc2 (v := 255) hx hb hown (hg _ wk_164) dX2_byteOf_6 ?_
  refine lv_land hx hb dX2_byteOf_9 ?_
  refine lv_l2i (v := (((v1.toUInt64 >>> ((8 * v2).toInt64.toUInt64 &&& Int64.toUInt64 63)).toInt64) &&& 255).toInt32) hx hb dX2_byteOf_10 rfl ?_
  exact W.iret (v := ((((v1.toUInt64 >>> ((8 * v2).toInt64.toUInt64 &&& Int64.toUInt64 63)).toInt64) &&& 255).toInt32)) hx hb hr (fun t9 ht9 _ => ⟨_, rfl, rfl, ht9⟩) (fun _ h => nomatch h) dX2_byteOf_11
set_option maxHeartbeats 4000000 in
set_option maxRecDepth 100000 in
theorem c_X2_size (l : Launch) {D : va_G} {x u i g w n cn cnt : Nat} {ids : Nat → Int32} {ad : Nat → Nat} {f : Nat → Nat → Int32}   : Met l yX2_size (gws yX2_size cX2_size 1 (some .int)) { frames := 2, cells := 0, slots := 0, locals := 43 } (va_Pc [.ref x] (fun U => RdC D x u i g w n cn cnt ids ad f U U.heap)) (vp_Si (fun r => r = nI (vis (fun k => f (ad k) 5) n))) 0 0 (fun _ => False) := by
  refine met_go (by decide) (Nat.le_of_ble_eq_true rfl) ?_
  intro p e s m below meth c ls S hr hlocks hnm hC hl
  obtain ⟨hx, hb, hml, hown, hg⟩ := id S
  have hl : lv_has ls 1 [(0, .ref x)] := hl
  have hn := hC.n
  refine lv_aload_n hx hb dX2_size_0 rfl (lv_at hl 0 rfl) ?_
  refine lv_aload_n hx hb dX2_size_1 rfl (lv_at hl 0 rfl) ?_
  refine rC_elements S hC dX2_size_2 ?_
  refine vp_callSi (va_Run.run (runV (As := [.int (nI n)]) (rest := []) (Bh := RdC D x u i g w n cn cnt ids ad f) S (c_X2_visibleUpTo l n (by omega)) (gw_V wk_185 wk_187 wp_14 wk_1 wk_188) rfl rfl 1 rfl (by decide +kernel) (by decide) ⟨Nat.le_refl _, Nat.le_refl _⟩ (fun _ _ _ h q => RdC.mv h q) hC.recv hC hl.1 (Nat.le_of_ble_eq_true rfl) dX2_size_5)) (fun r_5 hr_5 => ?_)
  subst hr_5
  exact W.iret (v := (nI (vis (fun k => f (ad k) 5) n))) hx hb hr (fun t9 ht9 _ => ⟨_, rfl, rfl, ht9⟩) (fun _ h => nomatch h) dX2_size_8
set_option maxHeartbeats 4000000 in
set_option maxRecDepth 100000 in
theorem c_X2_place (l : Launch) {D : va_G} {x u i g w n cn cnt : Nat} {ids : Nat → Int32} {ad : Nat → Nat} {f : Nat → Nat → Int32} (v1 : Int32)  : Met l yX2_place (gws yX2_place cX2_place 3 (some .int)) { frames := 2, cells := 0, slots := 0, locals := 43 } (va_Pc [.ref x, .int v1] (fun U => RdC D x u i g w n cn cnt ids ad f U U.heap)) (vp_Si (fun r => (∃ k, k < n ∧ f (ad k) 0 = v1 ∧ f (ad k) 5 = 0 ∧ r = nI (vis (fun k => f (ad k) 5) k)) ∨ (((∀ k, k < n → ¬ f (ad k) 0 = v1) ∨ ∃ k, k < n ∧ f (ad k) 0 = v1 ∧ ¬ f (ad k) 5 = 0) ∧ r = -1))) 0 0 (fun _ => False) := by
  refine met_go (by decide) (Nat.le_of_ble_eq_true rfl) ?_
  intro p e s m below meth c ls S hr hlocks hnm hC hl
  obtain ⟨hx, hb, hml, hown, hg⟩ := id S
  have hl : lv_has ls 3 [(0, .ref x), (1, .int v1)] := hl
  have hn := hC.n
  refine lv_aload_n hx hb dX2_place_0 rfl (lv_at hl 0 rfl) ?_
  refine lv_iload_n hx hb dX2_place_1 rfl (lv_at hl 1 rfl) ?_
  refine vp_callSi (va_Run.run (runV (As := [.int v1]) (rest := []) (Bh := RdC D x u i g w n cn cnt ids ad f) S (c_X2_rowOf l v1) (gw_V wk_114 wk_116 wp_3 wk_1 wk_117) rfl rfl 1 rfl (by decide +kernel) (by decide) ⟨Nat.le_refl _, Nat.le_refl _⟩ (fun _ _ _ h q => RdC.mv h q) hC.recv hC hl.1 (Nat.le_of_ble_eq_true rfl) dX2_place_2)) (fun r hr => ?_)
  rcases hr with ⟨k_2, hk_2, he_2, hf_2, rfl⟩ | ⟨hn_2, rfl⟩
  · refine lv_istore_n (lv' := [(2, .int (nI k_2)), (0, .ref x), (1, .int v1)]) hx hb dX2_place_5 rfl hl (by decide) rfl (fun ls hl => ?_)
    refine lv_iload_n hx hb dX2_place_6 rfl (lv_at hl 0 rfl) ?_
    refine lv_iconst (v := (-1)) hx hb dX2_place_7 (by decide) ?_
    refine lv_icmp_eq (tgt := 23) hx hb dX2_place_8 (by decide) (fun c_8 => ?_) (fun c_8 => ?_)
    · exact absurd c_8 (int_m1_ne _ (by omega))
    · refine lv_aload_n hx hb dX2_place_11 rfl (lv_at hl 1 rfl) ?_
      refine rC_woven S hC dX2_place_12 ?_
      refine lv_iload_n hx hb dX2_place_15 rfl (lv_at hl 0 rfl) ?_
      refine rC_ald S hC hk_2 dX2_place_16 ?_
      refine vp_callSi (va_Run.run (runVN (As := []) (rest := []) (Bh := RdE D (ad k_2) (f (ad k_2))) S (c_X0_isVisible l ) (gw_self wk_192) (nk_189 hC.nw) wk_3 wk_191 wp_15 rfl rfl 0 rfl (by decide +kernel) (by decide) ⟨Nat.le_refl _, Nat.le_refl _⟩ (fun _ _ _ h q => RdE.mv h q) (RdE.recv (hC.E (Or.inr ⟨_, hk_2, rfl⟩))) (hC.E (Or.inr ⟨_, hk_2, rfl⟩)) hl.1 (Nat.le_of_ble_eq_true rfl) dX2_place_17)) (fun r hr => ?_)
      rcases hr with ⟨h_17, rfl⟩ | ⟨h_17, rfl⟩
      · refine lv_if_ne (tgt := 25) hx hb dX2_place_20 (by decide) (fun c_20 => ?_) (fun c_20 => ?_)
        · refine lv_aload_n hx hb dX2_place_25 rfl (lv_at hl 1 rfl) ?_
          refine lv_iload_n hx hb dX2_place_26 rfl (lv_at hl 0 rfl) ?_
          refine vp_callSi (va_Run.run (runV (As := [.int (nI k_2)]) (rest := []) (Bh := RdC D x u i g w n cn cnt ids ad f) S (c_X2_visibleUpTo l k_2 (by omega)) (gw_V wk_185 wk_187 wp_14 wk_1 wk_188) rfl rfl 1 rfl (by decide +kernel) (by decide) ⟨Nat.le_refl _, Nat.le_refl _⟩ (fun _ _ _ h q => RdC.mv h q) hC.recv hC hl.1 (Nat.le_of_ble_eq_true rfl) dX2_place_27)) (fun r_27 hr_27 => ?_)
          subst hr_27
          exact W.iret (v := (nI (vis (fun k => f (ad k) 5) k_2))) hx hb hr (fun t9 ht9 _ => ⟨_, rfl, Or.inl ⟨k_2, hk_2, he_2, h_17, rfl⟩, ht9⟩) (fun _ h => nomatch h) dX2_place_30
        · exact absurd (show _ from c_20) (by decide)
      · refine lv_if_ne (tgt := 25) hx hb dX2_place_20 (by decide) (fun c_20 => ?_) (fun c_20 => ?_)
        · exact absurd (show _ from c_20) (by decide)
        · refine lv_iconst (v := (-1)) hx hb dX2_place_23 (by decide) ?_
          exact W.iret (v := (-1)) hx hb hr (fun t9 ht9 _ => ⟨_, rfl, Or.inr ⟨Or.inr ⟨k_2, hk_2, he_2, h_17⟩, rfl⟩, ht9⟩) (fun _ h => nomatch h) dX2_place_24
  · refine lv_istore_n (lv' := [(2, .int (-1)), (0, .ref x), (1, .int v1)]) hx hb dX2_place_5 rfl hl (by decide) rfl (fun ls hl => ?_)
    refine lv_iload_n hx hb dX2_place_6 rfl (lv_at hl 0 rfl) ?_
    refine lv_iconst (v := (-1)) hx hb dX2_place_7 (by decide) ?_
    refine lv_icmp_eq (tgt := 23) hx hb dX2_place_8 (by decide) (fun c_8 => ?_) (fun c_8 => ?_)
    · refine lv_iconst (v := (-1)) hx hb dX2_place_23 (by decide) ?_
      exact W.iret (v := (-1)) hx hb hr (fun t9 ht9 _ => ⟨_, rfl, Or.inr ⟨Or.inl hn_2, rfl⟩, ht9⟩) (fun _ h => nomatch h) dX2_place_24
    · exact absurd (show _ from c_8) (by decide)
end
section
theorem smt_s {g kd vl : Nat → Int32} {v1 v2 : Int32} {k q : Nat} {t : Int64} (hq : q = vis g k) (ht : t = smt g kd vl v1 v2 k) (h : g k = 0) (h1 : v1 ≤ nI q) (h2 : nI q < v2) (h3 : kd k = 2) : t + (vl k).toInt64 = smt g kd vl v1 v2 (k + 1) := by
  rw [smt, if_pos ⟨h, by rw [← hq]; exact h1, by rw [← hq]; exact h2, h3⟩, ht]
theorem smt_n {g kd vl : Nat → Int32} {v1 v2 : Int32} {k q : Nat} {t : Int64} (hq : q = vis g k) (ht : t = smt g kd vl v1 v2 k) (h : ¬ (g k = 0 ∧ v1 ≤ nI q ∧ nI q < v2 ∧ kd k = 2)) : t = smt g kd vl v1 v2 (k + 1) := by
  rw [smt, if_neg (by rw [← hq]; exact h), i64_z, ht]
/-- where the new one's search begins: behind the parent -/
def Par (f : Nat → Nat → Int32) (ad : Nat → Nat) (n g b T : Nat) : Prop := (g = b ∧ f g 0 = 0 ∧ 0 = T) ∨ ∃ t, t < n ∧ ad t = b ∧ t + 1 = T ∧ ¬ f (ad t) 0 = 0 ∧ ∀ k, k < n → f (ad k) 0 = f (ad t) 0 → k = t
def Lie (L : Nat → Int32) (n T : Nat) (v : Int32) (q : Nat) : Prop := T ≤ q ∧ q ≤ n ∧ (∀ j, T ≤ j → j < q → v < L j) ∧ (q < n → ¬ v < L q)
theorem lie_s {L : Nat → Int32} {T k : Nat} {v : Int32} (h : ∀ j, T ≤ j → j < k → v < L j) (hk : v < L k) : ∀ j, T ≤ j → j < k + 1 → v < L j := fun j h1 h2 => by
  rcases Nat.lt_or_eq_of_le (Nat.lt_succ_iff.mp h2) with z | z
  · exact h j h1 z
  · rw [z]; exact hk
set_option maxHeartbeats 4000000 in
set_option maxRecDepth 100000 in
theorem c_X2_sum (l : Launch) {D : va_G} {x u i g w n cn cnt : Nat} {ids : Nat → Int32} {ad : Nat → Nat} {f : Nat → Nat → Int32} (v1 : Int32) (v2 : Int32)  : Met l yX2_sum (gws yX2_sum cX2_sum 8 (some .long)) { frames := 1, cells := 0, slots := 0, locals := 20 } (va_Pc [.ref x, .int v1, .int v2] (fun U => RdC D x u i g w n cn cnt ids ad f U U.heap)) (vp_Sl (fun r => r = smt (fun k => f (ad k) 5) (fun k => f (ad k) 7) (fun k => f (ad k) 8) v1 v2 n)) 0 0 (fun _ => False) := by
  refine met_go (by decide) (Nat.le_of_ble_eq_true rfl) ?_
  intro p e s m below meth c ls S hr hlocks hnm hC hl
  obtain ⟨hx, hb, hml, hown, hg⟩ := id S
  have hl : lv_has ls 8 [(0, .ref x), (1, .int v1), (2, .int v2)] := hl
  have hn := hC.n
  refine lv_lconst (v := 0) hx hb dX2_sum_0 (by decide) ?_
  refine lv_lstore_n (lv' := [(3, .long 0), (0, .ref x), (1, .int v1), (2, .int v2)]) hx hb dX2_sum_1 rfl hl (by decide) rfl (fun ls hl => ?_)
  refine lv_iconst (v := nI 0) hx hb dX2_sum_2 (by decide) ?_
  refine lv_istore (lv' := [(5, .int (nI 0)), (3, .long 0), (0, .ref x), (1, .int v1), (2, .int v2)]) hx hb dX2_sum_3 hl (by decide) rfl (fun ls hl => ?_)
  refine lv_iconst (v := nI 0) hx hb dX2_sum_5 (by decide) ?_
  refine lv_istore (lv' := [(6, .int (nI 0)), (5, .int (nI 0)), (3, .long 0), (0, .ref x), (1, .int v1), (2, .int v2)]) hx hb dX2_sum_6 hl (by decide) rfl (fun ls hl => ?_)
  suffices hloop : ∀ (fuel : Nat) (k q : Nat) (t : Int64), k ≤ n → n - k < fuel → q = vis (fun k => f (ad k) 5) k → t = smt (fun k => f (ad k) 5) (fun k => f (ad k) 7) (fun k => f (ad k) 8) v1 v2 k → ∀ ls : Array Slot, lv_has ls 8 [(6, .int (nI k)), (5, .int (nI q)), (3, .long t), (0, .ref x), (1, .int v1), (2, .int v2)] → W p l e { frames := 1, cells := 0, slots := 0, locals := 20 } s m [.ref x, .int v1, .int v2].toArray below meth c s.heap [] 0 0 (MQ below (vp_Sl (fun r => r = smt (fun k => f (ad k) 5) (fun k => f (ad k) 7) (fun k => f (ad k) 8) v1 v2 n)) [.ref x, .int v1, .int v2].toArray s 0 0 (fun _ => False)) (F0 m 8 ls []) from hloop (n + 1) 0 0 0 (by omega) (by omega) rfl rfl  ls (lv_sub hl [0, 1, 2, 3, 4, 5] rfl)
  intro fuel
  induction fuel with
  | zero => intro k q t hk hf hq ht; omega
  | succ fuel ih =>
    intro k q t hk hf hq ht  ls hl
    refine lv_iload hx hb dX2_sum_8 (lv_at hl 0 rfl) ?_
    refine lv_aload_n hx hb dX2_sum_10 rfl (lv_at hl 3 rfl) ?_
    refine rC_elements S hC dX2_sum_11 ?_
    refine lv_icmp_ge (tgt := 76) hx hb dX2_sum_14 (by decide) (fun c_14 => ?_) (fun c_14 => ?_)
    · rw [nI_leI (by omega) (by omega)] at c_14
      refine lv_lload_n hx hb dX2_sum_76 rfl (lv_at hl 2 rfl) ?_
      exact W.lret (v := t) hx hb hr (fun t9 ht9 _ => ⟨_, rfl, by rw [ht, show k = n by omega], ht9⟩) (fun _ h => nomatch h) dX2_sum_77
    · rw [nI_leI (by omega) (by omega)] at c_14
      refine lv_iload hx hb dX2_sum_17 (lv_at hl 1 rfl) ?_
      refine lv_iload_n hx hb dX2_sum_19 rfl (lv_at hl 5 rfl) ?_
      refine lv_icmp_ge (tgt := 76) hx hb dX2_sum_20 (by decide) (fun c_20 => ?_) (fun c_20 => ?_)
      · refine lv_lload_n hx hb dX2_sum_76 rfl (lv_at hl 2 rfl) ?_
        exact W.lret (v := t) hx hb hr (fun t9 ht9 _ => ⟨_, rfl, by rw [ht]; exact (smt_stop (by omega) (by omega) (by rw [← hq]; exact c_20)).symm, ht9⟩) (fun _ h => nomatch h) dX2_sum_77
      · refine lv_aload_n hx hb dX2_sum_23 rfl (lv_at hl 3 rfl) ?_
        refine rC_woven S hC dX2_sum_24 ?_
        refine lv_iload hx hb dX2_sum_27 (lv_at hl 0 rfl) ?_
        refine rC_ald S hC (by omega) dX2_sum_29 ?_
        refine lv_astore (lv' := [(7, .ref (ad k)), (6, .int (nI k)), (5, .int (nI q)), (3, .long t), (0, .ref x), (1, .int v1), (2, .int v2)]) hx hb dX2_sum_30 hl (by decide) rfl (fun ls hl => ?_)
        refine lv_aload hx hb dX2_sum_32 (lv_at hl 0 rfl) ?_
        refine vp_callSi (va_Run.run (runVN (As := []) (rest := []) (Bh := RdE D (ad k) (f (ad k))) S (c_X0_isVisible l ) (gw_self wk_192) (nk_189 hC.nw) wk_3 wk_191 wp_15 rfl rfl 0 rfl (by decide +kernel) (by decide) ⟨Nat.le_refl _, Nat.le_refl _⟩ (fun _ _ _ h q => RdE.mv h q) (RdE.recv (hC.E (Or.inr ⟨_, (by omega), rfl⟩))) (hC.E (Or.inr ⟨_, (by omega), rfl⟩)) hl.1 (Nat.le_of_ble_eq_true rfl) dX2_sum_34)) (fun r hr => ?_)
        rcases hr with ⟨h_34, rfl⟩ | ⟨h_34, rfl⟩
        · refine lv_if_ne (tgt := 43) hx hb dX2_sum_37 (by decide) (fun c_37 => ?_) (fun c_37 => ?_)
          · refine lv_iload hx hb dX2_sum_43 (lv_at hl 2 rfl) ?_
            refine lv_iload_n hx hb dX2_sum_45 rfl (lv_at hl 5 rfl) ?_
            refine lv_icmp_lt (tgt := 67) hx hb dX2_sum_46 (by decide) (fun c_46 => ?_) (fun c_46 => ?_)
            · refine lv_iinc (v := nI (q + 1)) (lv' := [(5, .int (nI (q + 1))), (7, .ref (ad k)), (6, .int (nI k)), (3, .long t), (0, .ref x), (1, .int v1), (2, .int v2)]) hx hb dX2_sum_67 hl (k := 2) rfl (nI_1 _) (by decide) rfl (fun ls hl => ?_)
              refine lv_iinc (v := nI (k + 1)) (lv' := [(6, .int (nI (k + 1))), (5, .int (nI (q + 1))), (7, .ref (ad k)), (3, .long t), (0, .ref x), (1, .int v1), (2, .int v2)]) hx hb dX2_sum_70 hl (k := 2) rfl (nI_1 _) (by decide) rfl (fun ls hl => ?_)
              refine lv_goto (tgt := 8) hx hb dX2_sum_73 (by decide) ?_
              exact ih (k + 1) (q + 1) _ (by omega) (by omega) (vis_s hq h_34) (smt_n hq ht (fun z => absurd z.2.1 (i32_nle.mpr c_46)))  ls (lv_sub hl [0, 1, 3, 4, 5, 6] rfl)
            · refine lv_aload hx hb dX2_sum_49 (lv_at hl 0 rfl) ?_
              refine rN_kind S (hC.E (Or.inr ⟨_, (by omega), rfl⟩)) hC.nw dX2_sum_51 ?_
              refine lv_iconst (v := 2) hx hb dX2_sum_54 (by decide) ?_
              refine lv_icmp_ne (tgt := 67) hx hb dX2_sum_55 (by decide) (fun c_55 => ?_) (fun c_55 => ?_)
              · refine lv_iinc (v := nI (q + 1)) (lv' := [(5, .int (nI (q + 1))), (7, .ref (ad k)), (6, .int (nI k)), (3, .long t), (0, .ref x), (1, .int v1), (2, .int v2)]) hx hb dX2_sum_67 hl (k := 2) rfl (nI_1 _) (by decide) rfl (fun ls hl => ?_)
                refine lv_iinc (v := nI (k + 1)) (lv' := [(6, .int (nI (k + 1))), (5, .int (nI (q + 1))), (7, .ref (ad k)), (3, .long t), (0, .ref x), (1, .int v1), (2, .int v2)]) hx hb dX2_sum_70 hl (k := 2) rfl (nI_1 _) (by decide) rfl (fun ls hl => ?_)
                refine lv_goto (tgt := 8) hx hb dX2_sum_73 (by decide) ?_
                exact ih (k + 1) (q + 1) _ (by omega) (by omega) (vis_s hq h_34) (smt_n hq ht (fun z => c_55 z.2.2.2))  ls (lv_sub hl [0, 1, 3, 4, 5, 6] rfl)
              · refine lv_lload_n hx hb dX2_sum_58 rfl (lv_at hl 3 rfl) ?_
                refine lv_aload hx hb dX2_sum_59 (lv_at hl 0 rfl) ?_
                refine rN_value S (hC.E (Or.inr ⟨_, (by omega), rfl⟩)) hC.nw dX2_sum_61 ?_
                refine lv_i2l (v := (f (ad k) 8).toInt64) hx hb dX2_sum_64 rfl ?_
                refine lv_ladd hx hb dX2_sum_65 ?_
                refine lv_lstore_n (lv' := [(3, .long (t + ((f (ad k) 8).toInt64))), (7, .ref (ad k)), (6, .int (nI k)), (5, .int (nI q)), (0, .ref x), (1, .int v1), (2, .int v2)]) hx hb dX2_sum_66 rfl hl (by decide) rfl (fun ls hl => ?_)
                refine lv_iinc (v := nI (q + 1)) (lv' := [(5, .int (nI (q + 1))), (3, .long (t + ((f (ad k) 8).toInt64))), (7, .ref (ad k)), (6, .int (nI k)), (0, .ref x), (1, .int v1), (2, .int v2)]) hx hb dX2_sum_67 hl (k := 3) rfl (nI_1 _) (by decide) rfl (fun ls hl => ?_)
                refine lv_iinc (v := nI (k + 1)) (lv' := [(6, .int (nI (k + 1))), (5, .int (nI (q + 1))), (3, .long (t + ((f (ad k) 8).toInt64))), (7, .ref (ad k)), (0, .ref x), (1, .int v1), (2, .int v2)]) hx hb dX2_sum_70 hl (k := 3) rfl (nI_1 _) (by decide) rfl (fun ls hl => ?_)
                refine lv_goto (tgt := 8) hx hb dX2_sum_73 (by decide) ?_
                exact ih (k + 1) (q + 1) _ (by omega) (by omega) (vis_s hq h_34) (smt_s hq ht h_34 (i32_nlt.mp c_46) (i32_nle.mp c_20) c_55)  ls (lv_sub hl [0, 1, 2, 4, 5, 6] rfl)
          · exact absurd (show _ from c_37) (by decide)
        · refine lv_if_ne (tgt := 43) hx hb dX2_sum_37 (by decide) (fun c_37 => ?_) (fun c_37 => ?_)
          · exact absurd (show _ from c_37) (by decide)
          · refine lv_goto (tgt := 70) hx hb dX2_sum_40 (by decide) ?_
            refine lv_iinc (v := nI (k + 1)) (lv' := [(6, .int (nI (k + 1))), (7, .ref (ad k)), (5, .int (nI q)), (3, .long t), (0, .ref x), (1, .int v1), (2, .int v2)]) hx hb dX2_sum_70 hl (k := 1) rfl (nI_1 _) (by decide) rfl (fun ls hl => ?_)
            refine lv_goto (tgt := 8) hx hb dX2_sum_73 (by decide) ?_
            exact ih (k + 1) q _ (by omega) (by omega) (vis_n hq h_34) (smt_n hq ht (fun z => h_34 z.1))  ls (lv_sub hl [0, 2, 3, 4, 5, 6] rfl)
set_option maxHeartbeats 4000000 in
set_option maxRecDepth 100000 in
theorem c_X2_look (l : Launch) {D : va_G} {x u i g w n cn cnt : Nat} {ids : Nat → Int32} {ad : Nat → Nat} {f : Nat → Nat → Int32} (v1 : Int32)  : Met l yX2_look (gws yX2_look cX2_look 2 (some .int)) { frames := 2, cells := 0, slots := 0, locals := 46 } (va_Pc [.ref x, .int v1] (fun U => RdC D x u i g w n cn cnt ids ad f U U.heap)) (vp_Si (fun r => (v1 = 0 ∧ r = nI n) ∨ (v1 = 1 ∧ r = nI (vis (fun k => f (ad k) 5) n)) ∨ (v1 = 2 ∧ r = nI cn) ∨ (v1 = 3 ∧ ((cnt = 0 ∧ r = -1) ∨ (0 < cnt ∧ r = ids (cnt - 1)))) ∨ (v1 = 4 ∧ r = mxw (fun k => f (ad k) 2) n) ∨ (¬ v1 = 0 ∧ ¬ v1 = 1 ∧ ¬ v1 = 2 ∧ ¬ v1 = 3 ∧ ¬ v1 = 4 ∧ r = -1))) 0 0 (fun _ => False) := by
  refine met_go (by decide) (Nat.le_of_ble_eq_true rfl) ?_
  intro p e s m below meth c ls S hr hlocks hnm hC hl
  obtain ⟨hx, hb, hml, hown, hg⟩ := id S
  have hl : lv_has ls 2 [(0, .ref x), (1, .int v1)] := hl
  have hn := hC.n
  refine lv_iload_n hx hb dX2_look_0 rfl (lv_at hl 1 rfl) ?_
  by_cases w_0 : v1 = 0
  · subst w_0
    refine lv_tableIn (off := 35) (tgt := 36) hx hb dX2_look_1 (by decide) (by decide) rfl (by decide) ?_
    refine lv_aload_n hx hb dX2_look_36 rfl (lv_at hl 0 rfl) ?_
    refine rC_elements S hC dX2_look_37 ?_
    exact W.iret (v := (nI n)) hx hb hr (fun t9 ht9 _ => ⟨_, rfl, Or.inl ⟨rfl, rfl⟩, ht9⟩) (fun _ h => nomatch h) dX2_look_40
  by_cases w_1 : v1 = 1
  · subst w_1
    refine lv_tableIn (off := 40) (tgt := 41) hx hb dX2_look_1 (by decide) (by decide) rfl (by decide) ?_
    refine lv_aload_n hx hb dX2_look_41 rfl (lv_at hl 0 rfl) ?_
    refine lv_aload_n hx hb dX2_look_42 rfl (lv_at hl 0 rfl) ?_
    refine rC_elements S hC dX2_look_43 ?_
    refine vp_callSi (va_Run.run (runV (As := [.int (nI n)]) (rest := []) (Bh := RdC D x u i g w n cn cnt ids ad f) S (c_X2_visibleUpTo l n (by omega)) (gw_V wk_185 wk_187 wp_14 wk_1 wk_188) rfl rfl 1 rfl (by decide +kernel) (by decide) ⟨Nat.le_refl _, Nat.le_refl _⟩ (fun _ _ _ h q => RdC.mv h q) hC.recv hC hl.1 (Nat.le_of_ble_eq_true rfl) dX2_look_46)) (fun r_46 hr_46 => ?_)
    subst hr_46
    exact W.iret (v := (nI (vis (fun k => f (ad k) 5) n))) hx hb hr (fun t9 ht9 _ => ⟨_, rfl, Or.inr (Or.inl ⟨rfl, rfl⟩), ht9⟩) (fun _ h => nomatch h) dX2_look_49
  by_cases w_2 : v1 = 2
  · subst w_2
    refine lv_tableIn (off := 49) (tgt := 50) hx hb dX2_look_1 (by decide) (by decide) rfl (by decide) ?_
    refine lv_aload_n hx hb dX2_look_50 rfl (lv_at hl 0 rfl) ?_
    refine rC_changes S hC dX2_look_51 ?_
    exact W.iret (v := (nI cn)) hx hb hr (fun t9 ht9 _ => ⟨_, rfl, Or.inr (Or.inr (Or.inl ⟨rfl, rfl⟩)), ht9⟩) (fun _ h => nomatch h) dX2_look_54
  by_cases w_3 : v1 = 3
  · subst w_3
    refine lv_tableIn (off := 54) (tgt := 55) hx hb dX2_look_1 (by decide) (by decide) rfl (by decide) ?_
    refine lv_aload_n hx hb dX2_look_55 rfl (lv_at hl 0 rfl) ?_
    refine rC_used S hC dX2_look_56 ?_
    refine vp_callSi (va_Run.run (runVN (As := []) (rest := []) (Bh := RdU D u i cnt ids) S (c_X1_greatest l ) (gw_self wk_208) (nk_205 hC.nw) wk_2 wk_207 wp_16 rfl rfl 0 rfl (by decide +kernel) (by decide) ⟨Nat.le_refl _, Nat.le_refl _⟩ (fun _ _ _ h q => RdU.mv h q) hC.U.recv hC.U hl.1 (Nat.le_of_ble_eq_true rfl) dX2_look_59)) (fun r_59 hr_59 => ?_)
    exact W.iret (v := r_59) hx hb hr (fun t9 ht9 _ => ⟨_, rfl, Or.inr (Or.inr (Or.inr (Or.inl ⟨rfl, hr_59⟩))), ht9⟩) (fun _ h => nomatch h) dX2_look_62
  by_cases w_4 : v1 = 4
  · subst w_4
    refine lv_tableIn (off := 62) (tgt := 63) hx hb dX2_look_1 (by decide) (by decide) rfl (by decide) ?_
    refine lv_aload_n hx hb dX2_look_63 rfl (lv_at hl 0 rfl) ?_
    refine vp_callSi (va_Run.run (runV (As := []) (rest := []) (Bh := RdC D x u i g w n cn cnt ids ad f) S (c_X2_longestWay l ) (gw_V wk_209 wk_211 wp_17 wk_1 wk_212) rfl rfl 0 rfl (by decide +kernel) (by decide) ⟨Nat.le_refl _, Nat.le_refl _⟩ (fun _ _ _ h q => RdC.mv h q) hC.recv hC hl.1 (Nat.le_of_ble_eq_true rfl) dX2_look_64)) (fun r_64 hr_64 => ?_)
    subst hr_64
    exact W.iret (v := (mxw (fun k => f (ad k) 2) n)) hx hb hr (fun t9 ht9 _ => ⟨_, rfl, Or.inr (Or.inr (Or.inr (Or.inr (Or.inl ⟨rfl, rfl⟩)))), ht9⟩) (fun _ h => nomatch h) dX2_look_67
  have z_0 := lv_neT w_0 (show (0 : Int32).toInt = 0 by decide)
  have z_1 := lv_neT w_1 (show (1 : Int32).toInt = 1 by decide)
  have z_2 := lv_neT w_2 (show (2 : Int32).toInt = 2 by decide)
  have z_3 := lv_neT w_3 (show (3 : Int32).toInt = 3 by decide)
  have z_4 := lv_neT w_4 (show (4 : Int32).toInt = 4 by decide)
  refine lv_tableOut (tgt := 68) hx hb dX2_look_1 (by omega) (by decide) ?_
  refine lv_iconst (v := (-1)) hx hb dX2_look_68 (by decide) ?_
  exact W.iret (v := (-1)) hx hb hr (fun t9 ht9 _ => ⟨_, rfl, Or.inr (Or.inr (Or.inr (Or.inr (Or.inr ⟨w_0, w_1, w_2, w_3, w_4, rfl⟩)))), ht9⟩) (fun _ h => nomatch h) dX2_look_69
set_option maxHeartbeats 4000000 in
set_option maxRecDepth 100000 in
theorem c_X2_rowForNew (l : Launch) {D : va_G} {x u i g w n cn cnt : Nat} {ids : Nat → Int32} {ad : Nat → Nat} {f : Nat → Nat → Int32} (v1 : Int32) (b : Nat) {T : Nat} (hbT : Par f ad n g b T) : Met l yX2_rowForNew (gws yX2_rowForNew cX2_rowForNew 4 (some .int)) { frames := 1, cells := 0, slots := 0, locals := 22 } (va_Pc [.ref x, .int v1, .ref b] (fun U => RdC D x u i g w n cn cnt ids ad f U U.heap)) (vp_Si (fun r => ∃ q, Lie (fun k => f (ad k) 0) n T v1 q ∧ r = nI q)) 0 0 (fun _ => False) := by
  refine met_go (by decide) (Nat.le_of_ble_eq_true rfl) ?_
  intro p e s m below meth c ls S hr hlocks hnm hC hl
  obtain ⟨hx, hb, hml, hown, hg⟩ := id S
  have hl : lv_has ls 4 [(0, .ref x), (1, .int v1), (2, .ref b)] := hl
  have hn := hC.n
  rcases hbT with ⟨hb9, h0, hT9⟩ | ⟨t, ht, hb9, hT9, h0, hu⟩
  · subst hb9 hT9
    refine lv_aload_n hx hb dX2_rowForNew_0 rfl (lv_at hl 2 rfl) ?_
    refine rN_id S (hC.E (Or.inl rfl)) hC.nw dX2_rowForNew_1 ?_
    refine lv_if_ne (tgt := 11) hx hb dX2_rowForNew_4 (by decide) (fun c_4 => ?_) (fun c_4 => ?_)
    · exact absurd h0 c_4
    · refine lv_iconst (v := nI 0) hx hb dX2_rowForNew_7 (by decide) ?_
      refine lv_goto (tgt := 21) hx hb dX2_rowForNew_8 (by decide) ?_
      refine lv_istore_n (lv' := [(3, .int (nI 0)), (0, .ref x), (1, .int v1), (2, .ref g)]) hx hb dX2_rowForNew_21 rfl hl (by decide) rfl (fun ls hl => ?_)
      suffices hloop : ∀ (fuel : Nat) (k : Nat), 0 ≤ k → k ≤ n → n - k < fuel → (∀ j, 0 ≤ j → j < k → v1 < f (ad j) 0) → ∀ ls : Array Slot, lv_has ls 4 [(3, .int (nI k)), (0, .ref x), (1, .int v1), (2, .ref g)] → W p l e { frames := 1, cells := 0, slots := 0, locals := 22 } s m [.ref x, .int v1, .ref g].toArray below meth c s.heap [] 0 0 (MQ below (vp_Si (fun r => ∃ q, Lie (fun k => f (ad k) 0) n 0 v1 q ∧ r = nI q)) [.ref x, .int v1, .ref g].toArray s 0 0 (fun _ => False)) (F0 m 22 ls []) from hloop (n + 1) 0 (Nat.le_refl _) (by omega) (by omega) (fun j h1 h2 => absurd h1 (by omega))  ls (lv_sub hl [0, 1, 2, 3] rfl)
      intro fuel
      induction fuel with
      | zero => intro k hT hk hf hI; omega
      | succ fuel ih =>
        intro k hT hk hf hI  ls hl
        refine lv_iload_n hx hb dX2_rowForNew_22 rfl (lv_at hl 0 rfl) ?_
        refine lv_aload_n hx hb dX2_rowForNew_23 rfl (lv_at hl 1 rfl) ?_
        refine rC_elements S hC dX2_rowForNew_24 ?_
        refine lv_icmp_ge (tgt := 49) hx hb dX2_rowForNew_27 (by decide) (fun c_27 => ?_) (fun c_27 => ?_)
        · rw [nI_leI (by omega) (by omega)] at c_27
          refine lv_iload_n hx hb dX2_rowForNew_49 rfl (lv_at hl 0 rfl) ?_
          exact W.iret (v := (nI k)) hx hb hr (fun t9 ht9 _ => ⟨_, rfl, ⟨k, ⟨hT, hk, hI, fun z => absurd z (by omega)⟩, rfl⟩, ht9⟩) (fun _ h => nomatch h) dX2_rowForNew_50
        · rw [nI_leI (by omega) (by omega)] at c_27
          refine lv_aload_n hx hb dX2_rowForNew_30 rfl (lv_at hl 1 rfl) ?_
          refine rC_woven S hC dX2_rowForNew_31 ?_
          refine lv_iload_n hx hb dX2_rowForNew_34 rfl (lv_at hl 0 rfl) ?_
          refine rC_ald S hC (by omega) dX2_rowForNew_35 ?_
          refine rN_id S (hC.E (Or.inr ⟨_, (by omega), rfl⟩)) hC.nw dX2_rowForNew_36 ?_
          refine lv_iload_n hx hb dX2_rowForNew_39 rfl (lv_at hl 2 rfl) ?_
          refine lv_icmp_le (tgt := 49) hx hb dX2_rowForNew_40 (by decide) (fun c_40 => ?_) (fun c_40 => ?_)
          · refine lv_iload_n hx hb dX2_rowForNew_49 rfl (lv_at hl 0 rfl) ?_
            exact W.iret (v := (nI k)) hx hb hr (fun t9 ht9 _ => ⟨_, rfl, ⟨k, ⟨hT, hk, hI, fun _ => i32_nlt.mpr c_40⟩, rfl⟩, ht9⟩) (fun _ h => nomatch h) dX2_rowForNew_50
          · refine lv_iinc (v := nI (k + 1)) (lv' := [(3, .int (nI (k + 1))), (0, .ref x), (1, .int v1), (2, .ref g)]) hx hb dX2_rowForNew_43 hl (k := 0) rfl (nI_1 _) (by decide) rfl (fun ls hl => ?_)
            refine lv_goto (tgt := 22) hx hb dX2_rowForNew_46 (by decide) ?_
            exact ih (k + 1) (by omega) (by omega) (by omega) (lie_s hI (i32_nle.mp c_40))  ls (lv_sub hl [0, 1, 2, 3] rfl)
  · subst hb9 hT9
    refine lv_aload_n hx hb dX2_rowForNew_0 rfl (lv_at hl 2 rfl) ?_
    refine rN_id S (hC.E (Or.inr ⟨_, ht, rfl⟩)) hC.nw dX2_rowForNew_1 ?_
    refine lv_if_ne (tgt := 11) hx hb dX2_rowForNew_4 (by decide) (fun c_4 => ?_) (fun c_4 => ?_)
    · refine lv_aload_n hx hb dX2_rowForNew_11 rfl (lv_at hl 0 rfl) ?_
      refine lv_aload_n hx hb dX2_rowForNew_12 rfl (lv_at hl 2 rfl) ?_
      refine rN_id S (hC.E (Or.inr ⟨_, ht, rfl⟩)) hC.nw dX2_rowForNew_13 ?_
      refine vp_callSi (va_Run.run (runV (As := [.int (f (ad t) 0)]) (rest := []) (Bh := RdC D x u i g w n cn cnt ids ad f) S (c_X2_rowOf l (f (ad t) 0)) (gw_V wk_114 wk_116 wp_3 wk_1 wk_117) rfl rfl 1 rfl (by decide +kernel) (by decide) ⟨Nat.le_refl _, Nat.le_refl _⟩ (fun _ _ _ h q => RdC.mv h q) hC.recv hC hl.1 (Nat.le_of_ble_eq_true rfl) dX2_rowForNew_16)) (fun r hr => ?_)
      rcases hr with ⟨k_16, hk_16, he_16, hf_16, rfl⟩ | ⟨hn_16, rfl⟩
      · have hkt := hu k_16 hk_16 he_16
        subst hkt
        refine lv_iconst (v := nI 1) hx hb dX2_rowForNew_19 (by decide) ?_
        refine lv_iadd hx hb dX2_rowForNew_20 ?_
        rw [nI_add]
        refine lv_istore_n (lv' := [(3, .int (nI (k_16 + 1))), (0, .ref x), (1, .int v1), (2, .ref (ad k_16))]) hx hb dX2_rowForNew_21 rfl hl (by decide) rfl (fun ls hl => ?_)
        suffices hloop : ∀ (fuel : Nat) (k : Nat), (k_16 + 1) ≤ k → k ≤ n → n - k < fuel → (∀ j, (k_16 + 1) ≤ j → j < k → v1 < f (ad j) 0) → ∀ ls : Array Slot, lv_has ls 4 [(3, .int (nI k)), (0, .ref x), (1, .int v1), (2, .ref (ad k_16))] → W p l e { frames := 1, cells := 0, slots := 0, locals := 22 } s m [.ref x, .int v1, .ref (ad k_16)].toArray below meth c s.heap [] 0 0 (MQ below (vp_Si (fun r => ∃ q, Lie (fun k => f (ad k) 0) n (k_16 + 1) v1 q ∧ r = nI q)) [.ref x, .int v1, .ref (ad k_16)].toArray s 0 0 (fun _ => False)) (F0 m 22 ls []) from hloop (n + 1) (k_16 + 1) (Nat.le_refl _) (by omega) (by omega) (fun j h1 h2 => absurd h1 (by omega))  ls (lv_sub hl [0, 1, 2, 3] rfl)
        intro fuel
        induction fuel with
        | zero => intro k hT hk hf hI; omega
        | succ fuel ih =>
          intro k hT hk hf hI  ls hl
          refine lv_iload_n hx hb dX2_rowForNew_22 rfl (lv_at hl 0 rfl) ?_
          refine lv_aload_n hx hb dX2_rowForNew_23 rfl (lv_at hl 1 rfl) ?_
          refine rC_elements S hC dX2_rowForNew_24 ?_
          refine lv_icmp_ge (tgt := 49) hx hb dX2_rowForNew_27 (by decide) (fun c_27 => ?_) (fun c_27 => ?_)
          · rw [nI_leI (by omega) (by omega)] at c_27
            refine lv_iload_n hx hb dX2_rowForNew_49 rfl (lv_at hl 0 rfl) ?_
            exact W.iret (v := (nI k)) hx hb hr (fun t9 ht9 _ => ⟨_, rfl, ⟨k, ⟨hT, hk, hI, fun z => absurd z (by omega)⟩, rfl⟩, ht9⟩) (fun _ h => nomatch h) dX2_rowForNew_50
          · rw [nI_leI (by omega) (by omega)] at c_27
            refine lv_aload_n hx hb dX2_rowForNew_30 rfl (lv_at hl 1 rfl) ?_
            refine rC_woven S hC dX2_rowForNew_31 ?_
            refine lv_iload_n hx hb dX2_rowForNew_34 rfl (lv_at hl 0 rfl) ?_
            refine rC_ald S hC (by omega) dX2_rowForNew_35 ?_
            refine rN_id S (hC.E (Or.inr ⟨_, (by omega), rfl⟩)) hC.nw dX2_rowForNew_36 ?_
            refine lv_iload_n hx hb dX2_rowForNew_39 rfl (lv_at hl 2 rfl) ?_
            refine lv_icmp_le (tgt := 49) hx hb dX2_rowForNew_40 (by decide) (fun c_40 => ?_) (fun c_40 => ?_)
            · refine lv_iload_n hx hb dX2_rowForNew_49 rfl (lv_at hl 0 rfl) ?_
              exact W.iret (v := (nI k)) hx hb hr (fun t9 ht9 _ => ⟨_, rfl, ⟨k, ⟨hT, hk, hI, fun _ => i32_nlt.mpr c_40⟩, rfl⟩, ht9⟩) (fun _ h => nomatch h) dX2_rowForNew_50
            · refine lv_iinc (v := nI (k + 1)) (lv' := [(3, .int (nI (k + 1))), (0, .ref x), (1, .int v1), (2, .ref (ad k_16))]) hx hb dX2_rowForNew_43 hl (k := 0) rfl (nI_1 _) (by decide) rfl (fun ls hl => ?_)
              refine lv_goto (tgt := 22) hx hb dX2_rowForNew_46 (by decide) ?_
              exact ih (k + 1) (by omega) (by omega) (by omega) (lie_s hI (i32_nle.mp c_40))  ls (lv_sub hl [0, 1, 2, 3] rfl)
      · exact absurd rfl (hn_16 t ht)
    · exact absurd c_4 h0
end
section
/-! throwing of our own: words, constants, the statics that a Throwable reads -/
def exw_ : List Cond := [.castable "java/lang/IndexOutOfBoundsException" "java/lang/IndexOutOfBoundsException", .castable "java/lang/IllegalArgumentException" "java/lang/IllegalArgumentException", .declares ⟨"java/lang/RuntimeException", "<init>", "(Ljava/lang/String;)V"⟩, .declares ⟨"java/lang/Exception", "<init>", "(Ljava/lang/String;)V"⟩, .declares ⟨"java/lang/Throwable", "<init>", "(Ljava/lang/String;)V"⟩]
def EXW (U : State) : Prop := ∀ w ∈ exw_, va_Nw w U
theorem EXW.warm {s U : State} (hW : s.WarmedH U.vm) (hZ : EXW s) : EXW U := List.forall_mem_cons.mpr ⟨va_Nw.warmC hW (hZ _ (List.mem_of_getElem? (i := 0) rfl)), List.forall_mem_cons.mpr ⟨va_Nw.warmC hW (hZ _ (List.mem_of_getElem? (i := 1) rfl)), List.forall_mem_cons.mpr ⟨va_Nw.warmD hW (hZ _ (List.mem_of_getElem? (i := 2) rfl)), List.forall_mem_cons.mpr ⟨va_Nw.warmD hW (hZ _ (List.mem_of_getElem? (i := 3) rfl)), List.forall_mem_cons.mpr ⟨va_Nw.warmD hW (hZ _ (List.mem_of_getElem? (i := 4) rfl)), fun _ h => absurd h List.not_mem_nil⟩⟩⟩⟩⟩
def STR (U : State) : Prop := (∃ q, vk_R RX2 93 "no such place" q U) ∧ (∃ q, vk_R RX2 110 "no such what" q U) ∧ (∃ q, vk_R RX2 121 "no such element" q U) ∧ (∃ q, vk_R RX2 124 "no such row" q U) ∧ (∃ q, vk_R RX2 126 "not told for the beginning" q U)
theorem STR.warm {s U : State} (hW : s.WarmedH U.vm) (h : STR s) : STR U := by
  obtain ⟨⟨a0, h0⟩, ⟨a1, h1⟩, ⟨a2, h2⟩, ⟨a3, h3⟩, ⟨a4, h4⟩⟩ := h
  exact ⟨⟨a0, h0.warm hW⟩, ⟨a1, h1.warm hW⟩, ⟨a2, h2.warm hW⟩, ⟨a3, h3.warm hW⟩, ⟨a4, h4.warm hW⟩⟩
def EX (sz : Nat) (U : State) (H : Heap) : Prop := H.size = sz ∧ vx_Zq Bundle.tN "UNASSIGNED_STACK" Bundle.steD (fun q => sz ≤ q) U H ∧ vx_Zq Bundle.tN "SUPPRESSED_SENTINEL" Bundle.listD (fun q => sz ≤ q) U H ∧ EXW U ∧ STR U
theorem EX.mv {sz : Nat} {u U : State} {H : Heap} (hW : u.WarmedH U.vm) (h : EX sz u H) : EX sz U H := ⟨h.1, vx_Zq.moved hW.alike h.2.1, vx_Zq.moved hW.alike h.2.2.1, EXW.warm hW h.2.2.2.1, STR.warm hW h.2.2.2.2⟩
theorem exB_in0 : ∀ w ∈ (vx_atS RX2 95 "java/lang/IndexOutOfBoundsException" ["java/lang/RuntimeException", "java/lang/Exception"]).filter goodWord, w ∈ lw_tbl := by decide +kernel
theorem exB_ex : ∀ w ∈ (vx_atS RX2 95 "java/lang/IndexOutOfBoundsException" ["java/lang/RuntimeException", "java/lang/Exception"]).filter (fun w => !goodWord w), w ∈ exw_ := by decide +kernel
theorem exB_ot : ∀ w ∈ Cond.classLink RX2 91 "java/lang/IndexOutOfBoundsException" :: Cond.initialized "java/lang/IndexOutOfBoundsException" :: vx_atS RX2 95 "java/lang/IndexOutOfBoundsException" ["java/lang/RuntimeException", "java/lang/Exception"], vx_ot w = true := by decide +kernel
theorem exA_in0 : ∀ w ∈ (vx_atS RX2 123 "java/lang/IllegalArgumentException" ["java/lang/RuntimeException", "java/lang/Exception"]).filter goodWord, w ∈ lw_tbl := by decide +kernel
theorem exA_ex : ∀ w ∈ (vx_atS RX2 123 "java/lang/IllegalArgumentException" ["java/lang/RuntimeException", "java/lang/Exception"]).filter (fun w => !goodWord w), w ∈ exw_ := by decide +kernel
theorem exA_ot : ∀ w ∈ Cond.classLink RX2 119 "java/lang/IllegalArgumentException" :: Cond.initialized "java/lang/IllegalArgumentException" :: vx_atS RX2 123 "java/lang/IllegalArgumentException" ["java/lang/RuntimeException", "java/lang/Exception"], vx_ot w = true := by decide +kernel
/-- the head of a method that may throw -/
theorem vx_go {l : Launch} {y : MethodName} {cc : ByteArray} {maxL : Nat} {ret : Option FieldType} {rm : Room} {av : List Value} {B : State → Prop} {Qc : Array Value → State → Outcome → State → Prop} {XC : String → State → State → Prop} {mc ms : Nat} {free : Addr → Prop}
    (hy : plainName y.cls = true) (hn : (lg_sl av).length ≤ maxL)
    (body : ∀ (p : Program) (e : Env) (s : State) (m : MethodId) (below : List Frame) (meth : Method) (c : Code) (ls : Array Slot), CallFix p m c cc maxL s av.toArray gw y.cls → meth.sig.returnType = ret → meth.locks = false → (∀ x ∈ c.exceptionTable.toList, False) → B s → lv_has ls maxL (lv_args 0 av) →
      W p l e rm s m av.toArray below meth c s.heap [] 0 0 (vx_MQ below Qc XC av.toArray s mc ms free) (F0 m 0 ls [])) : vx_Met l y (gws y cc maxL ret) rm (va_Pc av B) Qc XC mc ms free := by
  refine vx_ofW (cc := cc) (maxL := maxL) (ret := ret) hy rfl ?_
  intro p e s m args below meth c s₁ B9 hml hnt hv
  obtain ⟨rfl, hB⟩ := hv
  have hts := atoms_spec (ws := gws y cc maxL ret) B9.pre
  have hg : ∀ w ∈ gw, w.before av.toArray s = true := fun w h => hts w (List.mem_cons_of_mem _ h)
  have hl := lv_entry av (n := maxL) hn
  rw [lg_entry_eq]
  generalize (lg_sl av ++ List.replicate (maxL - (lg_sl av).length) Slot.unset).toArray = ls at hl ⊢
  exact body p e s m below meth c ls ⟨B9.exec, B9.bytes, hml, findClass_of_methodNamed B9.named, hg⟩ B9.returns B9.notSynchronized hnt hB hl
section THR
variable {p : Program} {l : Launch} {e : Env} {R : Room} {s : State} {m : MethodId} {args : Array Value} {below : List Frame} {meth : Method} {c : Code} {cc : ByteArray} {nL pc : Nat} {ls : Array Slot} {Qc : Array Value → State → Outcome → State → Prop} {sz is : Nat} {tx : String}
theorem thrB (hl9 : l.stackTraces = false) (S : CallFix p m c cc nL s args gw RX2) (hnt : ∀ x ∈ c.exceptionTable.toList, False) (hlocks : meth.locks = false) (hE : EX sz s s.heap) (hstr : ∃ q, vk_R RX2 is tx q s) (hsz : ls.size = nL)
    (d0 : decode cc pc = .ok (.new 91, 3)) (d3 : decode cc (pc + 3) = .ok (.dup, 1)) (d4 : decode cc (pc + 4) = .ok (.ldc is, 2)) (d6 : decode cc (pc + 6) = .ok (.invokespecial 95, 3)) (d9 : decode cc (pc + 9) = .ok (.athrow, 1)) (hR : 5 < R.frames ∧ 82 ≤ R.locals ∧ 1 ≤ R.cells ∧ 6 ≤ R.slots) {PX : Prop} (px : PX) :
    W p l e R s m args below meth c s.heap [] 0 0 (vx_MQ below Qc (vx_X (fun _ : Unit => PX) (fun E _ _ => E = "java/lang/IndexOutOfBoundsException") (fun q => sz ≤ q)) args s 1 6 (fun q => sz ≤ q)) (F0 m pc ls []) := by
  obtain ⟨hx, hb, hml, hown, hg⟩ := S
  obtain ⟨sa, hsa⟩ := hstr
  obtain ⟨e1, hU, hN, hW, -⟩ := hE
  exact vx_throwS (cls := "java/lang/IndexOutOfBoundsException") (names := ["java/lang/RuntimeException", "java/lang/Exception"]) (A := fun q => sz ≤ q) hx hb hl9 hown (by decide +kernel) (by decide +kernel) (hg _ wk_228) (hg _ wk_9) hsa
    (vx_hat (fun w hw => hg w (List.mem_filter.mpr ⟨exB_in0 w hw, (List.mem_filter.mp hw).2⟩)) exB_ex (fun w hw => va_Nw.use (by revert w; decide +kernel) (hW w hw))) exB_ot hU hN va_S.rf (hsz.trans hml.symm) d0 d3 d4 d6 d9 (fun x h => (hnt x h).elim)
    hR.1 (by show 0 + _ ≤ _; exact hR.2.1) (by show 0 + 1 ≤ _; exact hR.2.2.1) (by show 0 + 6 ≤ _; exact hR.2.2.2) hlocks (fun t _ h1 h2 => ⟨(), px, rfl, h1, fun q hq _ => h2 q hq⟩) (fun _ h => nomatch h) (by decide) (by decide)
theorem thrA (hl9 : l.stackTraces = false) (S : CallFix p m c cc nL s args gw RX2) (hnt : ∀ x ∈ c.exceptionTable.toList, False) (hlocks : meth.locks = false) (hE : EX sz s s.heap) (hstr : ∃ q, vk_R RX2 is tx q s) (hsz : ls.size = nL)
    (d0 : decode cc pc = .ok (.new 119, 3)) (d3 : decode cc (pc + 3) = .ok (.dup, 1)) (d4 : decode cc (pc + 4) = .ok (.ldc is, 2)) (d6 : decode cc (pc + 6) = .ok (.invokespecial 123, 3)) (d9 : decode cc (pc + 9) = .ok (.athrow, 1)) (hR : 5 < R.frames ∧ 82 ≤ R.locals ∧ 1 ≤ R.cells ∧ 6 ≤ R.slots) {PX : Prop} (px : PX) :
    W p l e R s m args below meth c s.heap [] 0 0 (vx_MQ below Qc (vx_X (fun _ : Unit => PX) (fun E _ _ => E = "java/lang/IllegalArgumentException") (fun q => sz ≤ q)) args s 1 6 (fun q => sz ≤ q)) (F0 m pc ls []) := by
  obtain ⟨hx, hb, hml, hown, hg⟩ := S
  obtain ⟨sa, hsa⟩ := hstr
  obtain ⟨e1, hU, hN, hW, -⟩ := hE
  exact vx_throwS (cls := "java/lang/IllegalArgumentException") (names := ["java/lang/RuntimeException", "java/lang/Exception"]) (A := fun q => sz ≤ q) hx hb hl9 hown (by decide +kernel) (by decide +kernel) (hg _ wk_304) (hg _ wk_10) hsa
    (vx_hat (fun w hw => hg w (List.mem_filter.mpr ⟨exA_in0 w hw, (List.mem_filter.mp hw).2⟩)) exA_ex (fun w hw => va_Nw.use (by revert w; decide +kernel) (hW w hw))) exA_ot hU hN va_S.rf (hsz.trans hml.symm) d0 d3 d4 d6 d9 (fun x h => (hnt x h).elim)
    hR.1 (by show 0 + _ ≤ _; exact hR.2.1) (by show 0 + 1 ≤ _; exact hR.2.2.1) (by show 0 + 6 ≤ _; exact hR.2.2.2) hlocks (fun t _ h1 h2 => ⟨(), px, rfl, h1, fun q hq _ => h2 q hq⟩) (fun _ h => nomatch h) (by decide) (by decide)
end THR
end
section
set_option maxHeartbeats 4000000 in
set_option maxRecDepth 100000 in
theorem c_X2_at {l : Launch} (hl9 : l.stackTraces = false) {D : va_G} {x u i g w n cn cnt : Nat} {ids : Nat → Int32} {ad : Nat → Nat} {f : Nat → Nat → Int32} {sz : Nat} (v1 : Int32) (v2 : Int32) : vx_Met l yX2_at (gws yX2_at cX2_at 4 (some .int)) { frames := 6, cells := 1, slots := 6, locals := 82 } (va_Pc [.ref x, .int v1, .int v2] (fun U => (RdC D x u i g w n cn cnt ids ad f U U.heap ∧ EX sz U U.heap))) (va_Qi (fun r (_ : Unit) => ∃ k, k < n ∧ f (ad k) 5 = 0 ∧ nI (vis (fun k => f (ad k) 5) k) = v1 ∧ ((v2 = 0 ∧ r = f (ad k) 0) ∨ (v2 = 1 ∧ r = f (ad k) 7) ∨ (v2 = 2 ∧ r = f (ad k) 8) ∨ (v2 = 3 ∧ r = f (ad k) 6))) (fun _ _ => True) (fun q => sz ≤ q)) (vx_X (fun _ : Unit => (∀ k, k < n → f (ad k) 5 = 0 → ¬ nI (vis (fun k => f (ad k) 5) k) = v1) ∨ (¬ v2 = 0 ∧ ¬ v2 = 1 ∧ ¬ v2 = 2 ∧ ¬ v2 = 3)) (fun E _ _ => E = "java/lang/IndexOutOfBoundsException") (fun q => sz ≤ q)) 1 6 (fun q => sz ≤ q) := by
  refine vx_go (by decide) (Nat.le_of_ble_eq_true rfl) ?_
  intro p e s m below meth c ls S hr hlocks hnt hB hl
  obtain ⟨hC, hE⟩ := hB
  obtain ⟨hx, hb, hml, hown, hg⟩ := id S
  have hl : lv_has ls 4 [(0, .ref x), (1, .int v1), (2, .int v2)] := hl
  have hn := hC.n
  refine lv_aload_n hx hb dX2_at_0 rfl (lv_at hl 0 rfl) ?_
  refine lv_iload_n hx hb dX2_at_1 rfl (lv_at hl 1 rfl) ?_
  refine va_csq (va_Run.run (runV (As := [.int v1]) (rest := []) (Bh := RdC D x u i g w n cn cnt ids ad f) S (c_X2_elementAt l v1) (gw_V wk_224 wk_226 wp_18 wk_1 wk_227) rfl rfl 1 rfl (by decide +kernel) (by decide) ⟨Nat.zero_le _, Nat.zero_le _⟩ (fun _ _ _ h q => RdC.mv h q) hC.recv hC hl.1 (Nat.le_of_ble_eq_true rfl) dX2_at_2)) (fun r hr => ?_)
  rcases hr with ⟨k_2, hk_2, hg_2, he_2, rfl⟩ | ⟨hn_2, rfl⟩
  · show W p l e { frames := 6, cells := 1, slots := 6, locals := 82 } s m [.ref x, .int v1, .int v2].toArray below meth c s.heap [] 0 0 (vx_MQ below (va_Qi (fun r (_ : Unit) => ∃ k, k < n ∧ f (ad k) 5 = 0 ∧ nI (vis (fun k => f (ad k) 5) k) = v1 ∧ ((v2 = 0 ∧ r = f (ad k) 0) ∨ (v2 = 1 ∧ r = f (ad k) 7) ∨ (v2 = 2 ∧ r = f (ad k) 8) ∨ (v2 = 3 ∧ r = f (ad k) 6))) (fun _ _ => True) (fun q => sz ≤ q)) (vx_X (fun _ : Unit => (∀ k, k < n → f (ad k) 5 = 0 → ¬ nI (vis (fun k => f (ad k) 5) k) = v1) ∨ (¬ v2 = 0 ∧ ¬ v2 = 1 ∧ ¬ v2 = 2 ∧ ¬ v2 = 3)) (fun E _ _ => E = "java/lang/IndexOutOfBoundsException") (fun q => sz ≤ q)) [.ref x, .int v1, .int v2].toArray s 1 6 (fun q => sz ≤ q)) (F0 m 5 ls [.ref (ad k_2)])
    refine lv_astore_n (lv' := [(3, .ref (ad k_2)), (0, .ref x), (1, .int v1), (2, .int v2)]) hx hb dX2_at_5 rfl hl (by decide) rfl (fun ls hl => ?_)
    refine lv_aload_n hx hb dX2_at_6 rfl (lv_at hl 0 rfl) ?_
    refine lv_ifnonnull (tgt := 20) hx hb dX2_at_7 (by decide) ?_
    refine lv_iload_n hx hb dX2_at_20 rfl (lv_at hl 3 rfl) ?_
    by_cases w_0 : v2 = 0
    · subst w_0
      refine lv_tableIn (off := 31) (tgt := 52) hx hb dX2_at_21 (by decide) (by decide) rfl (by decide) ?_
      refine lv_aload_n hx hb dX2_at_52 rfl (lv_at hl 0 rfl) ?_
      refine rN_id S (hC.E (Or.inr ⟨_, hk_2, rfl⟩)) hC.nw dX2_at_53 ?_
      refine W.widen (k := 1) (n := 6) (by omega) (by omega) ?_
      refine vx_ret ?_
      exact W.iret (v := (f (ad k_2) 0)) hx hb hr (fun t9 ht9 _ => ⟨⟨_, (), rfl, ⟨k_2, hk_2, hg_2, he_2, Or.inl (⟨rfl, rfl⟩)⟩, trivial⟩, by rw [ht9]; exact Nat.le_refl _, fun q _ _ => by rw [ht9]⟩) (fun _ h => nomatch h) dX2_at_56
    by_cases w_1 : v2 = 1
    · subst w_1
      refine lv_tableIn (off := 36) (tgt := 57) hx hb dX2_at_21 (by decide) (by decide) rfl (by decide) ?_
      refine lv_aload_n hx hb dX2_at_57 rfl (lv_at hl 0 rfl) ?_
      refine rN_kind S (hC.E (Or.inr ⟨_, hk_2, rfl⟩)) hC.nw dX2_at_58 ?_
      refine W.widen (k := 1) (n := 6) (by omega) (by omega) ?_
      refine vx_ret ?_
      exact W.iret (v := (f (ad k_2) 7)) hx hb hr (fun t9 ht9 _ => ⟨⟨_, (), rfl, ⟨k_2, hk_2, hg_2, he_2, Or.inr (Or.inl (⟨rfl, rfl⟩))⟩, trivial⟩, by rw [ht9]; exact Nat.le_refl _, fun q _ _ => by rw [ht9]⟩) (fun _ h => nomatch h) dX2_at_61
    by_cases w_2 : v2 = 2
    · subst w_2
      refine lv_tableIn (off := 41) (tgt := 62) hx hb dX2_at_21 (by decide) (by decide) rfl (by decide) ?_
      refine lv_aload_n hx hb dX2_at_62 rfl (lv_at hl 0 rfl) ?_
      refine rN_value S (hC.E (Or.inr ⟨_, hk_2, rfl⟩)) hC.nw dX2_at_63 ?_
      refine W.widen (k := 1) (n := 6) (by omega) (by omega) ?_
      refine vx_ret ?_
      exact W.iret (v := (f (ad k_2) 8)) hx hb hr (fun t9 ht9 _ => ⟨⟨_, (), rfl, ⟨k_2, hk_2, hg_2, he_2, Or.inr (Or.inr (Or.inl (⟨rfl, rfl⟩)))⟩, trivial⟩, by rw [ht9]; exact Nat.le_refl _, fun q _ _ => by rw [ht9]⟩) (fun _ h => nomatch h) dX2_at_66
    by_cases w_3 : v2 = 3
    · subst w_3
      refine lv_tableIn (off := 46) (tgt := 67) hx hb dX2_at_21 (by decide) (by decide) rfl (by decide) ?_
      refine lv_aload_n hx hb dX2_at_67 rfl (lv_at hl 0 rfl) ?_
      refine rN_standing S (hC.E (Or.inr ⟨_, hk_2, rfl⟩)) hC.nw dX2_at_68 ?_
      refine W.widen (k := 1) (n := 6) (by omega) (by omega) ?_
      refine vx_ret ?_
      exact W.iret (v := (f (ad k_2) 6)) hx hb hr (fun t9 ht9 _ => ⟨⟨_, (), rfl, ⟨k_2, hk_2, hg_2, he_2, Or.inr (Or.inr (Or.inr (⟨rfl, rfl⟩)))⟩, trivial⟩, by rw [ht9]; exact Nat.le_refl _, fun q _ _ => by rw [ht9]⟩) (fun _ h => nomatch h) dX2_at_71
    have z_0 := lv_neT w_0 (show (0 : Int32).toInt = 0 by decide)
    have z_1 := lv_neT w_1 (show (1 : Int32).toInt = 1 by decide)
    have z_2 := lv_neT w_2 (show (2 : Int32).toInt = 2 by decide)
    have z_3 := lv_neT w_3 (show (3 : Int32).toInt = 3 by decide)
    refine lv_tableOut (tgt := 72) hx hb dX2_at_21 (by omega) (by decide) ?_
    exact thrB hl9 S hnt hlocks hE hE.2.2.2.2.2.1 hl.1 dX2_at_72 dX2_at_75 dX2_at_76 dX2_at_78 dX2_at_81 (by decide) (Or.inr ⟨w_0, w_1, w_2, w_3⟩)
  · show W p l e { frames := 6, cells := 1, slots := 6, locals := 82 } s m [.ref x, .int v1, .int v2].toArray below meth c s.heap [] 0 0 (vx_MQ below (va_Qi (fun r (_ : Unit) => ∃ k, k < n ∧ f (ad k) 5 = 0 ∧ nI (vis (fun k => f (ad k) 5) k) = v1 ∧ ((v2 = 0 ∧ r = f (ad k) 0) ∨ (v2 = 1 ∧ r = f (ad k) 7) ∨ (v2 = 2 ∧ r = f (ad k) 8) ∨ (v2 = 3 ∧ r = f (ad k) 6))) (fun _ _ => True) (fun q => sz ≤ q)) (vx_X (fun _ : Unit => (∀ k, k < n → f (ad k) 5 = 0 → ¬ nI (vis (fun k => f (ad k) 5) k) = v1) ∨ (¬ v2 = 0 ∧ ¬ v2 = 1 ∧ ¬ v2 = 2 ∧ ¬ v2 = 3)) (fun E _ _ => E = "java/lang/IndexOutOfBoundsException") (fun q => sz ≤ q)) [.ref x, .int v1, .int v2].toArray s 1 6 (fun q => sz ≤ q)) (F0 m 5 ls [.null])
    refine lv_astore_nN (lv' := [(3, .null), (0, .ref x), (1, .int v1), (2, .int v2)]) hx hb dX2_at_5 rfl hl (by decide) rfl (fun ls hl => ?_)
    refine lv_aload_nN hx hb dX2_at_6 rfl (lv_at hl 0 rfl) ?_
    refine lv_ifnonnullN hx hb dX2_at_7 ?_
    exact thrB hl9 S hnt hlocks hE hE.2.2.2.2.1 hl.1 dX2_at_10 dX2_at_13 dX2_at_14 dX2_at_16 dX2_at_19 (by decide) (Or.inl hn_2)
set_option maxHeartbeats 4000000 in
set_option maxRecDepth 100000 in
theorem c_X2_ahead {l : Launch} (hl9 : l.stackTraces = false) {D : va_G} {x u i g w n cn cnt : Nat} {ids : Nat → Int32} {ad : Nat → Nat} {f : Nat → Nat → Int32} {sz : Nat} (v1 : Int32) : vx_Met l yX2_ahead (gws yX2_ahead cX2_ahead 3 (some .int)) { frames := 6, cells := 1, slots := 6, locals := 82 } (va_Pc [.ref x, .int v1] (fun U => (RdC D x u i g w n cn cnt ids ad f U U.heap ∧ EX sz U U.heap))) (va_Qi (fun r (_ : Unit) => ∃ k, k < n ∧ f (ad k) 0 = v1 ∧ r = nI (vis (fun k => f (ad k) 5) k)) (fun _ _ => True) (fun q => sz ≤ q)) (vx_X (fun _ : Unit => ∀ k, k < n → ¬ f (ad k) 0 = v1) (fun E _ _ => E = "java/lang/IllegalArgumentException") (fun q => sz ≤ q)) 1 6 (fun q => sz ≤ q) := by
  refine vx_go (by decide) (Nat.le_of_ble_eq_true rfl) ?_
  intro p e s m below meth c ls S hr hlocks hnt hB hl
  obtain ⟨hC, hE⟩ := hB
  obtain ⟨hx, hb, hml, hown, hg⟩ := id S
  have hl : lv_has ls 3 [(0, .ref x), (1, .int v1)] := hl
  have hn := hC.n
  refine lv_aload_n hx hb dX2_ahead_0 rfl (lv_at hl 0 rfl) ?_
  refine lv_iload_n hx hb dX2_ahead_1 rfl (lv_at hl 1 rfl) ?_
  refine vp_callSi (va_Run.run (runV (As := [.int v1]) (rest := []) (Bh := RdC D x u i g w n cn cnt ids ad f) S (c_X2_rowOf l v1) (gw_V wk_114 wk_116 wp_3 wk_1 wk_117) rfl rfl 1 rfl (by decide +kernel) (by decide) ⟨Nat.zero_le _, Nat.zero_le _⟩ (fun _ _ _ h q => RdC.mv h q) hC.recv hC hl.1 (Nat.le_of_ble_eq_true rfl) dX2_ahead_2)) (fun r hr => ?_)
  rcases hr with ⟨k_2, hk_2, he_2, hf_2, rfl⟩ | ⟨hn_2, rfl⟩
  · refine lv_istore_n (lv' := [(2, .int (nI k_2)), (0, .ref x), (1, .int v1)]) hx hb dX2_ahead_5 rfl hl (by decide) rfl (fun ls hl => ?_)
    refine lv_iload_n hx hb dX2_ahead_6 rfl (lv_at hl 0 rfl) ?_
    refine lv_iconst (v := (-1)) hx hb dX2_ahead_7 (by decide) ?_
    refine lv_icmp_ne (tgt := 21) hx hb dX2_ahead_8 (by decide) (fun c_8 => ?_) (fun c_8 => ?_)
    · refine lv_aload_n hx hb dX2_ahead_21 rfl (lv_at hl 1 rfl) ?_
      refine lv_iload_n hx hb dX2_ahead_22 rfl (lv_at hl 0 rfl) ?_
      refine vp_callSi (va_Run.run (runV (As := [.int (nI k_2)]) (rest := []) (Bh := RdC D x u i g w n cn cnt ids ad f) S (c_X2_visibleUpTo l k_2 (by omega)) (gw_V wk_185 wk_187 wp_14 wk_1 wk_188) rfl rfl 1 rfl (by decide +kernel) (by decide) ⟨Nat.zero_le _, Nat.zero_le _⟩ (fun _ _ _ h q => RdC.mv h q) hC.recv hC hl.1 (Nat.le_of_ble_eq_true rfl) dX2_ahead_23)) (fun r_23 hr_23 => ?_)
      subst hr_23
      refine W.widen (k := 1) (n := 6) (by omega) (by omega) ?_
      refine vx_ret ?_
      exact W.iret (v := (nI (vis (fun k => f (ad k) 5) k_2))) hx hb hr (fun t9 ht9 _ => ⟨⟨_, (), rfl, ⟨k_2, hk_2, he_2, rfl⟩, trivial⟩, by rw [ht9]; exact Nat.le_refl _, fun q _ _ => by rw [ht9]⟩) (fun _ h => nomatch h) dX2_ahead_26
    · exact absurd c_8 (int_m1_ne _ (by omega))
  · refine lv_istore_n (lv' := [(2, .int (-1)), (0, .ref x), (1, .int v1)]) hx hb dX2_ahead_5 rfl hl (by decide) rfl (fun ls hl => ?_)
    refine lv_iload_n hx hb dX2_ahead_6 rfl (lv_at hl 0 rfl) ?_
    refine lv_iconst (v := (-1)) hx hb dX2_ahead_7 (by decide) ?_
    refine lv_icmp_ne (tgt := 21) hx hb dX2_ahead_8 (by decide) (fun c_8 => ?_) (fun c_8 => ?_)
    · exact absurd (show _ from c_8) (by decide)
    · exact thrA hl9 S hnt hlocks hE hE.2.2.2.2.2.2.1 hl.1 dX2_ahead_11 dX2_ahead_14 dX2_ahead_15 dX2_ahead_17 dX2_ahead_20 (by decide) (hn_2)
set_option maxHeartbeats 4000000 in
set_option maxRecDepth 100000 in
theorem c_X2_before {l : Launch} (hl9 : l.stackTraces = false) {D : va_G} {x u i g w n cn cnt : Nat} {ids : Nat → Int32} {ad : Nat → Nat} {f : Nat → Nat → Int32} {sz : Nat} (v1 : Int32) (v2 : Int32) : vx_Met l yX2_before (gws yX2_before cX2_before 5 (some .boolean)) { frames := 6, cells := 1, slots := 6, locals := 82 } (va_Pc [.ref x, .int v1, .int v2] (fun U => (RdC D x u i g w n cn cnt ids ad f U U.heap ∧ EX sz U U.heap))) (va_Qi (fun r (_ : Unit) => ∃ a b, a < n ∧ b < n ∧ f (ad a) 0 = v1 ∧ f (ad b) 0 = v2 ∧ ((a < b ∧ r = 1) ∨ (¬ a < b ∧ r = 0))) (fun _ _ => True) (fun q => sz ≤ q)) (vx_X (fun _ : Unit => (∀ k, k < n → ¬ f (ad k) 0 = v1) ∨ (∀ k, k < n → ¬ f (ad k) 0 = v2)) (fun E _ _ => E = "java/lang/IllegalArgumentException") (fun q => sz ≤ q)) 1 6 (fun q => sz ≤ q) := by
  refine vx_go (by decide) (Nat.le_of_ble_eq_true rfl) ?_
  intro p e s m below meth c ls S hr hlocks hnt hB hl
  obtain ⟨hC, hE⟩ := hB
  obtain ⟨hx, hb, hml, hown, hg⟩ := id S
  have hl : lv_has ls 5 [(0, .ref x), (1, .int v1), (2, .int v2)] := hl
  have hn := hC.n
  refine lv_aload_n hx hb dX2_before_0 rfl (lv_at hl 0 rfl) ?_
  refine lv_iload_n hx hb dX2_before_1 rfl (lv_at hl 1 rfl) ?_
  refine vp_callSi (va_Run.run (runV (As := [.int v1]) (rest := []) (Bh := RdC D x u i g w n cn cnt ids ad f) S (c_X2_rowOf l v1) (gw_V wk_114 wk_116 wp_3 wk_1 wk_117) rfl rfl 1 rfl (by decide +kernel) (by decide) ⟨Nat.zero_le _, Nat.zero_le _⟩ (fun _ _ _ h q => RdC.mv h q) hC.recv hC hl.1 (Nat.le_of_ble_eq_true rfl) dX2_before_2)) (fun r hr => ?_)
  rcases hr with ⟨k_2, hk_2, he_2, hf_2, rfl⟩ | ⟨hn_2, rfl⟩
  · refine lv_istore_n (lv' := [(3, .int (nI k_2)), (0, .ref x), (1, .int v1), (2, .int v2)]) hx hb dX2_before_5 rfl hl (by decide) rfl (fun ls hl => ?_)
    refine lv_aload_n hx hb dX2_before_6 rfl (lv_at hl 1 rfl) ?_
    refine lv_iload_n hx hb dX2_before_7 rfl (lv_at hl 3 rfl) ?_
    refine vp_callSi (va_Run.run (runV (As := [.int v2]) (rest := []) (Bh := RdC D x u i g w n cn cnt ids ad f) S (c_X2_rowOf l v2) (gw_V wk_114 wk_116 wp_3 wk_1 wk_117) rfl rfl 1 rfl (by decide +kernel) (by decide) ⟨Nat.zero_le _, Nat.zero_le _⟩ (fun _ _ _ h q => RdC.mv h q) hC.recv hC hl.1 (Nat.le_of_ble_eq_true rfl) dX2_before_8)) (fun r hr => ?_)
    rcases hr with ⟨k_8, hk_8, he_8, hf_8, rfl⟩ | ⟨hn_8, rfl⟩
    · refine lv_istore (lv' := [(4, .int (nI k_8)), (3, .int (nI k_2)), (0, .ref x), (1, .int v1), (2, .int v2)]) hx hb dX2_before_11 hl (by decide) rfl (fun ls hl => ?_)
      refine lv_iload_n hx hb dX2_before_13 rfl (lv_at hl 1 rfl) ?_
      refine lv_iconst (v := (-1)) hx hb dX2_before_14 (by decide) ?_
      refine lv_icmp_eq (tgt := 24) hx hb dX2_before_15 (by decide) (fun c_15 => ?_) (fun c_15 => ?_)
      · exact absurd c_15 (int_m1_ne _ (by omega))
      · refine lv_iload hx hb dX2_before_18 (lv_at hl 0 rfl) ?_
        refine lv_iconst (v := (-1)) hx hb dX2_before_20 (by decide) ?_
        refine lv_icmp_ne (tgt := 34) hx hb dX2_before_21 (by decide) (fun c_21 => ?_) (fun c_21 => ?_)
        · refine lv_iload_n hx hb dX2_before_34 rfl (lv_at hl 1 rfl) ?_
          refine lv_iload hx hb dX2_before_35 (lv_at hl 0 rfl) ?_
          refine lv_icmp_ge (tgt := 44) hx hb dX2_before_37 (by decide) (fun c_37 => ?_) (fun c_37 => ?_)
          · rw [nI_leI (by omega) (by omega)] at c_37
            refine lv_iconst (v := 0) hx hb dX2_before_44 (by decide) ?_
            refine W.widen (k := 1) (n := 6) (by omega) (by omega) ?_
            refine vx_ret ?_
            exact W.zret (v := 0) hx hb hr rfl (fun t9 ht9 _ => ⟨⟨_, (), rfl, ⟨k_2, k_8, hk_2, hk_8, he_2, he_8, Or.inr ⟨by omega, rfl⟩⟩, trivial⟩, by rw [ht9]; exact Nat.le_refl _, fun q _ _ => by rw [ht9]⟩) (fun _ h => nomatch h) dX2_before_45
          · rw [nI_leI (by omega) (by omega)] at c_37
            refine lv_iconst (v := 1) hx hb dX2_before_40 (by decide) ?_
            refine lv_goto (tgt := 45) hx hb dX2_before_41 (by decide) ?_
            refine W.widen (k := 1) (n := 6) (by omega) (by omega) ?_
            refine vx_ret ?_
            exact W.zret (v := 1) hx hb hr rfl (fun t9 ht9 _ => ⟨⟨_, (), rfl, ⟨k_2, k_8, hk_2, hk_8, he_2, he_8, Or.inl ⟨by omega, rfl⟩⟩, trivial⟩, by rw [ht9]; exact Nat.le_refl _, fun q _ _ => by rw [ht9]⟩) (fun _ h => nomatch h) dX2_before_45
        · exact absurd c_21 (int_m1_ne _ (by omega))
    · refine lv_istore (lv' := [(4, .int (-1)), (3, .int (nI k_2)), (0, .ref x), (1, .int v1), (2, .int v2)]) hx hb dX2_before_11 hl (by decide) rfl (fun ls hl => ?_)
      refine lv_iload_n hx hb dX2_before_13 rfl (lv_at hl 1 rfl) ?_
      refine lv_iconst (v := (-1)) hx hb dX2_before_14 (by decide) ?_
      refine lv_icmp_eq (tgt := 24) hx hb dX2_before_15 (by decide) (fun c_15 => ?_) (fun c_15 => ?_)
      · exact absurd c_15 (int_m1_ne _ (by omega))
      · refine lv_iload hx hb dX2_before_18 (lv_at hl 0 rfl) ?_
        refine lv_iconst (v := (-1)) hx hb dX2_before_20 (by decide) ?_
        refine lv_icmp_ne (tgt := 34) hx hb dX2_before_21 (by decide) (fun c_21 => ?_) (fun c_21 => ?_)
        · exact absurd (show _ from c_21) (by decide)
        · exact thrA hl9 S hnt hlocks hE hE.2.2.2.2.2.2.1 hl.1 dX2_before_24 dX2_before_27 dX2_before_28 dX2_before_30 dX2_before_33 (by decide) (Or.inr hn_8)
  · refine lv_istore_n (lv' := [(3, .int (-1)), (0, .ref x), (1, .int v1), (2, .int v2)]) hx hb dX2_before_5 rfl hl (by decide) rfl (fun ls hl => ?_)
    refine lv_aload_n hx hb dX2_before_6 rfl (lv_at hl 1 rfl) ?_
    refine lv_iload_n hx hb dX2_before_7 rfl (lv_at hl 3 rfl) ?_
    refine vp_callSi (va_Run.run (runV (As := [.int v2]) (rest := []) (Bh := RdC D x u i g w n cn cnt ids ad f) S (c_X2_rowOf l v2) (gw_V wk_114 wk_116 wp_3 wk_1 wk_117) rfl rfl 1 rfl (by decide +kernel) (by decide) ⟨Nat.zero_le _, Nat.zero_le _⟩ (fun _ _ _ h q => RdC.mv h q) hC.recv hC hl.1 (Nat.le_of_ble_eq_true rfl) dX2_before_8)) (fun r hr => ?_)
    rcases hr with ⟨k_8, hk_8, he_8, hf_8, rfl⟩ | ⟨hn_8, rfl⟩
    · refine lv_istore (lv' := [(4, .int (nI k_8)), (3, .int (-1)), (0, .ref x), (1, .int v1), (2, .int v2)]) hx hb dX2_before_11 hl (by decide) rfl (fun ls hl => ?_)
      refine lv_iload_n hx hb dX2_before_13 rfl (lv_at hl 1 rfl) ?_
      refine lv_iconst (v := (-1)) hx hb dX2_before_14 (by decide) ?_
      refine lv_icmp_eq (tgt := 24) hx hb dX2_before_15 (by decide) (fun c_15 => ?_) (fun c_15 => ?_)
      · exact thrA hl9 S hnt hlocks hE hE.2.2.2.2.2.2.1 hl.1 dX2_before_24 dX2_before_27 dX2_before_28 dX2_before_30 dX2_before_33 (by decide) (Or.inl hn_2)
      · exact absurd (show _ from c_15) (by decide)
    · refine lv_istore (lv' := [(4, .int (-1)), (3, .int (-1)), (0, .ref x), (1, .int v1), (2, .int v2)]) hx hb dX2_before_11 hl (by decide) rfl (fun ls hl => ?_)
      refine lv_iload_n hx hb dX2_before_13 rfl (lv_at hl 1 rfl) ?_
      refine lv_iconst (v := (-1)) hx hb dX2_before_14 (by decide) ?_
      refine lv_icmp_eq (tgt := 24) hx hb dX2_before_15 (by decide) (fun c_15 => ?_) (fun c_15 => ?_)
      · exact thrA hl9 S hnt hlocks hE hE.2.2.2.2.2.2.1 hl.1 dX2_before_24 dX2_before_27 dX2_before_28 dX2_before_30 dX2_before_33 (by decide) (Or.inl hn_2)
      · exact absurd (show _ from c_15) (by decide)
set_option maxHeartbeats 4000000 in
set_option maxRecDepth 100000 in
theorem c_X2_row {l : Launch} (hl9 : l.stackTraces = false) {D : va_G} {x u i g w n cn cnt : Nat} {ids : Nat → Int32} {ad : Nat → Nat} {f : Nat → Nat → Int32} {sz : Nat} (v1 : Int32) : vx_Met l yX2_row (gws yX2_row cX2_row 3 (some .int)) { frames := 6, cells := 1, slots := 6, locals := 82 } (va_Pc [.ref x, .int v1] (fun U => (RdC D x u i g w n cn cnt ids ad f U U.heap ∧ EX sz U U.heap))) (va_Qi (fun r (_ : Unit) => ∃ k, k < n ∧ v1 = nI k ∧ ((f (ad k) 5 = 0 ∧ r = f (ad k) 0) ∨ (¬ f (ad k) 5 = 0 ∧ r = -f (ad k) 0))) (fun _ _ => True) (fun q => sz ≤ q)) (vx_X (fun _ : Unit => v1 < 0 ∨ nI n ≤ v1) (fun E _ _ => E = "java/lang/IndexOutOfBoundsException") (fun q => sz ≤ q)) 1 6 (fun q => sz ≤ q) := by
  refine vx_go (by decide) (Nat.le_of_ble_eq_true rfl) ?_
  intro p e s m below meth c ls S hr hlocks hnt hB hl
  obtain ⟨hC, hE⟩ := hB
  obtain ⟨hx, hb, hml, hown, hg⟩ := id S
  have hl : lv_has ls 3 [(0, .ref x), (1, .int v1)] := hl
  have hn := hC.n
  refine lv_iload_n hx hb dX2_row_0 rfl (lv_at hl 1 rfl) ?_
  refine lv_if_lt (tgt := 12) hx hb dX2_row_1 (by decide) (fun c_1 => ?_) (fun c_1 => ?_)
  · exact thrB hl9 S hnt hlocks hE hE.2.2.2.2.2.2.2.1 hl.1 dX2_row_12 dX2_row_15 dX2_row_16 dX2_row_18 dX2_row_21 (by decide) (Or.inl c_1)
  · refine lv_iload_n hx hb dX2_row_4 rfl (lv_at hl 1 rfl) ?_
    refine lv_aload_n hx hb dX2_row_5 rfl (lv_at hl 0 rfl) ?_
    refine rC_elements S hC dX2_row_6 ?_
    refine lv_icmp_lt (tgt := 22) hx hb dX2_row_9 (by decide) (fun c_9 => ?_) (fun c_9 => ?_)
    · obtain ⟨k, hk31, rfl⟩ := nI_of c_1
      rw [nI_ltI hk31 (by omega)] at c_9
      refine lv_aload_n hx hb dX2_row_22 rfl (lv_at hl 0 rfl) ?_
      refine rC_woven S hC dX2_row_23 ?_
      refine lv_iload_n hx hb dX2_row_26 rfl (lv_at hl 1 rfl) ?_
      refine rC_ald S hC c_9 dX2_row_27 ?_
      refine lv_astore_n (lv' := [(2, .ref (ad k)), (0, .ref x), (1, .int (nI k))]) hx hb dX2_row_28 rfl hl (by decide) rfl (fun ls hl => ?_)
      refine lv_aload_n hx hb dX2_row_29 rfl (lv_at hl 0 rfl) ?_
      refine vp_callSi (va_Run.run (runVN (As := []) (rest := []) (Bh := RdE D (ad k) (f (ad k))) S (c_X0_isVisible l ) (gw_self wk_192) (nk_189 hC.nw) wk_3 wk_191 wp_15 rfl rfl 0 rfl (by decide +kernel) (by decide) ⟨Nat.zero_le _, Nat.zero_le _⟩ (fun _ _ _ h q => RdE.mv h q) (RdE.recv (hC.E (Or.inr ⟨_, c_9, rfl⟩))) (hC.E (Or.inr ⟨_, c_9, rfl⟩)) hl.1 (Nat.le_of_ble_eq_true rfl) dX2_row_30)) (fun r hr => ?_)
      rcases hr with ⟨h_30, rfl⟩ | ⟨h_30, rfl⟩
      · refine lv_if_eq (tgt := 43) hx hb dX2_row_33 (by decide) (fun c_33 => ?_) (fun c_33 => ?_)
        · exact absurd (show _ from c_33) (by decide)
        · refine lv_aload_n hx hb dX2_row_36 rfl (lv_at hl 0 rfl) ?_
          refine rN_id S (hC.E (Or.inr ⟨_, c_9, rfl⟩)) hC.nw dX2_row_37 ?_
          refine lv_goto (tgt := 48) hx hb dX2_row_40 (by decide) ?_
          refine W.widen (k := 1) (n := 6) (by omega) (by omega) ?_
          refine vx_ret ?_
          exact W.iret (v := (f (ad k) 0)) hx hb hr (fun t9 ht9 _ => ⟨⟨_, (), rfl, ⟨k, c_9, rfl, Or.inl ⟨h_30, rfl⟩⟩, trivial⟩, by rw [ht9]; exact Nat.le_refl _, fun q _ _ => by rw [ht9]⟩) (fun _ h => nomatch h) dX2_row_48
      · refine lv_if_eq (tgt := 43) hx hb dX2_row_33 (by decide) (fun c_33 => ?_) (fun c_33 => ?_)
        · refine lv_aload_n hx hb dX2_row_43 rfl (lv_at hl 0 rfl) ?_
          refine rN_id S (hC.E (Or.inr ⟨_, c_9, rfl⟩)) hC.nw dX2_row_44 ?_
          refine lv_ineg hx hb dX2_row_47 ?_
          refine W.widen (k := 1) (n := 6) (by omega) (by omega) ?_
          refine vx_ret ?_
          exact W.iret (v := (-(f (ad k) 0))) hx hb hr (fun t9 ht9 _ => ⟨⟨_, (), rfl, ⟨k, c_9, rfl, Or.inr ⟨h_30, rfl⟩⟩, trivial⟩, by rw [ht9]; exact Nat.le_refl _, fun q _ _ => by rw [ht9]⟩) (fun _ h => nomatch h) dX2_row_48
        · exact absurd (show _ from c_33) (by decide)
    · exact thrB hl9 S hnt hlocks hE hE.2.2.2.2.2.2.2.1 hl.1 dX2_row_12 dX2_row_15 dX2_row_16 dX2_row_18 dX2_row_21 (by decide) (Or.inr (i32_nlt.mp c_9))
set_option maxHeartbeats 4000000 in
set_option maxRecDepth 100000 in
theorem c_X2_of {l : Launch} (hl9 : l.stackTraces = false) {D : va_G} {x u i g w n cn cnt : Nat} {ids : Nat → Int32} {ad : Nat → Nat} {f : Nat → Nat → Int32} {sz : Nat} (v1 : Int32) (v2 : Int32) : vx_Met l yX2_of (gws yX2_of cX2_of 4 (some .int)) { frames := 6, cells := 1, slots := 6, locals := 82 } (va_Pc [.ref x, .int v1, .int v2] (fun U => (RdC D x u i g w n cn cnt ids ad f U U.heap ∧ EX sz U U.heap))) (va_Qi (fun r (_ : Unit) => (v1 = 0 ∧ ((v2 = 0 ∧ r = f g 1) ∨ (v2 = 1 ∧ r = f g 3))) ∨ (¬ v1 = 0 ∧ ∃ k, k < n ∧ f (ad k) 0 = v1 ∧ ((v2 = 0 ∧ r = f (ad k) 1) ∨ (v2 = 1 ∧ r = f (ad k) 3) ∨ (v2 = 2 ∧ r = f (ad k) 4) ∨ (v2 = 3 ∧ r = f (ad k) 5) ∨ (v2 = 4 ∧ r = f (ad k) 6) ∨ (v2 = 5 ∧ r = f (ad k) 7) ∨ (v2 = 6 ∧ r = f (ad k) 8)))) (fun _ _ => True) (fun q => sz ≤ q)) (vx_X (fun _ : Unit => (¬ v1 = 0 ∧ ∀ k, k < n → ¬ f (ad k) 0 = v1) ∨ (v1 = 0 ∧ 1 < v2) ∨ (¬ v2 = 0 ∧ ¬ v2 = 1 ∧ ¬ v2 = 2 ∧ ¬ v2 = 3 ∧ ¬ v2 = 4 ∧ ¬ v2 = 5 ∧ ¬ v2 = 6)) (fun E _ _ => E = "java/lang/IllegalArgumentException") (fun q => sz ≤ q)) 1 6 (fun q => sz ≤ q) := by
  refine vx_go (by decide) (Nat.le_of_ble_eq_true rfl) ?_
  intro p e s m below meth c ls S hr hlocks hnt hB hl
  obtain ⟨hC, hE⟩ := hB
  obtain ⟨hx, hb, hml, hown, hg⟩ := id S
  have hl : lv_has ls 4 [(0, .ref x), (1, .int v1), (2, .int v2)] := hl
  have hn := hC.n
  refine lv_aload_n hx hb dX2_of_0 rfl (lv_at hl 0 rfl) ?_
  refine lv_iload_n hx hb dX2_of_1 rfl (lv_at hl 1 rfl) ?_
  refine va_csq (va_Run.run (runV (As := [.int v1]) (rest := []) (Bh := RdC D x u i g w n cn cnt ids ad f) S (c_X2_elementOrBeginning l v1) (gw_V wk_106 wk_108 wp_1 wk_1 wk_109) rfl rfl 1 rfl (by decide +kernel) (by decide) ⟨Nat.zero_le _, Nat.zero_le _⟩ (fun _ _ _ h q => RdC.mv h q) hC.recv hC hl.1 (Nat.le_of_ble_eq_true rfl) dX2_of_2)) (fun r hr => ?_)
  rcases hr with ⟨h0_2, rfl⟩ | ⟨h0_2, ⟨k_2, hk_2, he_2, rfl⟩ | ⟨hn_2, rfl⟩⟩
  · show W p l e { frames := 6, cells := 1, slots := 6, locals := 82 } s m [.ref x, .int v1, .int v2].toArray below meth c s.heap [] 0 0 (vx_MQ below (va_Qi (fun r (_ : Unit) => (v1 = 0 ∧ ((v2 = 0 ∧ r = f g 1) ∨ (v2 = 1 ∧ r = f g 3))) ∨ (¬ v1 = 0 ∧ ∃ k, k < n ∧ f (ad k) 0 = v1 ∧ ((v2 = 0 ∧ r = f (ad k) 1) ∨ (v2 = 1 ∧ r = f (ad k) 3) ∨ (v2 = 2 ∧ r = f (ad k) 4) ∨ (v2 = 3 ∧ r = f (ad k) 5) ∨ (v2 = 4 ∧ r = f (ad k) 6) ∨ (v2 = 5 ∧ r = f (ad k) 7) ∨ (v2 = 6 ∧ r = f (ad k) 8)))) (fun _ _ => True) (fun q => sz ≤ q)) (vx_X (fun _ : Unit => (¬ v1 = 0 ∧ ∀ k, k < n → ¬ f (ad k) 0 = v1) ∨ (v1 = 0 ∧ 1 < v2) ∨ (¬ v2 = 0 ∧ ¬ v2 = 1 ∧ ¬ v2 = 2 ∧ ¬ v2 = 3 ∧ ¬ v2 = 4 ∧ ¬ v2 = 5 ∧ ¬ v2 = 6)) (fun E _ _ => E = "java/lang/IllegalArgumentException") (fun q => sz ≤ q)) [.ref x, .int v1, .int v2].toArray s 1 6 (fun q => sz ≤ q)) (F0 m 5 ls [.ref g])
    refine lv_astore_n (lv' := [(3, .ref g), (0, .ref x), (1, .int v1), (2, .int v2)]) hx hb dX2_of_5 rfl hl (by decide) rfl (fun ls hl => ?_)
    refine lv_aload_n hx hb dX2_of_6 rfl (lv_at hl 0 rfl) ?_
    refine lv_ifnonnull (tgt := 20) hx hb dX2_of_7 (by decide) ?_
    refine lv_iload_n hx hb dX2_of_20 rfl (lv_at hl 2 rfl) ?_
    refine lv_if_ne (tgt := 39) hx hb dX2_of_21 (by decide) (fun c_21 => ?_) (fun c_21 => ?_)
    · exact absurd h0_2 c_21
    · refine lv_iload_n hx hb dX2_of_24 rfl (lv_at hl 3 rfl) ?_
      refine lv_iconst (v := 1) hx hb dX2_of_25 (by decide) ?_
      refine lv_icmp_le (tgt := 39) hx hb dX2_of_26 (by decide) (fun c_26 => ?_) (fun c_26 => ?_)
      · refine lv_iload_n hx hb dX2_of_39 rfl (lv_at hl 3 rfl) ?_
        by_cases w_0 : v2 = 0
        · subst w_0
          refine lv_tableIn (off := 44) (tgt := 84) hx hb dX2_of_40 (by decide) (by decide) rfl (by decide) ?_
          refine lv_aload_n hx hb dX2_of_84 rfl (lv_at hl 0 rfl) ?_
          refine rN_behind S (hC.E (Or.inl rfl)) hC.nw dX2_of_85 ?_
          refine W.widen (k := 1) (n := 6) (by omega) (by omega) ?_
          refine vx_ret ?_
          exact W.iret (v := (f g 1)) hx hb hr (fun t9 ht9 _ => ⟨⟨_, (), rfl, Or.inl ⟨h0_2, Or.inl (⟨rfl, rfl⟩)⟩, trivial⟩, by rw [ht9]; exact Nat.le_refl _, fun q _ _ => by rw [ht9]⟩) (fun _ h => nomatch h) dX2_of_88
        by_cases w_1 : v2 = 1
        · subst w_1
          refine lv_tableIn (off := 49) (tgt := 89) hx hb dX2_of_40 (by decide) (by decide) rfl (by decide) ?_
          refine lv_aload_n hx hb dX2_of_89 rfl (lv_at hl 0 rfl) ?_
          refine rN_followers S (hC.E (Or.inl rfl)) hC.nw dX2_of_90 ?_
          refine W.widen (k := 1) (n := 6) (by omega) (by omega) ?_
          refine vx_ret ?_
          exact W.iret (v := (f g 3)) hx hb hr (fun t9 ht9 _ => ⟨⟨_, (), rfl, Or.inl ⟨h0_2, Or.inr (⟨rfl, rfl⟩)⟩, trivial⟩, by rw [ht9]; exact Nat.le_refl _, fun q _ _ => by rw [ht9]⟩) (fun _ h => nomatch h) dX2_of_93
        by_cases w_2 : v2 = 2
        · subst w_2
          exact absurd c_26 (by decide)
        by_cases w_3 : v2 = 3
        · subst w_3
          exact absurd c_26 (by decide)
        by_cases w_4 : v2 = 4
        · subst w_4
          exact absurd c_26 (by decide)
        by_cases w_5 : v2 = 5
        · subst w_5
          exact absurd c_26 (by decide)
        by_cases w_6 : v2 = 6
        · subst w_6
          exact absurd c_26 (by decide)
        have z_0 := lv_neT w_0 (show (0 : Int32).toInt = 0 by decide)
        have z_1 := lv_neT w_1 (show (1 : Int32).toInt = 1 by decide)
        have z_2 := lv_neT w_2 (show (2 : Int32).toInt = 2 by decide)
        have z_3 := lv_neT w_3 (show (3 : Int32).toInt = 3 by decide)
        have z_4 := lv_neT w_4 (show (4 : Int32).toInt = 4 by decide)
        have z_5 := lv_neT w_5 (show (5 : Int32).toInt = 5 by decide)
        have z_6 := lv_neT w_6 (show (6 : Int32).toInt = 6 by decide)
        refine lv_tableOut (tgt := 119) hx hb dX2_of_40 (by omega) (by decide) ?_
        exact thrA hl9 S hnt hlocks hE hE.2.2.2.2.2.1 hl.1 dX2_of_119 dX2_of_122 dX2_of_123 dX2_of_125 dX2_of_128 (by decide) (Or.inr (Or.inr ⟨w_0, w_1, w_2, w_3, w_4, w_5, w_6⟩))
      · exact thrA hl9 S hnt hlocks hE hE.2.2.2.2.2.2.2.2 hl.1 dX2_of_29 dX2_of_32 dX2_of_33 dX2_of_35 dX2_of_38 (by decide) (Or.inr (Or.inl ⟨h0_2, i32_nle.mp c_26⟩))
  · show W p l e { frames := 6, cells := 1, slots := 6, locals := 82 } s m [.ref x, .int v1, .int v2].toArray below meth c s.heap [] 0 0 (vx_MQ below (va_Qi (fun r (_ : Unit) => (v1 = 0 ∧ ((v2 = 0 ∧ r = f g 1) ∨ (v2 = 1 ∧ r = f g 3))) ∨ (¬ v1 = 0 ∧ ∃ k, k < n ∧ f (ad k) 0 = v1 ∧ ((v2 = 0 ∧ r = f (ad k) 1) ∨ (v2 = 1 ∧ r = f (ad k) 3) ∨ (v2 = 2 ∧ r = f (ad k) 4) ∨ (v2 = 3 ∧ r = f (ad k) 5) ∨ (v2 = 4 ∧ r = f (ad k) 6) ∨ (v2 = 5 ∧ r = f (ad k) 7) ∨ (v2 = 6 ∧ r = f (ad k) 8)))) (fun _ _ => True) (fun q => sz ≤ q)) (vx_X (fun _ : Unit => (¬ v1 = 0 ∧ ∀ k, k < n → ¬ f (ad k) 0 = v1) ∨ (v1 = 0 ∧ 1 < v2) ∨ (¬ v2 = 0 ∧ ¬ v2 = 1 ∧ ¬ v2 = 2 ∧ ¬ v2 = 3 ∧ ¬ v2 = 4 ∧ ¬ v2 = 5 ∧ ¬ v2 = 6)) (fun E _ _ => E = "java/lang/IllegalArgumentException") (fun q => sz ≤ q)) [.ref x, .int v1, .int v2].toArray s 1 6 (fun q => sz ≤ q)) (F0 m 5 ls [.ref (ad k_2)])
    refine lv_astore_n (lv' := [(3, .ref (ad k_2)), (0, .ref x), (1, .int v1), (2, .int v2)]) hx hb dX2_of_5 rfl hl (by decide) rfl (fun ls hl => ?_)
    refine lv_aload_n hx hb dX2_of_6 rfl (lv_at hl 0 rfl) ?_
    refine lv_ifnonnull (tgt := 20) hx hb dX2_of_7 (by decide) ?_
    refine lv_iload_n hx hb dX2_of_20 rfl (lv_at hl 2 rfl) ?_
    refine lv_if_ne (tgt := 39) hx hb dX2_of_21 (by decide) (fun c_21 => ?_) (fun c_21 => ?_)
    · refine lv_iload_n hx hb dX2_of_39 rfl (lv_at hl 3 rfl) ?_
      by_cases w_0 : v2 = 0
      · subst w_0
        refine lv_tableIn (off := 44) (tgt := 84) hx hb dX2_of_40 (by decide) (by decide) rfl (by decide) ?_
        refine lv_aload_n hx hb dX2_of_84 rfl (lv_at hl 0 rfl) ?_
        refine rN_behind S (hC.E (Or.inr ⟨_, hk_2, rfl⟩)) hC.nw dX2_of_85 ?_
        refine W.widen (k := 1) (n := 6) (by omega) (by omega) ?_
        refine vx_ret ?_
        exact W.iret (v := (f (ad k_2) 1)) hx hb hr (fun t9 ht9 _ => ⟨⟨_, (), rfl, Or.inr ⟨h0_2, k_2, hk_2, he_2, Or.inl (⟨rfl, rfl⟩)⟩, trivial⟩, by rw [ht9]; exact Nat.le_refl _, fun q _ _ => by rw [ht9]⟩) (fun _ h => nomatch h) dX2_of_88
      by_cases w_1 : v2 = 1
      · subst w_1
        refine lv_tableIn (off := 49) (tgt := 89) hx hb dX2_of_40 (by decide) (by decide) rfl (by decide) ?_
        refine lv_aload_n hx hb dX2_of_89 rfl (lv_at hl 0 rfl) ?_
        refine rN_followers S (hC.E (Or.inr ⟨_, hk_2, rfl⟩)) hC.nw dX2_of_90 ?_
        refine W.widen (k := 1) (n := 6) (by omega) (by omega) ?_
        refine vx_ret ?_
        exact W.iret (v := (f (ad k_2) 3)) hx hb hr (fun t9 ht9 _ => ⟨⟨_, (), rfl, Or.inr ⟨h0_2, k_2, hk_2, he_2, Or.inr (Or.inl (⟨rfl, rfl⟩))⟩, trivial⟩, by rw [ht9]; exact Nat.le_refl _, fun q _ _ => by rw [ht9]⟩) (fun _ h => nomatch h) dX2_of_93
      by_cases w_2 : v2 = 2
      · subst w_2
        refine lv_tableIn (off := 54) (tgt := 94) hx hb dX2_of_40 (by decide) (by decide) rfl (by decide) ?_
        refine lv_aload_n hx hb dX2_of_94 rfl (lv_at hl 0 rfl) ?_
        refine rN_sets S (hC.E (Or.inr ⟨_, hk_2, rfl⟩)) hC.nw dX2_of_95 ?_
        refine W.widen (k := 1) (n := 6) (by omega) (by omega) ?_
        refine vx_ret ?_
        exact W.iret (v := (f (ad k_2) 4)) hx hb hr (fun t9 ht9 _ => ⟨⟨_, (), rfl, Or.inr ⟨h0_2, k_2, hk_2, he_2, Or.inr (Or.inr (Or.inl (⟨rfl, rfl⟩)))⟩, trivial⟩, by rw [ht9]; exact Nat.le_refl _, fun q _ _ => by rw [ht9]⟩) (fun _ h => nomatch h) dX2_of_98
      by_cases w_3 : v2 = 3
      · subst w_3
        refine lv_tableIn (off := 59) (tgt := 99) hx hb dX2_of_40 (by decide) (by decide) rfl (by decide) ?_
        refine lv_aload_n hx hb dX2_of_99 rfl (lv_at hl 0 rfl) ?_
        refine rN_removes S (hC.E (Or.inr ⟨_, hk_2, rfl⟩)) hC.nw dX2_of_100 ?_
        refine W.widen (k := 1) (n := 6) (by omega) (by omega) ?_
        refine vx_ret ?_
        exact W.iret (v := (f (ad k_2) 5)) hx hb hr (fun t9 ht9 _ => ⟨⟨_, (), rfl, Or.inr ⟨h0_2, k_2, hk_2, he_2, Or.inr (Or.inr (Or.inr (Or.inl (⟨rfl, rfl⟩))))⟩, trivial⟩, by rw [ht9]; exact Nat.le_refl _, fun q _ _ => by rw [ht9]⟩) (fun _ h => nomatch h) dX2_of_103
      by_cases w_4 : v2 = 4
      · subst w_4
        refine lv_tableIn (off := 64) (tgt := 104) hx hb dX2_of_40 (by decide) (by decide) rfl (by decide) ?_
        refine lv_aload_n hx hb dX2_of_104 rfl (lv_at hl 0 rfl) ?_
        refine rN_standing S (hC.E (Or.inr ⟨_, hk_2, rfl⟩)) hC.nw dX2_of_105 ?_
        refine W.widen (k := 1) (n := 6) (by omega) (by omega) ?_
        refine vx_ret ?_
        exact W.iret (v := (f (ad k_2) 6)) hx hb hr (fun t9 ht9 _ => ⟨⟨_, (), rfl, Or.inr ⟨h0_2, k_2, hk_2, he_2, Or.inr (Or.inr (Or.inr (Or.inr (Or.inl (⟨rfl, rfl⟩)))))⟩, trivial⟩, by rw [ht9]; exact Nat.le_refl _, fun q _ _ => by rw [ht9]⟩) (fun _ h => nomatch h) dX2_of_108
      by_cases w_5 : v2 = 5
      · subst w_5
        refine lv_tableIn (off := 69) (tgt := 109) hx hb dX2_of_40 (by decide) (by decide) rfl (by decide) ?_
        refine lv_aload_n hx hb dX2_of_109 rfl (lv_at hl 0 rfl) ?_
        refine rN_kind S (hC.E (Or.inr ⟨_, hk_2, rfl⟩)) hC.nw dX2_of_110 ?_
        refine W.widen (k := 1) (n := 6) (by omega) (by omega) ?_
        refine vx_ret ?_
        exact W.iret (v := (f (ad k_2) 7)) hx hb hr (fun t9 ht9 _ => ⟨⟨_, (), rfl, Or.inr ⟨h0_2, k_2, hk_2, he_2, Or.inr (Or.inr (Or.inr (Or.inr (Or.inr (Or.inl (⟨rfl, rfl⟩))))))⟩, trivial⟩, by rw [ht9]; exact Nat.le_refl _, fun q _ _ => by rw [ht9]⟩) (fun _ h => nomatch h) dX2_of_113
      by_cases w_6 : v2 = 6
      · subst w_6
        refine lv_tableIn (off := 74) (tgt := 114) hx hb dX2_of_40 (by decide) (by decide) rfl (by decide) ?_
        refine lv_aload_n hx hb dX2_of_114 rfl (lv_at hl 0 rfl) ?_
        refine rN_value S (hC.E (Or.inr ⟨_, hk_2, rfl⟩)) hC.nw dX2_of_115 ?_
        refine W.widen (k := 1) (n := 6) (by omega) (by omega) ?_
        refine vx_ret ?_
        exact W.iret (v := (f (ad k_2) 8)) hx hb hr (fun t9 ht9 _ => ⟨⟨_, (), rfl, Or.inr ⟨h0_2, k_2, hk_2, he_2, Or.inr (Or.inr (Or.inr (Or.inr (Or.inr (Or.inr (⟨rfl, rfl⟩))))))⟩, trivial⟩, by rw [ht9]; exact Nat.le_refl _, fun q _ _ => by rw [ht9]⟩) (fun _ h => nomatch h) dX2_of_118
      have z_0 := lv_neT w_0 (show (0 : Int32).toInt = 0 by decide)
      have z_1 := lv_neT w_1 (show (1 : Int32).toInt = 1 by decide)
      have z_2 := lv_neT w_2 (show (2 : Int32).toInt = 2 by decide)
      have z_3 := lv_neT w_3 (show (3 : Int32).toInt = 3 by decide)
      have z_4 := lv_neT w_4 (show (4 : Int32).toInt = 4 by decide)
      have z_5 := lv_neT w_5 (show (5 : Int32).toInt = 5 by decide)
      have z_6 := lv_neT w_6 (show (6 : Int32).toInt = 6 by decide)
      refine lv_tableOut (tgt := 119) hx hb dX2_of_40 (by omega) (by decide) ?_
      exact thrA hl9 S hnt hlocks hE hE.2.2.2.2.2.1 hl.1 dX2_of_119 dX2_of_122 dX2_of_123 dX2_of_125 dX2_of_128 (by decide) (Or.inr (Or.inr ⟨w_0, w_1, w_2, w_3, w_4, w_5, w_6⟩))
    · exact absurd c_21 h0_2
  · show W p l e { frames := 6, cells := 1, slots := 6, locals := 82 } s m [.ref x, .int v1, .int v2].toArray below meth c s.heap [] 0 0 (vx_MQ below (va_Qi (fun r (_ : Unit) => (v1 = 0 ∧ ((v2 = 0 ∧ r = f g 1) ∨ (v2 = 1 ∧ r = f g 3))) ∨ (¬ v1 = 0 ∧ ∃ k, k < n ∧ f (ad k) 0 = v1 ∧ ((v2 = 0 ∧ r = f (ad k) 1) ∨ (v2 = 1 ∧ r = f (ad k) 3) ∨ (v2 = 2 ∧ r = f (ad k) 4) ∨ (v2 = 3 ∧ r = f (ad k) 5) ∨ (v2 = 4 ∧ r = f (ad k) 6) ∨ (v2 = 5 ∧ r = f (ad k) 7) ∨ (v2 = 6 ∧ r = f (ad k) 8)))) (fun _ _ => True) (fun q => sz ≤ q)) (vx_X (fun _ : Unit => (¬ v1 = 0 ∧ ∀ k, k < n → ¬ f (ad k) 0 = v1) ∨ (v1 = 0 ∧ 1 < v2) ∨ (¬ v2 = 0 ∧ ¬ v2 = 1 ∧ ¬ v2 = 2 ∧ ¬ v2 = 3 ∧ ¬ v2 = 4 ∧ ¬ v2 = 5 ∧ ¬ v2 = 6)) (fun E _ _ => E = "java/lang/IllegalArgumentException") (fun q => sz ≤ q)) [.ref x, .int v1, .int v2].toArray s 1 6 (fun q => sz ≤ q)) (F0 m 5 ls [.null])
    refine lv_astore_nN (lv' := [(3, .null), (0, .ref x), (1, .int v1), (2, .int v2)]) hx hb dX2_of_5 rfl hl (by decide) rfl (fun ls hl => ?_)
    refine lv_aload_nN hx hb dX2_of_6 rfl (lv_at hl 0 rfl) ?_
    refine lv_ifnonnullN hx hb dX2_of_7 ?_
    exact thrA hl9 S hnt hlocks hE hE.2.2.2.2.2.2.1 hl.1 dX2_of_10 dX2_of_13 dX2_of_14 dX2_of_16 dX2_of_19 (by decide) (Or.inl ⟨h0_2, hn_2⟩)
end
section
/-! pure words of the reference -/
def PL (L : Nat → Int32) (n : Nat) (v r z : Int32) : Prop := (∃ k, k < n ∧ L k = v ∧ (∀ j, k < j → j < n → ¬ L j = v) ∧ r = nI k) ∨ ((∀ k, k < n → ¬ L k = v) ∧ r = z)
theorem PL_0 {L : Nat → Int32} {v z : Int32} : PL L 0 v z z := Or.inr ⟨fun _ h => absurd h (Nat.not_lt_zero _), rfl⟩
theorem PL_s {L : Nat → Int32} {k : Nat} {v z : Int32} (h : L k = v) : PL L (k + 1) v (nI k) z := Or.inl ⟨k, Nat.lt_succ_self k, h, fun j h1 h2 => absurd h1 (by omega), rfl⟩
theorem PL_n {L : Nat → Int32} {k : Nat} {v r z : Int32} (h : ¬ L k = v) (hp : PL L k v r z) : PL L (k + 1) v r z := by
  rcases hp with ⟨j, h1, h2, h3, h4⟩ | ⟨h1, h2⟩
  · exact Or.inl ⟨j, by omega, h2, fun i h5 h6 => if e : i = k then by rw [e]; exact h else h3 i h5 (by omega), h4⟩
  · exact Or.inr ⟨lt_s h1 h, h2⟩
def NewM (A : Nat → Nat → Int32) (n k : Nat) (v : Int32) : Prop := ¬ v < 8 ∧ ¬ 800007 < v ∧ (∀ j, j < n → ¬ A 0 j = v) ∧ ∀ j, j < k → ¬ A 4 j = v
def remB (A : Nat → Nat → Int32) (v : Int32) : Nat → Bool
  | 0 => false
  | k + 1 => remB A v k || (decide (A 5 k = v) && decide (A 6 k < 0))
theorem remB_y {A : Nat → Nat → Int32} {v : Int32} {k : Nat} (h : remB A v k = true) : remB A v (k + 1) = true := by simp [remB, h]
theorem remB_s {A : Nat → Nat → Int32} {v : Int32} {k : Nat} (h1 : A 5 k = v) (h2 : A 6 k < 0) : remB A v (k + 1) = true := by simp [remB, h1, h2]
theorem remB_n {A : Nat → Nat → Int32} {v : Int32} {k : Nat} (h : remB A v k = false) (h1 : ¬ (A 5 k = v ∧ A 6 k < 0)) : remB A v (k + 1) = false := by
  rw [remB, h, Bool.false_or, Bool.and_eq_false_imp]
  intro h2
  exact decide_eq_false (fun h3 => h1 ⟨of_decide_eq_true h2, h3⟩)
theorem remB_iff {A : Nat → Nat → Int32} {v : Int32} : ∀ {k : Nat}, remB A v k = true ↔ ∃ j, j < k ∧ A 5 j = v ∧ A 6 j < 0
  | 0 => by simp [remB]
  | k + 1 => by
    rw [remB, Bool.or_eq_true, Bool.and_eq_true, decide_eq_true_eq, decide_eq_true_eq, remB_iff]
    constructor
    · rintro (⟨j, h1, h2⟩ | h)
      · exact ⟨j, by omega, h2⟩
      · exact ⟨k, by omega, h⟩
    · rintro ⟨j, h1, h2⟩
      rcases Nat.lt_or_eq_of_le (Nat.lt_succ_iff.mp h1) with q | q
      · exact Or.inl ⟨j, q, h2⟩
      · subst q; exact Or.inr h2
def SetM (A : Nat → Nat → Int32) (v : Int32) (k : Nat) : Prop := A 5 k = v ∧ ¬ A 6 k < 0
def StM (A : Nat → Nat → Int32) (d : Nat) (v r : Int32) : Prop := (∃ k, k < d ∧ SetM A v k ∧ (∀ j, j < d → SetM A v j → ¬ A 4 k < A 4 j) ∧ r = nI k) ∨ ((∀ k, k < d → ¬ SetM A v k) ∧ r = -1)
theorem StM_n {A : Nat → Nat → Int32} {k : Nat} {v r : Int32} (h : ¬ SetM A v k) (hp : StM A k v r) : StM A (k + 1) v r := by
  rcases hp with ⟨j, h1, h2, h3, h4⟩ | ⟨h1, h2⟩
  · exact Or.inl ⟨j, by omega, h2, lt_s h3 (fun z => absurd z h), h4⟩
  · exact Or.inr ⟨lt_s h1 h, h2⟩
theorem StM_f {A : Nat → Nat → Int32} {k : Nat} {v : Int32} (h : SetM A v k) (hp : ∀ j, j < k → ¬ SetM A v j) : StM A (k + 1) v (nI k) :=
  Or.inl ⟨k, Nat.lt_succ_self k, h, lt_s (fun j hj z => absurd z (hp j hj)) (fun _ z => i32_irr z rfl), rfl⟩
theorem StM_g {A : Nat → Nat → Int32} {k j : Nat} {v : Int32} (h : SetM A v k) (hm : ∀ i, i < k → SetM A v i → ¬ A 4 j < A 4 i) (hg : A 4 j < A 4 k) : StM A (k + 1) v (nI k) :=
  Or.inl ⟨k, Nat.lt_succ_self k, h, lt_s (fun i hi z z2 => hm i hi z (i32_trans hg z2)) (fun _ z => i32_irr z rfl), rfl⟩
theorem StM_l {A : Nat → Nat → Int32} {k j : Nat} {v : Int32} (hj : j < k) (hs : SetM A v j) (hm : ∀ i, i < k → SetM A v i → ¬ A 4 j < A 4 i) (hg : ¬ A 4 j < A 4 k) : StM A (k + 1) v (nI j) :=
  Or.inl ⟨j, by omega, hs, lt_s hm (fun _ => hg), rfl⟩
/-- what stands: of the SETs the greatest, else the INSERT -/
def OfM (A : Nat → Nat → Int32) (n d : Nat) (v : Int32) (a b : Nat) (r : Int32) : Prop := (∃ k, k < d ∧ SetM A v k ∧ (∀ j, j < d → SetM A v j → ¬ A 4 k < A 4 j) ∧ r = A b k) ∨ ((∀ k, k < d → ¬ SetM A v k) ∧ ∃ k, k < n ∧ A 0 k = v ∧ r = A a k)
def cntB (p : Nat → Bool) : Nat → Nat
  | 0 => 0
  | k + 1 => cntB p k + (if p k = true then 1 else 0)
theorem cntB_le (p : Nat → Bool) : ∀ k, cntB p k ≤ k
  | 0 => Nat.le_refl 0
  | k + 1 => by
    have := cntB_le p k
    rw [cntB]
    split <;> omega
theorem cntB_s {p : Nat → Bool} {k q : Nat} (hq : q = cntB p k) (h : p k = true) : q + 1 = cntB p (k + 1) := by rw [cntB, if_pos h, hq]
theorem cntB_n {p : Nat → Bool} {k q : Nat} (hq : q = cntB p k) (h : p k = false) : q = cntB p (k + 1) := by rw [cntB, h, hq]; simp
def mxf (g : Nat → Int32) (z : Int32) : Nat → Int32
  | 0 => z
  | k + 1 => if mxf g z k < g k then g k else mxf g z k
theorem mxf_s {g : Nat → Int32} {z q : Int32} {k : Nat} (hq : q = mxf g z k) (h : q < g k) : g k = mxf g z (k + 1) := by rw [mxf, ← hq, if_pos h]
theorem mxf_n {g : Nat → Int32} {z q : Int32} {k : Nat} (hq : q = mxf g z k) (h : ¬ q < g k) : q = mxf g z (k + 1) := by rw [mxf, ← hq, if_neg h]
/-- the way back to the beginning, counted -/
def Dep (A : Nat → Nat → Int32) (n : Nat) (dep : Int32 → Nat) : Prop := dep 0 = 0 ∧ (∀ k, k < n → ¬ A 0 k = 0 ∧ dep (A 0 k) = dep (A 1 k) + 1 ∧ (A 1 k = 0 ∨ ∃ j, j < n ∧ A 0 j = A 1 k)) ∧ ∀ v, dep v ≤ 512
end
section
set_option maxHeartbeats 4000000 in
set_option maxRecDepth 100000 in
theorem c_X3_placeOf (l : Launch) {D : va_G} {y : Nat} {a : Nat → Nat} {n d : Nat} {th : Int32} {A : Nat → Nat → Int32} (v1 : Int32)  : Met l yX3_placeOf (gws yX3_placeOf cX3_placeOf 4 (some .int)) { frames := 0, cells := 0, slots := 0, locals := 0 } (va_Pc [.ref y, .int v1] (fun U => RdM D y a n d th A U U.heap)) (vp_Si (fun r => PL (A 0) n v1 r (-1))) 0 0 (fun _ => False) := by
  refine met_go (by decide) (Nat.le_of_ble_eq_true rfl) ?_
  intro p e s m below meth c ls S hr hlocks hnm hM hl
  obtain ⟨hx, hb, hml, hown, hg⟩ := id S
  have hl : lv_has ls 4 [(0, .ref y), (1, .int v1)] := hl
  have hn := hM.n
  refine lv_iconst (v := (-1)) hx hb dX3_placeOf_0 (by decide) ?_
  refine lv_istore_n (lv' := [(2, .int (-1)), (0, .ref y), (1, .int v1)]) hx hb dX3_placeOf_1 rfl hl (by decide) rfl (fun ls hl => ?_)
  refine lv_iconst (v := nI 0) hx hb dX3_placeOf_2 (by decide) ?_
  refine lv_istore_n (lv' := [(3, .int (nI 0)), (2, .int (-1)), (0, .ref y), (1, .int v1)]) hx hb dX3_placeOf_3 rfl hl (by decide) rfl (fun ls hl => ?_)
  suffices hloop : ∀ (fuel : Nat) (k : Nat) (q : Int32), k ≤ n → n - k < fuel → PL (A 0) k v1 q (-1) → ∀ ls : Array Slot, lv_has ls 4 [(3, .int (nI k)), (2, .int q), (0, .ref y), (1, .int v1)] → W p l e { frames := 0, cells := 0, slots := 0, locals := 0 } s m [.ref y, .int v1].toArray below meth c s.heap [] 0 0 (MQ below (vp_Si (fun r => PL (A 0) n v1 r (-1))) [.ref y, .int v1].toArray s 0 0 (fun _ => False)) (F0 m 4 ls []) from hloop (n + 1) 0 (-1) (by omega) (by omega) PL_0  ls (lv_sub hl [0, 1, 2, 3] rfl)
  intro fuel
  induction fuel with
  | zero => intro k q hk hf hI; omega
  | succ fuel ih =>
    intro k q hk hf hI  ls hl
    refine lv_iload_n hx hb dX3_placeOf_4 rfl (lv_at hl 0 rfl) ?_
    refine lv_aload_n hx hb dX3_placeOf_5 rfl (lv_at hl 2 rfl) ?_
    refine rM_many S hM dX3_placeOf_6 ?_
    refine lv_icmp_ge (tgt := 34) hx hb dX3_placeOf_9 (by decide) (fun c_9 => ?_) (fun c_9 => ?_)
    · rw [nI_leI (by omega) (by omega)] at c_9
      refine lv_iload_n hx hb dX3_placeOf_34 rfl (lv_at hl 1 rfl) ?_
      exact W.iret (v := q) hx hb hr (fun t9 ht9 _ => ⟨_, rfl, by rw [show n = k by omega]; exact hI, ht9⟩) (fun _ h => nomatch h) dX3_placeOf_35
    · rw [nI_leI (by omega) (by omega)] at c_9
      refine lv_aload_n hx hb dX3_placeOf_12 rfl (lv_at hl 2 rfl) ?_
      refine rM_ids S hM dX3_placeOf_13 ?_
      refine lv_iload_n hx hb dX3_placeOf_16 rfl (lv_at hl 0 rfl) ?_
      refine rM_ald S hM 0 (by decide) (by show _ < 512; omega) dX3_placeOf_17 ?_
      refine lv_iload_n hx hb dX3_placeOf_18 rfl (lv_at hl 3 rfl) ?_
      refine lv_icmp_ne (tgt := 26) hx hb dX3_placeOf_19 (by decide) (fun c_19 => ?_) (fun c_19 => ?_)
      · refine lv_iload_n hx hb dX3_placeOf_26 rfl (lv_at hl 1 rfl) ?_
        refine lv_istore_n (lv' := [(2, .int q), (3, .int (nI k)), (0, .ref y), (1, .int v1)]) hx hb dX3_placeOf_27 rfl hl (by decide) rfl (fun ls hl => ?_)
        refine lv_iinc (v := nI (k + 1)) (lv' := [(3, .int (nI (k + 1))), (2, .int q), (0, .ref y), (1, .int v1)]) hx hb dX3_placeOf_28 hl (k := 1) rfl (nI_1 _) (by decide) rfl (fun ls hl => ?_)
        refine lv_goto (tgt := 4) hx hb dX3_placeOf_31 (by decide) ?_
        exact ih (k + 1) _ (by omega) (by omega) (PL_n c_19 hI)  ls (lv_sub hl [0, 1, 2, 3] rfl)
      · refine lv_iload_n hx hb dX3_placeOf_22 rfl (lv_at hl 0 rfl) ?_
        refine lv_goto (tgt := 27) hx hb dX3_placeOf_23 (by decide) ?_
        refine lv_istore_n (lv' := [(2, .int (nI k)), (3, .int (nI k)), (0, .ref y), (1, .int v1)]) hx hb dX3_placeOf_27 rfl hl (by decide) rfl (fun ls hl => ?_)
        refine lv_iinc (v := nI (k + 1)) (lv' := [(3, .int (nI (k + 1))), (2, .int (nI k)), (0, .ref y), (1, .int v1)]) hx hb dX3_placeOf_28 hl (k := 1) rfl (nI_1 _) (by decide) rfl (fun ls hl => ?_)
        refine lv_goto (tgt := 4) hx hb dX3_placeOf_31 (by decide) ?_
        exact ih (k + 1) _ (by omega) (by omega) (PL_s c_19)  ls (lv_sub hl [0, 1, 2, 3] rfl)
set_option maxHeartbeats 4000000 in
set_option maxRecDepth 100000 in
theorem c_X3_isNew (l : Launch) {D : va_G} {y : Nat} {a : Nat → Nat} {n d : Nat} {th : Int32} {A : Nat → Nat → Int32} (v1 : Int32)  : Met l yX3_isNew (gws yX3_isNew cX3_isNew 4 (some .boolean)) { frames := 1, cells := 0, slots := 0, locals := 23 } (va_Pc [.ref y, .int v1] (fun U => RdM D y a n d th A U U.heap)) (vp_Si (fun r => (NewM A n d v1 ∧ r = 1) ∨ (¬ NewM A n d v1 ∧ r = 0))) 0 0 (fun _ => False) := by
  refine met_go (by decide) (Nat.le_of_ble_eq_true rfl) ?_
  intro p e s m below meth c ls S hr hlocks hnm hM hl
  obtain ⟨hx, hb, hml, hown, hg⟩ := id S
  have hl : lv_has ls 4 [(0, .ref y), (1, .int v1)] := hl
  have hn := hM.n
  have hloop : ∀ (fuel : Nat) (k : Nat) (q : Int32), k ≤ d → d - k < fuel → ((NewM A n k v1 ∧ q = 1) ∨ (¬ NewM A n k v1 ∧ q = 0)) → ∀ ls : Array Slot, lv_has ls 4 [(3, .int (nI k)), (2, .int q), (0, .ref y), (1, .int v1)] → W p l e { frames := 1, cells := 0, slots := 0, locals := 23 } s m [.ref y, .int v1].toArray below meth c s.heap [] 0 0 (MQ below (vp_Si (fun r => (NewM A n d v1 ∧ r = 1) ∨ (¬ NewM A n d v1 ∧ r = 0))) [.ref y, .int v1].toArray s 0 0 (fun _ => False)) (F0 m 28 ls []) := by
    clear hl
    intro fuel
    induction fuel with
    | zero => intro k q hk hf hI; omega
    | succ fuel ih =>
      intro k q hk hf hI  ls hl
      rcases hI with ⟨hI, rfl⟩ | ⟨hI, rfl⟩
      · refine lv_iload_n hx hb dX3_isNew_28 rfl (lv_at hl 0 rfl) ?_
        refine lv_aload_n hx hb dX3_isNew_29 rfl (lv_at hl 2 rfl) ?_
        refine rM_done S hM dX3_isNew_30 ?_
        refine lv_icmp_ge (tgt := 62) hx hb dX3_isNew_33 (by decide) (fun c_33 => ?_) (fun c_33 => ?_)
        · rw [nI_leI (by omega) (by omega)] at c_33
          refine lv_iload_n hx hb dX3_isNew_62 rfl (lv_at hl 1 rfl) ?_
          exact W.zret (v := 1) hx hb hr rfl (fun t9 ht9 _ => ⟨_, rfl, Or.inl ⟨by rw [show d = k by omega]; exact hI, rfl⟩, ht9⟩) (fun _ h => nomatch h) dX3_isNew_63
        · rw [nI_leI (by omega) (by omega)] at c_33
          refine lv_iload_n hx hb dX3_isNew_36 rfl (lv_at hl 1 rfl) ?_
          refine lv_if_eq (tgt := 54) hx hb dX3_isNew_37 (by decide) (fun c_37 => ?_) (fun c_37 => ?_)
          · exact absurd (show _ from c_37) (by decide)
          · refine lv_aload_n hx hb dX3_isNew_40 rfl (lv_at hl 2 rfl) ?_
            refine rM_doneIds S hM dX3_isNew_41 ?_
            refine lv_iload_n hx hb dX3_isNew_44 rfl (lv_at hl 0 rfl) ?_
            refine rM_ald S hM 4 (by decide) (by show _ < 1024; omega) dX3_isNew_45 ?_
            refine lv_iload_n hx hb dX3_isNew_46 rfl (lv_at hl 3 rfl) ?_
            refine lv_icmp_eq (tgt := 54) hx hb dX3_isNew_47 (by decide) (fun c_47 => ?_) (fun c_47 => ?_)
            · refine lv_iconst (v := 0) hx hb dX3_isNew_54 (by decide) ?_
              refine lv_istore_n (lv' := [(2, .int 0), (3, .int (nI k)), (0, .ref y), (1, .int v1)]) hx hb dX3_isNew_55 rfl hl (by decide) rfl (fun ls hl => ?_)
              refine lv_iinc (v := nI (k + 1)) (lv' := [(3, .int (nI (k + 1))), (2, .int 0), (0, .ref y), (1, .int v1)]) hx hb dX3_isNew_56 hl (k := 1) rfl (nI_1 _) (by decide) rfl (fun ls hl => ?_)
              refine lv_goto (tgt := 28) hx hb dX3_isNew_59 (by decide) ?_
              exact ih (k + 1) _ (by omega) (by omega) (Or.inr ⟨fun z => z.2.2.2 k (by omega) c_47, rfl⟩)  ls (lv_sub hl [0, 1, 2, 3] rfl)
            · refine lv_iconst (v := 1) hx hb dX3_isNew_50 (by decide) ?_
              refine lv_goto (tgt := 55) hx hb dX3_isNew_51 (by decide) ?_
              refine lv_istore_n (lv' := [(2, .int 1), (3, .int (nI k)), (0, .ref y), (1, .int v1)]) hx hb dX3_isNew_55 rfl hl (by decide) rfl (fun ls hl => ?_)
              refine lv_iinc (v := nI (k + 1)) (lv' := [(3, .int (nI (k + 1))), (2, .int 1), (0, .ref y), (1, .int v1)]) hx hb dX3_isNew_56 hl (k := 1) rfl (nI_1 _) (by decide) rfl (fun ls hl => ?_)
              refine lv_goto (tgt := 28) hx hb dX3_isNew_59 (by decide) ?_
              exact ih (k + 1) _ (by omega) (by omega) (Or.inl ⟨⟨hI.1, hI.2.1, hI.2.2.1, lt_s hI.2.2.2 c_47⟩, rfl⟩)  ls (lv_sub hl [0, 1, 2, 3] rfl)
      · refine lv_iload_n hx hb dX3_isNew_28 rfl (lv_at hl 0 rfl) ?_
        refine lv_aload_n hx hb dX3_isNew_29 rfl (lv_at hl 2 rfl) ?_
        refine rM_done S hM dX3_isNew_30 ?_
        refine lv_icmp_ge (tgt := 62) hx hb dX3_isNew_33 (by decide) (fun c_33 => ?_) (fun c_33 => ?_)
        · rw [nI_leI (by omega) (by omega)] at c_33
          refine lv_iload_n hx hb dX3_isNew_62 rfl (lv_at hl 1 rfl) ?_
          exact W.zret (v := 0) hx hb hr rfl (fun t9 ht9 _ => ⟨_, rfl, Or.inr ⟨by rw [show d = k by omega]; exact hI, rfl⟩, ht9⟩) (fun _ h => nomatch h) dX3_isNew_63
        · rw [nI_leI (by omega) (by omega)] at c_33
          refine lv_iload_n hx hb dX3_isNew_36 rfl (lv_at hl 1 rfl) ?_
          refine lv_if_eq (tgt := 54) hx hb dX3_isNew_37 (by decide) (fun c_37 => ?_) (fun c_37 => ?_)
          · refine lv_iconst (v := 0) hx hb dX3_isNew_54 (by decide) ?_
            refine lv_istore_n (lv' := [(2, .int 0), (3, .int (nI k)), (0, .ref y), (1, .int v1)]) hx hb dX3_isNew_55 rfl hl (by decide) rfl (fun ls hl => ?_)
            refine lv_iinc (v := nI (k + 1)) (lv' := [(3, .int (nI (k + 1))), (2, .int 0), (0, .ref y), (1, .int v1)]) hx hb dX3_isNew_56 hl (k := 1) rfl (nI_1 _) (by decide) rfl (fun ls hl => ?_)
            refine lv_goto (tgt := 28) hx hb dX3_isNew_59 (by decide) ?_
            exact ih (k + 1) _ (by omega) (by omega) (Or.inr ⟨fun z => hI ⟨z.1, z.2.1, z.2.2.1, fun j hj => z.2.2.2 j (by omega)⟩, rfl⟩)  ls (lv_sub hl [0, 1, 2, 3] rfl)
          · exact absurd (show _ from c_37) (by decide)
  refine lv_iload_n hx hb dX3_isNew_0 rfl (lv_at hl 1 rfl) ?_
  refine lv_bipush (v := 8) hx hb dX3_isNew_1 (by decide) ?_
  refine lv_icmp_lt (tgt := 24) hx hb dX3_isNew_3 (by decide) (fun c_3 => ?_) (fun c_3 => ?_)
  · refine lv_iconst (v := 0) hx hb dX3_isNew_24 (by decide) ?_
    refine lv_istore_n (lv' := [(2, .int 0), (0, .ref y), (1, .int v1)]) hx hb dX3_isNew_25 rfl hl (by decide) rfl (fun ls hl => ?_)
    refine lv_iconst (v := nI 0) hx hb dX3_isNew_26 (by decide) ?_
    refine lv_istore_n (lv' := [(3, .int (nI 0)), (2, .int 0), (0, .ref y), (1, .int v1)]) hx hb dX3_isNew_27 rfl hl (by decide) rfl (fun ls hl => ?_)
    exact hloop (d + 1) 0 _ (by omega) (by omega) (Or.inr ⟨fun z => z.1 c_3, rfl⟩)  ls (lv_sub hl [0, 1, 2, 3] rfl)
  · refine lv_iload_n hx hb dX3_isNew_6 rfl (lv_at hl 1 rfl) ?_
    refine lv_ldc (v := 800007) hx hb hown (hg _ wk_409) dX3_isNew_7 ?_
    refine lv_icmp_gt (tgt := 24) hx hb dX3_isNew_9 (by decide) (fun c_9 => ?_) (fun c_9 => ?_)
    · refine lv_iconst (v := 0) hx hb dX3_isNew_24 (by decide) ?_
      refine lv_istore_n (lv' := [(2, .int 0), (0, .ref y), (1, .int v1)]) hx hb dX3_isNew_25 rfl hl (by decide) rfl (fun ls hl => ?_)
      refine lv_iconst (v := nI 0) hx hb dX3_isNew_26 (by decide) ?_
      refine lv_istore_n (lv' := [(3, .int (nI 0)), (2, .int 0), (0, .ref y), (1, .int v1)]) hx hb dX3_isNew_27 rfl hl (by decide) rfl (fun ls hl => ?_)
      exact hloop (d + 1) 0 _ (by omega) (by omega) (Or.inr ⟨fun z => z.2.1 c_9, rfl⟩)  ls (lv_sub hl [0, 1, 2, 3] rfl)
    · refine lv_aload_n hx hb dX3_isNew_12 rfl (lv_at hl 0 rfl) ?_
      refine lv_iload_n hx hb dX3_isNew_13 rfl (lv_at hl 1 rfl) ?_
      refine vp_callSi (va_Run.run (runV (As := [.int v1]) (rest := []) (Bh := RdM D y a n d th A) S (c_X3_placeOf l v1) (gw_V wk_410 wk_412 wp_22 wk_4 wk_413) rfl rfl 1 rfl (by decide +kernel) (by decide) ⟨Nat.le_refl _, Nat.le_refl _⟩ (fun _ _ _ h q => RdM.mv h q) hM.recv hM hl.1 (Nat.le_of_ble_eq_true rfl) dX3_isNew_14)) (fun r hr => ?_)
      rcases hr with ⟨k_14, hk_14, he_14, hf_14, rfl⟩ | ⟨hn_14, rfl⟩
      · refine lv_if_ge (tgt := 24) hx hb dX3_isNew_17 (by decide) (fun c_17 => ?_) (fun c_17 => ?_)
        · refine lv_iconst (v := 0) hx hb dX3_isNew_24 (by decide) ?_
          refine lv_istore_n (lv' := [(2, .int 0), (0, .ref y), (1, .int v1)]) hx hb dX3_isNew_25 rfl hl (by decide) rfl (fun ls hl => ?_)
          refine lv_iconst (v := nI 0) hx hb dX3_isNew_26 (by decide) ?_
          refine lv_istore_n (lv' := [(3, .int (nI 0)), (2, .int 0), (0, .ref y), (1, .int v1)]) hx hb dX3_isNew_27 rfl hl (by decide) rfl (fun ls hl => ?_)
          exact hloop (d + 1) 0 _ (by omega) (by omega) (Or.inr ⟨fun z => z.2.2.1 _ hk_14 he_14, rfl⟩)  ls (lv_sub hl [0, 1, 2, 3] rfl)
        · exact absurd (nI_pos' (by omega)) c_17
      · refine lv_if_ge (tgt := 24) hx hb dX3_isNew_17 (by decide) (fun c_17 => ?_) (fun c_17 => ?_)
        · exact absurd (show _ from c_17) (by decide)
        · refine lv_iconst (v := 1) hx hb dX3_isNew_20 (by decide) ?_
          refine lv_goto (tgt := 25) hx hb dX3_isNew_21 (by decide) ?_
          refine lv_istore_n (lv' := [(2, .int 1), (0, .ref y), (1, .int v1)]) hx hb dX3_isNew_25 rfl hl (by decide) rfl (fun ls hl => ?_)
          refine lv_iconst (v := nI 0) hx hb dX3_isNew_26 (by decide) ?_
          refine lv_istore_n (lv' := [(3, .int (nI 0)), (2, .int 1), (0, .ref y), (1, .int v1)]) hx hb dX3_isNew_27 rfl hl (by decide) rfl (fun ls hl => ?_)
          exact hloop (d + 1) 0 _ (by omega) (by omega) (Or.inl ⟨⟨c_3, c_9, hn_14, (fun _ h => absurd h (Nat.not_lt_zero _))⟩, rfl⟩)  ls (lv_sub hl [0, 1, 2, 3] rfl)
set_option maxHeartbeats 4000000 in
set_option maxRecDepth 100000 in
theorem c_X3_isKind (l : Launch)  (v1 : Int32)  : Met l yX3_isKind (gws yX3_isKind cX3_isKind 1 (some .boolean)) { frames := 0, cells := 0, slots := 0, locals := 0 } (va_Pc [.int v1] (fun _ => True)) (vp_Si (fun r => ((¬ v1 < 0 ∧ ¬ 6 < v1) ∧ r = 1) ∨ ((¬ (¬ v1 < 0 ∧ ¬ 6 < v1)) ∧ r = 0))) 0 0 (fun _ => False) := by
  refine met_go (by decide) (Nat.le_of_ble_eq_true rfl) ?_
  intro p e s m below meth c ls S hr hlocks hnm _hT hl
  obtain ⟨hx, hb, hml, hown, hg⟩ := id S
  have hl : lv_has ls 1 [(0, .int v1)] := hl
  refine lv_iload_n hx hb dX3_isKind_0 rfl (lv_at hl 0 rfl) ?_
  refine lv_if_lt (tgt := 14) hx hb dX3_isKind_1 (by decide) (fun c_1 => ?_) (fun c_1 => ?_)
  · refine lv_iconst (v := 0) hx hb dX3_isKind_14 (by decide) ?_
    exact W.zret (v := 0) hx hb hr rfl (fun t9 ht9 _ => ⟨_, rfl, Or.inr ⟨fun z => z.1 c_1, rfl⟩, ht9⟩) (fun _ h => nomatch h) dX3_isKind_15
  · refine lv_iload_n hx hb dX3_isKind_4 rfl (lv_at hl 0 rfl) ?_
    refine lv_bipush (v := 6) hx hb dX3_isKind_5 (by decide) ?_
    refine lv_icmp_gt (tgt := 14) hx hb dX3_isKind_7 (by decide) (fun c_7 => ?_) (fun c_7 => ?_)
    · refine lv_iconst (v := 0) hx hb dX3_isKind_14 (by decide) ?_
      exact W.zret (v := 0) hx hb hr rfl (fun t9 ht9 _ => ⟨_, rfl, Or.inr ⟨fun z => z.2 c_7, rfl⟩, ht9⟩) (fun _ h => nomatch h) dX3_isKind_15
    · refine lv_iconst (v := 1) hx hb dX3_isKind_10 (by decide) ?_
      refine lv_goto (tgt := 15) hx hb dX3_isKind_11 (by decide) ?_
      exact W.zret (v := 1) hx hb hr rfl (fun t9 ht9 _ => ⟨_, rfl, Or.inl ⟨⟨c_1, c_7⟩, rfl⟩, ht9⟩) (fun _ h => nomatch h) dX3_isKind_15
set_option maxHeartbeats 4000000 in
set_option maxRecDepth 100000 in
theorem c_X3_canInsert (l : Launch) {D : va_G} {y : Nat} {a : Nat → Nat} {n d : Nat} {th : Int32} {A : Nat → Nat → Int32} (v1 : Int32) (v2 : Int32)  : Met l yX3_canInsert (gws yX3_canInsert cX3_canInsert 3 (some .boolean)) { frames := 2, cells := 0, slots := 0, locals := 46 } (va_Pc [.ref y, .int v1, .int v2] (fun U => RdM D y a n d th A U U.heap)) (vp_Si (fun r => ((NewM A n d v1 ∧ (v2 = 0 ∨ ∃ k, k < n ∧ A 0 k = v2) ∧ ¬ v1 ≤ v2 ∧ n < 512) ∧ r = 1) ∨ ((¬ (NewM A n d v1 ∧ (v2 = 0 ∨ ∃ k, k < n ∧ A 0 k = v2) ∧ ¬ v1 ≤ v2 ∧ n < 512)) ∧ r = 0))) 0 0 (fun _ => False) := by
  refine met_go (by decide) (Nat.le_of_ble_eq_true rfl) ?_
  intro p e s m below meth c ls S hr hlocks hnm hM hl
  obtain ⟨hx, hb, hml, hown, hg⟩ := id S
  have hl : lv_has ls 3 [(0, .ref y), (1, .int v1), (2, .int v2)] := hl
  have hn := hM.n
  refine lv_aload_n hx hb dX3_canInsert_0 rfl (lv_at hl 0 rfl) ?_
  refine lv_iload_n hx hb dX3_canInsert_1 rfl (lv_at hl 1 rfl) ?_
  refine vp_callSi (va_Run.run (runV (As := [.int v1]) (rest := []) (Bh := RdM D y a n d th A) S (c_X3_isNew l v1) (gw_V wk_405 wk_407 wp_21 wk_4 wk_408) rfl rfl 1 rfl (by decide +kernel) (by decide) ⟨Nat.le_refl _, Nat.le_refl _⟩ (fun _ _ _ h q => RdM.mv h q) hM.recv hM hl.1 (Nat.le_of_ble_eq_true rfl) dX3_canInsert_2)) (fun r hr => ?_)
  rcases hr with ⟨h_2, rfl⟩ | ⟨h_2, rfl⟩
  · refine lv_if_eq (tgt := 39) hx hb dX3_canInsert_5 (by decide) (fun c_5 => ?_) (fun c_5 => ?_)
    · exact absurd (show _ from c_5) (by decide)
    · refine lv_iload_n hx hb dX3_canInsert_8 rfl (lv_at hl 2 rfl) ?_
      refine lv_if_eq (tgt := 20) hx hb dX3_canInsert_9 (by decide) (fun c_9 => ?_) (fun c_9 => ?_)
      · refine lv_iload_n hx hb dX3_canInsert_20 rfl (lv_at hl 1 rfl) ?_
        refine lv_iload_n hx hb dX3_canInsert_21 rfl (lv_at hl 2 rfl) ?_
        refine lv_icmp_le (tgt := 39) hx hb dX3_canInsert_22 (by decide) (fun c_22 => ?_) (fun c_22 => ?_)
        · refine lv_iconst (v := 0) hx hb dX3_canInsert_39 (by decide) ?_
          exact W.zret (v := 0) hx hb hr rfl (fun t9 ht9 _ => ⟨_, rfl, Or.inr ⟨fun z => z.2.2.1 c_22, rfl⟩, ht9⟩) (fun _ h => nomatch h) dX3_canInsert_40
        · refine lv_aload_n hx hb dX3_canInsert_25 rfl (lv_at hl 0 rfl) ?_
          refine rM_many S hM dX3_canInsert_26 ?_
          refine lv_sipush (v := nI 512) hx hb dX3_canInsert_29 (by decide) ?_
          refine lv_icmp_ge (tgt := 39) hx hb dX3_canInsert_32 (by decide) (fun c_32 => ?_) (fun c_32 => ?_)
          · rw [nI_leI (by omega) (by omega)] at c_32
            refine lv_iconst (v := 0) hx hb dX3_canInsert_39 (by decide) ?_
            exact W.zret (v := 0) hx hb hr rfl (fun t9 ht9 _ => ⟨_, rfl, Or.inr ⟨fun z => absurd z.2.2.2 (by omega), rfl⟩, ht9⟩) (fun _ h => nomatch h) dX3_canInsert_40
          · rw [nI_leI (by omega) (by omega)] at c_32
            refine lv_iconst (v := 1) hx hb dX3_canInsert_35 (by decide) ?_
            refine lv_goto (tgt := 40) hx hb dX3_canInsert_36 (by decide) ?_
            exact W.zret (v := 1) hx hb hr rfl (fun t9 ht9 _ => ⟨_, rfl, Or.inl ⟨⟨h_2, Or.inl c_9, c_22, by omega⟩, rfl⟩, ht9⟩) (fun _ h => nomatch h) dX3_canInsert_40
      · refine lv_aload_n hx hb dX3_canInsert_12 rfl (lv_at hl 0 rfl) ?_
        refine lv_iload_n hx hb dX3_canInsert_13 rfl (lv_at hl 2 rfl) ?_
        refine vp_callSi (va_Run.run (runV (As := [.int v2]) (rest := []) (Bh := RdM D y a n d th A) S (c_X3_placeOf l v2) (gw_V wk_410 wk_412 wp_22 wk_4 wk_413) rfl rfl 1 rfl (by decide +kernel) (by decide) ⟨Nat.le_refl _, Nat.le_refl _⟩ (fun _ _ _ h q => RdM.mv h q) hM.recv hM hl.1 (Nat.le_of_ble_eq_true rfl) dX3_canInsert_14)) (fun r hr => ?_)
        rcases hr with ⟨k_14, hk_14, he_14, hf_14, rfl⟩ | ⟨hn_14, rfl⟩
        · refine lv_if_lt (tgt := 39) hx hb dX3_canInsert_17 (by decide) (fun c_17 => ?_) (fun c_17 => ?_)
          · exact absurd c_17 (nI_pos (by omega))
          · refine lv_iload_n hx hb dX3_canInsert_20 rfl (lv_at hl 1 rfl) ?_
            refine lv_iload_n hx hb dX3_canInsert_21 rfl (lv_at hl 2 rfl) ?_
            refine lv_icmp_le (tgt := 39) hx hb dX3_canInsert_22 (by decide) (fun c_22 => ?_) (fun c_22 => ?_)
            · refine lv_iconst (v := 0) hx hb dX3_canInsert_39 (by decide) ?_
              exact W.zret (v := 0) hx hb hr rfl (fun t9 ht9 _ => ⟨_, rfl, Or.inr ⟨fun z => z.2.2.1 c_22, rfl⟩, ht9⟩) (fun _ h => nomatch h) dX3_canInsert_40
            · refine lv_aload_n hx hb dX3_canInsert_25 rfl (lv_at hl 0 rfl) ?_
              refine rM_many S hM dX3_canInsert_26 ?_
              refine lv_sipush (v := nI 512) hx hb dX3_canInsert_29 (by decide) ?_
              refine lv_icmp_ge (tgt := 39) hx hb dX3_canInsert_32 (by decide) (fun c_32 => ?_) (fun c_32 => ?_)
              · rw [nI_leI (by omega) (by omega)] at c_32
                refine lv_iconst (v := 0) hx hb dX3_canInsert_39 (by decide) ?_
                exact W.zret (v := 0) hx hb hr rfl (fun t9 ht9 _ => ⟨_, rfl, Or.inr ⟨fun z => absurd z.2.2.2 (by omega), rfl⟩, ht9⟩) (fun _ h => nomatch h) dX3_canInsert_40
              · rw [nI_leI (by omega) (by omega)] at c_32
                refine lv_iconst (v := 1) hx hb dX3_canInsert_35 (by decide) ?_
                refine lv_goto (tgt := 40) hx hb dX3_canInsert_36 (by decide) ?_
                exact W.zret (v := 1) hx hb hr rfl (fun t9 ht9 _ => ⟨_, rfl, Or.inl ⟨⟨h_2, Or.inr ⟨_, hk_14, he_14⟩, c_22, by omega⟩, rfl⟩, ht9⟩) (fun _ h => nomatch h) dX3_canInsert_40
        · refine lv_if_lt (tgt := 39) hx hb dX3_canInsert_17 (by decide) (fun c_17 => ?_) (fun c_17 => ?_)
          · refine lv_iconst (v := 0) hx hb dX3_canInsert_39 (by decide) ?_
            exact W.zret (v := 0) hx hb hr rfl (fun t9 ht9 _ => ⟨_, rfl, Or.inr ⟨fun z => z.2.1.elim c_9 (fun ⟨k, h1, h2⟩ => hn_14 k h1 h2), rfl⟩, ht9⟩) (fun _ h => nomatch h) dX3_canInsert_40
          · exact absurd (show _ from c_17) (by decide)
  · refine lv_if_eq (tgt := 39) hx hb dX3_canInsert_5 (by decide) (fun c_5 => ?_) (fun c_5 => ?_)
    · refine lv_iconst (v := 0) hx hb dX3_canInsert_39 (by decide) ?_
      exact W.zret (v := 0) hx hb hr rfl (fun t9 ht9 _ => ⟨_, rfl, Or.inr ⟨fun z => h_2 z.1, rfl⟩, ht9⟩) (fun _ h => nomatch h) dX3_canInsert_40
    · exact absurd (show _ from c_5) (by decide)
set_option maxHeartbeats 4000000 in
set_option maxRecDepth 100000 in
theorem c_X3_isRemoved (l : Launch) {D : va_G} {y : Nat} {a : Nat → Nat} {n d : Nat} {th : Int32} {A : Nat → Nat → Int32} (v1 : Int32)  : Met l yX3_isRemoved (gws yX3_isRemoved cX3_isRemoved 4 (some .boolean)) { frames := 0, cells := 0, slots := 0, locals := 0 } (va_Pc [.ref y, .int v1] (fun U => RdM D y a n d th A U U.heap)) (vp_Si (fun r => (remB A v1 d = true ∧ r = 1) ∨ (remB A v1 d = false ∧ r = 0))) 0 0 (fun _ => False) := by
  refine met_go (by decide) (Nat.le_of_ble_eq_true rfl) ?_
  intro p e s m below meth c ls S hr hlocks hnm hM hl
  obtain ⟨hx, hb, hml, hown, hg⟩ := id S
  have hl : lv_has ls 4 [(0, .ref y), (1, .int v1)] := hl
  have hn := hM.n
  refine lv_iconst (v := 0) hx hb dX3_isRemoved_0 (by decide) ?_
  refine lv_istore_n (lv' := [(2, .int 0), (0, .ref y), (1, .int v1)]) hx hb dX3_isRemoved_1 rfl hl (by decide) rfl (fun ls hl => ?_)
  refine lv_iconst (v := nI 0) hx hb dX3_isRemoved_2 (by decide) ?_
  refine lv_istore_n (lv' := [(3, .int (nI 0)), (2, .int 0), (0, .ref y), (1, .int v1)]) hx hb dX3_isRemoved_3 rfl hl (by decide) rfl (fun ls hl => ?_)
  suffices hloop : ∀ (fuel : Nat) (k : Nat) (q : Int32), k ≤ d → d - k < fuel → ((remB A v1 k = true ∧ q = 1) ∨ (remB A v1 k = false ∧ q = 0)) → ∀ ls : Array Slot, lv_has ls 4 [(3, .int (nI k)), (2, .int q), (0, .ref y), (1, .int v1)] → W p l e { frames := 0, cells := 0, slots := 0, locals := 0 } s m [.ref y, .int v1].toArray below meth c s.heap [] 0 0 (MQ below (vp_Si (fun r => (remB A v1 d = true ∧ r = 1) ∨ (remB A v1 d = false ∧ r = 0))) [.ref y, .int v1].toArray s 0 0 (fun _ => False)) (F0 m 4 ls []) from hloop (d + 1) 0 0 (by omega) (by omega) (Or.inr ⟨rfl, rfl⟩)  ls (lv_sub hl [0, 1, 2, 3] rfl)
  intro fuel
  induction fuel with
  | zero => intro k q hk hf hI; omega
  | succ fuel ih =>
    intro k q hk hf hI  ls hl
    rcases hI with ⟨hI, rfl⟩ | ⟨hI, rfl⟩
    · refine lv_iload_n hx hb dX3_isRemoved_4 rfl (lv_at hl 0 rfl) ?_
      refine lv_aload_n hx hb dX3_isRemoved_5 rfl (lv_at hl 2 rfl) ?_
      refine rM_done S hM dX3_isRemoved_6 ?_
      refine lv_icmp_ge (tgt := 47) hx hb dX3_isRemoved_9 (by decide) (fun c_9 => ?_) (fun c_9 => ?_)
      · rw [nI_leI (by omega) (by omega)] at c_9
        refine lv_iload_n hx hb dX3_isRemoved_47 rfl (lv_at hl 1 rfl) ?_
        exact W.zret (v := 1) hx hb hr rfl (fun t9 ht9 _ => ⟨_, rfl, Or.inl ⟨by rw [show d = k by omega]; exact hI, rfl⟩, ht9⟩) (fun _ h => nomatch h) dX3_isRemoved_48
      · rw [nI_leI (by omega) (by omega)] at c_9
        refine lv_iload_n hx hb dX3_isRemoved_12 rfl (lv_at hl 1 rfl) ?_
        refine lv_if_ne (tgt := 35) hx hb dX3_isRemoved_13 (by decide) (fun c_13 => ?_) (fun c_13 => ?_)
        · refine lv_iconst (v := 1) hx hb dX3_isRemoved_35 (by decide) ?_
          refine lv_goto (tgt := 40) hx hb dX3_isRemoved_36 (by decide) ?_
          refine lv_istore_n (lv' := [(2, .int 1), (3, .int (nI k)), (0, .ref y), (1, .int v1)]) hx hb dX3_isRemoved_40 rfl hl (by decide) rfl (fun ls hl => ?_)
          refine lv_iinc (v := nI (k + 1)) (lv' := [(3, .int (nI (k + 1))), (2, .int 1), (0, .ref y), (1, .int v1)]) hx hb dX3_isRemoved_41 hl (k := 1) rfl (nI_1 _) (by decide) rfl (fun ls hl => ?_)
          refine lv_goto (tgt := 4) hx hb dX3_isRemoved_44 (by decide) ?_
          exact ih (k + 1) _ (by omega) (by omega) (Or.inl ⟨remB_y hI, rfl⟩)  ls (lv_sub hl [0, 1, 2, 3] rfl)
        · exact absurd (show _ from c_13) (by decide)
    · refine lv_iload_n hx hb dX3_isRemoved_4 rfl (lv_at hl 0 rfl) ?_
      refine lv_aload_n hx hb dX3_isRemoved_5 rfl (lv_at hl 2 rfl) ?_
      refine rM_done S hM dX3_isRemoved_6 ?_
      refine lv_icmp_ge (tgt := 47) hx hb dX3_isRemoved_9 (by decide) (fun c_9 => ?_) (fun c_9 => ?_)
      · rw [nI_leI (by omega) (by omega)] at c_9
        refine lv_iload_n hx hb dX3_isRemoved_47 rfl (lv_at hl 1 rfl) ?_
        exact W.zret (v := 0) hx hb hr rfl (fun t9 ht9 _ => ⟨_, rfl, Or.inr ⟨by rw [show d = k by omega]; exact hI, rfl⟩, ht9⟩) (fun _ h => nomatch h) dX3_isRemoved_48
      · rw [nI_leI (by omega) (by omega)] at c_9
        refine lv_iload_n hx hb dX3_isRemoved_12 rfl (lv_at hl 1 rfl) ?_
        refine lv_if_ne (tgt := 35) hx hb dX3_isRemoved_13 (by decide) (fun c_13 => ?_) (fun c_13 => ?_)
        · exact absurd (show _ from c_13) (by decide)
        · refine lv_aload_n hx hb dX3_isRemoved_16 rfl (lv_at hl 2 rfl) ?_
          refine rM_doneOf S hM dX3_isRemoved_17 ?_
          refine lv_iload_n hx hb dX3_isRemoved_20 rfl (lv_at hl 0 rfl) ?_
          refine rM_ald S hM 5 (by decide) (by show _ < 1024; omega) dX3_isRemoved_21 ?_
          refine lv_iload_n hx hb dX3_isRemoved_22 rfl (lv_at hl 3 rfl) ?_
          refine lv_icmp_ne (tgt := 39) hx hb dX3_isRemoved_23 (by decide) (fun c_23 => ?_) (fun c_23 => ?_)
          · refine lv_iconst (v := 0) hx hb dX3_isRemoved_39 (by decide) ?_
            refine lv_istore_n (lv' := [(2, .int 0), (3, .int (nI k)), (0, .ref y), (1, .int v1)]) hx hb dX3_isRemoved_40 rfl hl (by decide) rfl (fun ls hl => ?_)
            refine lv_iinc (v := nI (k + 1)) (lv' := [(3, .int (nI (k + 1))), (2, .int 0), (0, .ref y), (1, .int v1)]) hx hb dX3_isRemoved_41 hl (k := 1) rfl (nI_1 _) (by decide) rfl (fun ls hl => ?_)
            refine lv_goto (tgt := 4) hx hb dX3_isRemoved_44 (by decide) ?_
            exact ih (k + 1) _ (by omega) (by omega) (Or.inr ⟨remB_n hI (fun z => c_23 z.1), rfl⟩)  ls (lv_sub hl [0, 1, 2, 3] rfl)
          · refine lv_aload_n hx hb dX3_isRemoved_26 rfl (lv_at hl 2 rfl) ?_
            refine rM_doneKinds S hM dX3_isRemoved_27 ?_
            refine lv_iload_n hx hb dX3_isRemoved_30 rfl (lv_at hl 0 rfl) ?_
            refine rM_ald S hM 6 (by decide) (by show _ < 1024; omega) dX3_isRemoved_31 ?_
            refine lv_if_ge (tgt := 39) hx hb dX3_isRemoved_32 (by decide) (fun c_32 => ?_) (fun c_32 => ?_)
            · refine lv_iconst (v := 0) hx hb dX3_isRemoved_39 (by decide) ?_
              refine lv_istore_n (lv' := [(2, .int 0), (3, .int (nI k)), (0, .ref y), (1, .int v1)]) hx hb dX3_isRemoved_40 rfl hl (by decide) rfl (fun ls hl => ?_)
              refine lv_iinc (v := nI (k + 1)) (lv' := [(3, .int (nI (k + 1))), (2, .int 0), (0, .ref y), (1, .int v1)]) hx hb dX3_isRemoved_41 hl (k := 1) rfl (nI_1 _) (by decide) rfl (fun ls hl => ?_)
              refine lv_goto (tgt := 4) hx hb dX3_isRemoved_44 (by decide) ?_
              exact ih (k + 1) _ (by omega) (by omega) (Or.inr ⟨remB_n hI (fun z => absurd z.2 (i32_nlt.mpr c_32)), rfl⟩)  ls (lv_sub hl [0, 1, 2, 3] rfl)
            · refine lv_iconst (v := 1) hx hb dX3_isRemoved_35 (by decide) ?_
              refine lv_goto (tgt := 40) hx hb dX3_isRemoved_36 (by decide) ?_
              refine lv_istore_n (lv' := [(2, .int 1), (3, .int (nI k)), (0, .ref y), (1, .int v1)]) hx hb dX3_isRemoved_40 rfl hl (by decide) rfl (fun ls hl => ?_)
              refine lv_iinc (v := nI (k + 1)) (lv' := [(3, .int (nI (k + 1))), (2, .int 1), (0, .ref y), (1, .int v1)]) hx hb dX3_isRemoved_41 hl (k := 1) rfl (nI_1 _) (by decide) rfl (fun ls hl => ?_)
              refine lv_goto (tgt := 4) hx hb dX3_isRemoved_44 (by decide) ?_
              exact ih (k + 1) _ (by omega) (by omega) (Or.inl ⟨remB_s c_23 (i32_nle.mp c_32), rfl⟩)  ls (lv_sub hl [0, 1, 2, 3] rfl)
set_option maxHeartbeats 4000000 in
set_option maxRecDepth 100000 in
theorem c_X3_standing (l : Launch) {D : va_G} {y : Nat} {a : Nat → Nat} {n d : Nat} {th : Int32} {A : Nat → Nat → Int32} (v1 : Int32)  : Met l yX3_standing (gws yX3_standing cX3_standing 5 (some .int)) { frames := 0, cells := 0, slots := 0, locals := 0 } (va_Pc [.ref y, .int v1] (fun U => RdM D y a n d th A U U.heap)) (vp_Si (fun r => StM A d v1 r)) 0 0 (fun _ => False) := by
  refine met_go (by decide) (Nat.le_of_ble_eq_true rfl) ?_
  intro p e s m below meth c ls S hr hlocks hnm hM hl
  obtain ⟨hx, hb, hml, hown, hg⟩ := id S
  have hl : lv_has ls 5 [(0, .ref y), (1, .int v1)] := hl
  have hn := hM.n
  refine lv_iconst (v := (-1)) hx hb dX3_standing_0 (by decide) ?_
  refine lv_istore_n (lv' := [(2, .int (-1)), (0, .ref y), (1, .int v1)]) hx hb dX3_standing_1 rfl hl (by decide) rfl (fun ls hl => ?_)
  refine lv_iconst (v := nI 0) hx hb dX3_standing_2 (by decide) ?_
  refine lv_istore_n (lv' := [(3, .int (nI 0)), (2, .int (-1)), (0, .ref y), (1, .int v1)]) hx hb dX3_standing_3 rfl hl (by decide) rfl (fun ls hl => ?_)
  suffices hloop : ∀ (fuel : Nat) (k : Nat) (q : Int32), k ≤ d → d - k < fuel → StM A k v1 q → ∀ ls : Array Slot, lv_has ls 5 [(3, .int (nI k)), (2, .int q), (0, .ref y), (1, .int v1)] → W p l e { frames := 0, cells := 0, slots := 0, locals := 0 } s m [.ref y, .int v1].toArray below meth c s.heap [] 0 0 (MQ below (vp_Si (fun r => StM A d v1 r)) [.ref y, .int v1].toArray s 0 0 (fun _ => False)) (F0 m 4 ls []) from hloop (d + 1) 0 (-1) (by omega) (by omega) (Or.inr ⟨(fun _ h => absurd h (Nat.not_lt_zero _)), rfl⟩)  ls (lv_sub hl [0, 1, 2, 3] rfl)
  intro fuel
  induction fuel with
  | zero => intro k q hk hf hI; omega
  | succ fuel ih =>
    intro k q hk hf hI  ls hl
    rcases hI with ⟨j, hj, hs, hm, rfl⟩ | ⟨hno, rfl⟩
    · refine lv_iload_n hx hb dX3_standing_4 rfl (lv_at hl 0 rfl) ?_
      refine lv_aload_n hx hb dX3_standing_5 rfl (lv_at hl 2 rfl) ?_
      refine rM_done S hM dX3_standing_6 ?_
      refine lv_icmp_ge (tgt := 82) hx hb dX3_standing_9 (by decide) (fun c_9 => ?_) (fun c_9 => ?_)
      · rw [nI_leI (by omega) (by omega)] at c_9
        refine lv_iload_n hx hb dX3_standing_82 rfl (lv_at hl 1 rfl) ?_
        exact W.iret (v := (nI j)) hx hb hr (fun t9 ht9 _ => ⟨_, rfl, by rw [show d = k by omega]; exact Or.inl ⟨j, hj, hs, hm, rfl⟩, ht9⟩) (fun _ h => nomatch h) dX3_standing_83
      · rw [nI_leI (by omega) (by omega)] at c_9
        refine lv_aload_n hx hb dX3_standing_12 rfl (lv_at hl 2 rfl) ?_
        refine rM_doneOf S hM dX3_standing_13 ?_
        refine lv_iload_n hx hb dX3_standing_16 rfl (lv_at hl 0 rfl) ?_
        refine rM_ald S hM 5 (by decide) (by show _ < 1024; omega) dX3_standing_17 ?_
        refine lv_iload_n hx hb dX3_standing_18 rfl (lv_at hl 3 rfl) ?_
        refine lv_icmp_ne (tgt := 35) hx hb dX3_standing_19 (by decide) (fun c_19 => ?_) (fun c_19 => ?_)
        · refine lv_iconst (v := 0) hx hb dX3_standing_35 (by decide) ?_
          refine lv_istore (lv' := [(4, .int 0), (3, .int (nI k)), (2, .int (nI j)), (0, .ref y), (1, .int v1)]) hx hb dX3_standing_36 hl (by decide) rfl (fun ls hl => ?_)
          refine lv_iload hx hb dX3_standing_38 (lv_at hl 0 rfl) ?_
          refine lv_if_eq (tgt := 74) hx hb dX3_standing_40 (by decide) (fun c_40 => ?_) (fun c_40 => ?_)
          · refine lv_iload_n hx hb dX3_standing_74 rfl (lv_at hl 2 rfl) ?_
            refine lv_istore_n (lv' := [(2, .int (nI j)), (4, .int 0), (3, .int (nI k)), (0, .ref y), (1, .int v1)]) hx hb dX3_standing_75 rfl hl (by decide) rfl (fun ls hl => ?_)
            refine lv_iinc (v := nI (k + 1)) (lv' := [(3, .int (nI (k + 1))), (2, .int (nI j)), (4, .int 0), (0, .ref y), (1, .int v1)]) hx hb dX3_standing_76 hl (k := 2) rfl (nI_1 _) (by decide) rfl (fun ls hl => ?_)
            refine lv_goto (tgt := 4) hx hb dX3_standing_79 (by decide) ?_
            exact ih (k + 1) _ (by omega) (by omega) (StM_n (fun z => c_19 z.1) (Or.inl ⟨j, hj, hs, hm, rfl⟩))  ls (lv_sub hl [0, 1, 3, 4] rfl)
          · exact absurd (show _ from c_40) (by decide)
        · refine lv_aload_n hx hb dX3_standing_22 rfl (lv_at hl 2 rfl) ?_
          refine rM_doneKinds S hM dX3_standing_23 ?_
          refine lv_iload_n hx hb dX3_standing_26 rfl (lv_at hl 0 rfl) ?_
          refine rM_ald S hM 6 (by decide) (by show _ < 1024; omega) dX3_standing_27 ?_
          refine lv_if_lt (tgt := 35) hx hb dX3_standing_28 (by decide) (fun c_28 => ?_) (fun c_28 => ?_)
          · refine lv_iconst (v := 0) hx hb dX3_standing_35 (by decide) ?_
            refine lv_istore (lv' := [(4, .int 0), (3, .int (nI k)), (2, .int (nI j)), (0, .ref y), (1, .int v1)]) hx hb dX3_standing_36 hl (by decide) rfl (fun ls hl => ?_)
            refine lv_iload hx hb dX3_standing_38 (lv_at hl 0 rfl) ?_
            refine lv_if_eq (tgt := 74) hx hb dX3_standing_40 (by decide) (fun c_40 => ?_) (fun c_40 => ?_)
            · refine lv_iload_n hx hb dX3_standing_74 rfl (lv_at hl 2 rfl) ?_
              refine lv_istore_n (lv' := [(2, .int (nI j)), (4, .int 0), (3, .int (nI k)), (0, .ref y), (1, .int v1)]) hx hb dX3_standing_75 rfl hl (by decide) rfl (fun ls hl => ?_)
              refine lv_iinc (v := nI (k + 1)) (lv' := [(3, .int (nI (k + 1))), (2, .int (nI j)), (4, .int 0), (0, .ref y), (1, .int v1)]) hx hb dX3_standing_76 hl (k := 2) rfl (nI_1 _) (by decide) rfl (fun ls hl => ?_)
              refine lv_goto (tgt := 4) hx hb dX3_standing_79 (by decide) ?_
              exact ih (k + 1) _ (by omega) (by omega) (StM_n (fun z => z.2 c_28) (Or.inl ⟨j, hj, hs, hm, rfl⟩))  ls (lv_sub hl [0, 1, 3, 4] rfl)
            · exact absurd (show _ from c_40) (by decide)
          · refine lv_iconst (v := 1) hx hb dX3_standing_31 (by decide) ?_
            refine lv_goto (tgt := 36) hx hb dX3_standing_32 (by decide) ?_
            refine lv_istore (lv' := [(4, .int 1), (3, .int (nI k)), (2, .int (nI j)), (0, .ref y), (1, .int v1)]) hx hb dX3_standing_36 hl (by decide) rfl (fun ls hl => ?_)
            refine lv_iload hx hb dX3_standing_38 (lv_at hl 0 rfl) ?_
            refine lv_if_eq (tgt := 74) hx hb dX3_standing_40 (by decide) (fun c_40 => ?_) (fun c_40 => ?_)
            · exact absurd (show _ from c_40) (by decide)
            · refine lv_iload_n hx hb dX3_standing_43 rfl (lv_at hl 2 rfl) ?_
              refine lv_if_lt (tgt := 70) hx hb dX3_standing_44 (by decide) (fun c_44 => ?_) (fun c_44 => ?_)
              · exact absurd c_44 (nI_pos (by omega))
              · refine lv_aload_n hx hb dX3_standing_47 rfl (lv_at hl 3 rfl) ?_
                refine rM_doneIds S hM dX3_standing_48 ?_
                refine lv_iload_n hx hb dX3_standing_51 rfl (lv_at hl 1 rfl) ?_
                refine rM_ald S hM 4 (by decide) (by show _ < 1024; omega) dX3_standing_52 ?_
                refine lv_aload_n hx hb dX3_standing_53 rfl (lv_at hl 3 rfl) ?_
                refine rM_doneIds S hM dX3_standing_54 ?_
                refine lv_iload_n hx hb dX3_standing_57 rfl (lv_at hl 2 rfl) ?_
                refine lv_if_ge (tgt := 65) hx hb dX3_standing_58 (by decide) (fun c_58 => ?_) (fun c_58 => ?_)
                · refine lv_iload_n hx hb dX3_standing_65 rfl (lv_at hl 2 rfl) ?_
                  refine rM_ald S hM 4 (by decide) (by show _ < 1024; omega) dX3_standing_66 ?_
                  refine lv_icmp_le (tgt := 74) hx hb dX3_standing_67 (by decide) (fun c_67 => ?_) (fun c_67 => ?_)
                  · refine lv_iload_n hx hb dX3_standing_74 rfl (lv_at hl 2 rfl) ?_
                    refine lv_istore_n (lv' := [(2, .int (nI j)), (4, .int 1), (3, .int (nI k)), (0, .ref y), (1, .int v1)]) hx hb dX3_standing_75 rfl hl (by decide) rfl (fun ls hl => ?_)
                    refine lv_iinc (v := nI (k + 1)) (lv' := [(3, .int (nI (k + 1))), (2, .int (nI j)), (4, .int 1), (0, .ref y), (1, .int v1)]) hx hb dX3_standing_76 hl (k := 2) rfl (nI_1 _) (by decide) rfl (fun ls hl => ?_)
                    refine lv_goto (tgt := 4) hx hb dX3_standing_79 (by decide) ?_
                    exact ih (k + 1) _ (by omega) (by omega) (StM_l hj hs hm (i32_nlt.mpr c_67))  ls (lv_sub hl [0, 1, 3, 4] rfl)
                  · refine lv_iload_n hx hb dX3_standing_70 rfl (lv_at hl 1 rfl) ?_
                    refine lv_goto (tgt := 75) hx hb dX3_standing_71 (by decide) ?_
                    refine lv_istore_n (lv' := [(2, .int (nI k)), (4, .int 1), (3, .int (nI k)), (0, .ref y), (1, .int v1)]) hx hb dX3_standing_75 rfl hl (by decide) rfl (fun ls hl => ?_)
                    refine lv_iinc (v := nI (k + 1)) (lv' := [(3, .int (nI (k + 1))), (2, .int (nI k)), (4, .int 1), (0, .ref y), (1, .int v1)]) hx hb dX3_standing_76 hl (k := 2) rfl (nI_1 _) (by decide) rfl (fun ls hl => ?_)
                    refine lv_goto (tgt := 4) hx hb dX3_standing_79 (by decide) ?_
                    exact ih (k + 1) _ (by omega) (by omega) (StM_g ⟨c_19, c_28⟩ hm (i32_nle.mp c_67))  ls (lv_sub hl [0, 1, 3, 4] rfl)
                · exact absurd (nI_pos' (by omega)) c_58
    · refine lv_iload_n hx hb dX3_standing_4 rfl (lv_at hl 0 rfl) ?_
      refine lv_aload_n hx hb dX3_standing_5 rfl (lv_at hl 2 rfl) ?_
      refine rM_done S hM dX3_standing_6 ?_
      refine lv_icmp_ge (tgt := 82) hx hb dX3_standing_9 (by decide) (fun c_9 => ?_) (fun c_9 => ?_)
      · rw [nI_leI (by omega) (by omega)] at c_9
        refine lv_iload_n hx hb dX3_standing_82 rfl (lv_at hl 1 rfl) ?_
        exact W.iret (v := (-1)) hx hb hr (fun t9 ht9 _ => ⟨_, rfl, by rw [show d = k by omega]; exact Or.inr ⟨hno, rfl⟩, ht9⟩) (fun _ h => nomatch h) dX3_standing_83
      · rw [nI_leI (by omega) (by omega)] at c_9
        refine lv_aload_n hx hb dX3_standing_12 rfl (lv_at hl 2 rfl) ?_
        refine rM_doneOf S hM dX3_standing_13 ?_
        refine lv_iload_n hx hb dX3_standing_16 rfl (lv_at hl 0 rfl) ?_
        refine rM_ald S hM 5 (by decide) (by show _ < 1024; omega) dX3_standing_17 ?_
        refine lv_iload_n hx hb dX3_standing_18 rfl (lv_at hl 3 rfl) ?_
        refine lv_icmp_ne (tgt := 35) hx hb dX3_standing_19 (by decide) (fun c_19 => ?_) (fun c_19 => ?_)
        · refine lv_iconst (v := 0) hx hb dX3_standing_35 (by decide) ?_
          refine lv_istore (lv' := [(4, .int 0), (3, .int (nI k)), (2, .int (-1)), (0, .ref y), (1, .int v1)]) hx hb dX3_standing_36 hl (by decide) rfl (fun ls hl => ?_)
          refine lv_iload hx hb dX3_standing_38 (lv_at hl 0 rfl) ?_
          refine lv_if_eq (tgt := 74) hx hb dX3_standing_40 (by decide) (fun c_40 => ?_) (fun c_40 => ?_)
          · refine lv_iload_n hx hb dX3_standing_74 rfl (lv_at hl 2 rfl) ?_
            refine lv_istore_n (lv' := [(2, .int (-1)), (4, .int 0), (3, .int (nI k)), (0, .ref y), (1, .int v1)]) hx hb dX3_standing_75 rfl hl (by decide) rfl (fun ls hl => ?_)
            refine lv_iinc (v := nI (k + 1)) (lv' := [(3, .int (nI (k + 1))), (2, .int (-1)), (4, .int 0), (0, .ref y), (1, .int v1)]) hx hb dX3_standing_76 hl (k := 2) rfl (nI_1 _) (by decide) rfl (fun ls hl => ?_)
            refine lv_goto (tgt := 4) hx hb dX3_standing_79 (by decide) ?_
            exact ih (k + 1) _ (by omega) (by omega) (StM_n (fun z => c_19 z.1) (Or.inr ⟨hno, rfl⟩))  ls (lv_sub hl [0, 1, 3, 4] rfl)
          · exact absurd (show _ from c_40) (by decide)
        · refine lv_aload_n hx hb dX3_standing_22 rfl (lv_at hl 2 rfl) ?_
          refine rM_doneKinds S hM dX3_standing_23 ?_
          refine lv_iload_n hx hb dX3_standing_26 rfl (lv_at hl 0 rfl) ?_
          refine rM_ald S hM 6 (by decide) (by show _ < 1024; omega) dX3_standing_27 ?_
          refine lv_if_lt (tgt := 35) hx hb dX3_standing_28 (by decide) (fun c_28 => ?_) (fun c_28 => ?_)
          · refine lv_iconst (v := 0) hx hb dX3_standing_35 (by decide) ?_
            refine lv_istore (lv' := [(4, .int 0), (3, .int (nI k)), (2, .int (-1)), (0, .ref y), (1, .int v1)]) hx hb dX3_standing_36 hl (by decide) rfl (fun ls hl => ?_)
            refine lv_iload hx hb dX3_standing_38 (lv_at hl 0 rfl) ?_
            refine lv_if_eq (tgt := 74) hx hb dX3_standing_40 (by decide) (fun c_40 => ?_) (fun c_40 => ?_)
            · refine lv_iload_n hx hb dX3_standing_74 rfl (lv_at hl 2 rfl) ?_
              refine lv_istore_n (lv' := [(2, .int (-1)), (4, .int 0), (3, .int (nI k)), (0, .ref y), (1, .int v1)]) hx hb dX3_standing_75 rfl hl (by decide) rfl (fun ls hl => ?_)
              refine lv_iinc (v := nI (k + 1)) (lv' := [(3, .int (nI (k + 1))), (2, .int (-1)), (4, .int 0), (0, .ref y), (1, .int v1)]) hx hb dX3_standing_76 hl (k := 2) rfl (nI_1 _) (by decide) rfl (fun ls hl => ?_)
              refine lv_goto (tgt := 4) hx hb dX3_standing_79 (by decide) ?_
              exact ih (k + 1) _ (by omega) (by omega) (StM_n (fun z => z.2 c_28) (Or.inr ⟨hno, rfl⟩))  ls (lv_sub hl [0, 1, 3, 4] rfl)
            · exact absurd (show _ from c_40) (by decide)
          · refine lv_iconst (v := 1) hx hb dX3_standing_31 (by decide) ?_
            refine lv_goto (tgt := 36) hx hb dX3_standing_32 (by decide) ?_
            refine lv_istore (lv' := [(4, .int 1), (3, .int (nI k)), (2, .int (-1)), (0, .ref y), (1, .int v1)]) hx hb dX3_standing_36 hl (by decide) rfl (fun ls hl => ?_)
            refine lv_iload hx hb dX3_standing_38 (lv_at hl 0 rfl) ?_
            refine lv_if_eq (tgt := 74) hx hb dX3_standing_40 (by decide) (fun c_40 => ?_) (fun c_40 => ?_)
            · exact absurd (show _ from c_40) (by decide)
            · refine lv_iload_n hx hb dX3_standing_43 rfl (lv_at hl 2 rfl) ?_
              refine lv_if_lt (tgt := 70) hx hb dX3_standing_44 (by decide) (fun c_44 => ?_) (fun c_44 => ?_)
              · refine lv_iload_n hx hb dX3_standing_70 rfl (lv_at hl 1 rfl) ?_
                refine lv_goto (tgt := 75) hx hb dX3_standing_71 (by decide) ?_
                refine lv_istore_n (lv' := [(2, .int (nI k)), (4, .int 1), (3, .int (nI k)), (0, .ref y), (1, .int v1)]) hx hb dX3_standing_75 rfl hl (by decide) rfl (fun ls hl => ?_)
                refine lv_iinc (v := nI (k + 1)) (lv' := [(3, .int (nI (k + 1))), (2, .int (nI k)), (4, .int 1), (0, .ref y), (1, .int v1)]) hx hb dX3_standing_76 hl (k := 2) rfl (nI_1 _) (by decide) rfl (fun ls hl => ?_)
                refine lv_goto (tgt := 4) hx hb dX3_standing_79 (by decide) ?_
                exact ih (k + 1) _ (by omega) (by omega) (StM_f ⟨c_19, c_28⟩ hno)  ls (lv_sub hl [0, 1, 3, 4] rfl)
              · exact absurd (show _ from c_44) (by decide)
set_option maxHeartbeats 4000000 in
set_option maxRecDepth 100000 in
theorem c_X3_kindOf (l : Launch) {D : va_G} {y : Nat} {a : Nat → Nat} {n d : Nat} {th : Int32} {A : Nat → Nat → Int32} (v1 : Int32) (hv : ∃ k, k < n ∧ A 0 k = v1) : Met l yX3_kindOf (gws yX3_kindOf cX3_kindOf 3 (some .int)) { frames := 1, cells := 0, slots := 0, locals := 24 } (va_Pc [.ref y, .int v1] (fun U => RdM D y a n d th A U U.heap)) (vp_Si (fun r => OfM A n d v1 2 6 r)) 0 0 (fun _ => False) := by
  refine met_go (by decide) (Nat.le_of_ble_eq_true rfl) ?_
  intro p e s m below meth c ls S hr hlocks hnm hM hl
  obtain ⟨hx, hb, hml, hown, hg⟩ := id S
  have hl : lv_has ls 3 [(0, .ref y), (1, .int v1)] := hl
  have hn := hM.n
  refine lv_aload_n hx hb dX3_kindOf_0 rfl (lv_at hl 0 rfl) ?_
  refine lv_iload_n hx hb dX3_kindOf_1 rfl (lv_at hl 1 rfl) ?_
  refine vp_callSi (va_Run.run (runV (As := [.int v1]) (rest := []) (Bh := RdM D y a n d th A) S (c_X3_standing l v1) (gw_V wk_470 wk_472 wp_31 wk_4 wk_473) rfl rfl 1 rfl (by decide +kernel) (by decide) ⟨Nat.le_refl _, Nat.le_refl _⟩ (fun _ _ _ h q => RdM.mv h q) hM.recv hM hl.1 (Nat.le_of_ble_eq_true rfl) dX3_kindOf_2)) (fun r hr => ?_)
  rcases hr with ⟨j_2, hj_2, hs_2, hm_2, rfl⟩ | ⟨hno_2, rfl⟩
  · refine lv_istore_n (lv' := [(2, .int (nI j_2)), (0, .ref y), (1, .int v1)]) hx hb dX3_kindOf_5 rfl hl (by decide) rfl (fun ls hl => ?_)
    refine lv_iload_n hx hb dX3_kindOf_6 rfl (lv_at hl 0 rfl) ?_
    refine lv_if_ge (tgt := 23) hx hb dX3_kindOf_7 (by decide) (fun c_7 => ?_) (fun c_7 => ?_)
    · refine lv_aload_n hx hb dX3_kindOf_23 rfl (lv_at hl 1 rfl) ?_
      refine rM_doneKinds S hM dX3_kindOf_24 ?_
      refine lv_iload_n hx hb dX3_kindOf_27 rfl (lv_at hl 0 rfl) ?_
      refine rM_ald S hM 6 (by decide) (by show _ < 1024; omega) dX3_kindOf_28 ?_
      exact W.iret (v := (A 6 j_2)) hx hb hr (fun t9 ht9 _ => ⟨_, rfl, Or.inl ⟨j_2, hj_2, hs_2, hm_2, rfl⟩, ht9⟩) (fun _ h => nomatch h) dX3_kindOf_29
    · exact absurd (nI_pos' (by omega)) c_7
  · refine lv_istore_n (lv' := [(2, .int (-1)), (0, .ref y), (1, .int v1)]) hx hb dX3_kindOf_5 rfl hl (by decide) rfl (fun ls hl => ?_)
    refine lv_iload_n hx hb dX3_kindOf_6 rfl (lv_at hl 0 rfl) ?_
    refine lv_if_ge (tgt := 23) hx hb dX3_kindOf_7 (by decide) (fun c_7 => ?_) (fun c_7 => ?_)
    · exact absurd (show _ from c_7) (by decide)
    · refine lv_aload_n hx hb dX3_kindOf_10 rfl (lv_at hl 1 rfl) ?_
      refine rM_kinds S hM dX3_kindOf_11 ?_
      refine lv_aload_n hx hb dX3_kindOf_14 rfl (lv_at hl 1 rfl) ?_
      refine lv_iload_n hx hb dX3_kindOf_15 rfl (lv_at hl 2 rfl) ?_
      refine vp_callSi (va_Run.run (runV (As := [.int v1]) (rest := [.ref (a 2)]) (Bh := RdM D y a n d th A) S (c_X3_placeOf l v1) (gw_V wk_410 wk_412 wp_22 wk_4 wk_413) rfl rfl 1 rfl (by decide +kernel) (by decide) ⟨Nat.le_refl _, Nat.le_refl _⟩ (fun _ _ _ h q => RdM.mv h q) hM.recv hM hl.1 (Nat.le_of_ble_eq_true rfl) dX3_kindOf_16)) (fun r hr => ?_)
      rcases hr with ⟨k_16, hk_16, he_16, hf_16, rfl⟩ | ⟨hn_16, rfl⟩
      · refine rM_ald S hM 2 (by decide) (by show _ < 512; omega) dX3_kindOf_19 ?_
        refine lv_goto (tgt := 29) hx hb dX3_kindOf_20 (by decide) ?_
        exact W.iret (v := (A 2 k_16)) hx hb hr (fun t9 ht9 _ => ⟨_, rfl, Or.inr ⟨hno_2, k_16, hk_16, he_16, rfl⟩, ht9⟩) (fun _ h => nomatch h) dX3_kindOf_29
      · obtain ⟨k9, hk9, he9⟩ := hv
        exact absurd he9 (hn_16 k9 hk9)
set_option maxHeartbeats 4000000 in
set_option maxRecDepth 100000 in
theorem c_X3_valueOf (l : Launch) {D : va_G} {y : Nat} {a : Nat → Nat} {n d : Nat} {th : Int32} {A : Nat → Nat → Int32} (v1 : Int32) (hv : ∃ k, k < n ∧ A 0 k = v1) : Met l yX3_valueOf (gws yX3_valueOf cX3_valueOf 3 (some .int)) { frames := 1, cells := 0, slots := 0, locals := 24 } (va_Pc [.ref y, .int v1] (fun U => RdM D y a n d th A U U.heap)) (vp_Si (fun r => OfM A n d v1 3 7 r)) 0 0 (fun _ => False) := by
  refine met_go (by decide) (Nat.le_of_ble_eq_true rfl) ?_
  intro p e s m below meth c ls S hr hlocks hnm hM hl
  obtain ⟨hx, hb, hml, hown, hg⟩ := id S
  have hl : lv_has ls 3 [(0, .ref y), (1, .int v1)] := hl
  have hn := hM.n
  refine lv_aload_n hx hb dX3_valueOf_0 rfl (lv_at hl 0 rfl) ?_
  refine lv_iload_n hx hb dX3_valueOf_1 rfl (lv_at hl 1 rfl) ?_
  refine vp_callSi (va_Run.run (runV (As := [.int v1]) (rest := []) (Bh := RdM D y a n d th A) S (c_X3_standing l v1) (gw_V wk_470 wk_472 wp_31 wk_4 wk_473) rfl rfl 1 rfl (by decide +kernel) (by decide) ⟨Nat.le_refl _, Nat.le_refl _⟩ (fun _ _ _ h q => RdM.mv h q) hM.recv hM hl.1 (Nat.le_of_ble_eq_true rfl) dX3_valueOf_2)) (fun r hr => ?_)
  rcases hr with ⟨j_2, hj_2, hs_2, hm_2, rfl⟩ | ⟨hno_2, rfl⟩
  · refine lv_istore_n (lv' := [(2, .int (nI j_2)), (0, .ref y), (1, .int v1)]) hx hb dX3_valueOf_5 rfl hl (by decide) rfl (fun ls hl => ?_)
    refine lv_iload_n hx hb dX3_valueOf_6 rfl (lv_at hl 0 rfl) ?_
    refine lv_if_ge (tgt := 23) hx hb dX3_valueOf_7 (by decide) (fun c_7 => ?_) (fun c_7 => ?_)
    · refine lv_aload_n hx hb dX3_valueOf_23 rfl (lv_at hl 1 rfl) ?_
      refine rM_doneValues S hM dX3_valueOf_24 ?_
      refine lv_iload_n hx hb dX3_valueOf_27 rfl (lv_at hl 0 rfl) ?_
      refine rM_ald S hM 7 (by decide) (by show _ < 1024; omega) dX3_valueOf_28 ?_
      exact W.iret (v := (A 7 j_2)) hx hb hr (fun t9 ht9 _ => ⟨_, rfl, Or.inl ⟨j_2, hj_2, hs_2, hm_2, rfl⟩, ht9⟩) (fun _ h => nomatch h) dX3_valueOf_29
    · exact absurd (nI_pos' (by omega)) c_7
  · refine lv_istore_n (lv' := [(2, .int (-1)), (0, .ref y), (1, .int v1)]) hx hb dX3_valueOf_5 rfl hl (by decide) rfl (fun ls hl => ?_)
    refine lv_iload_n hx hb dX3_valueOf_6 rfl (lv_at hl 0 rfl) ?_
    refine lv_if_ge (tgt := 23) hx hb dX3_valueOf_7 (by decide) (fun c_7 => ?_) (fun c_7 => ?_)
    · exact absurd (show _ from c_7) (by decide)
    · refine lv_aload_n hx hb dX3_valueOf_10 rfl (lv_at hl 1 rfl) ?_
      refine rM_values S hM dX3_valueOf_11 ?_
      refine lv_aload_n hx hb dX3_valueOf_14 rfl (lv_at hl 1 rfl) ?_
      refine lv_iload_n hx hb dX3_valueOf_15 rfl (lv_at hl 2 rfl) ?_
      refine vp_callSi (va_Run.run (runV (As := [.int v1]) (rest := [.ref (a 3)]) (Bh := RdM D y a n d th A) S (c_X3_placeOf l v1) (gw_V wk_410 wk_412 wp_22 wk_4 wk_413) rfl rfl 1 rfl (by decide +kernel) (by decide) ⟨Nat.le_refl _, Nat.le_refl _⟩ (fun _ _ _ h q => RdM.mv h q) hM.recv hM hl.1 (Nat.le_of_ble_eq_true rfl) dX3_valueOf_16)) (fun r hr => ?_)
      rcases hr with ⟨k_16, hk_16, he_16, hf_16, rfl⟩ | ⟨hn_16, rfl⟩
      · refine rM_ald S hM 3 (by decide) (by show _ < 512; omega) dX3_valueOf_19 ?_
        refine lv_goto (tgt := 29) hx hb dX3_valueOf_20 (by decide) ?_
        exact W.iret (v := (A 3 k_16)) hx hb hr (fun t9 ht9 _ => ⟨_, rfl, Or.inr ⟨hno_2, k_16, hk_16, he_16, rfl⟩, ht9⟩) (fun _ h => nomatch h) dX3_valueOf_29
      · obtain ⟨k9, hk9, he9⟩ := hv
        exact absurd he9 (hn_16 k9 hk9)
set_option maxHeartbeats 4000000 in
set_option maxRecDepth 100000 in
theorem c_X3_idStanding (l : Launch) {D : va_G} {y : Nat} {a : Nat → Nat} {n d : Nat} {th : Int32} {A : Nat → Nat → Int32} (v1 : Int32) (hv : ∃ k, k < n ∧ A 0 k = v1) : Met l yX3_idStanding (gws yX3_idStanding cX3_idStanding 3 (some .int)) { frames := 1, cells := 0, slots := 0, locals := 24 } (va_Pc [.ref y, .int v1] (fun U => RdM D y a n d th A U U.heap)) (vp_Si (fun r => OfM A n d v1 0 4 r)) 0 0 (fun _ => False) := by
  refine met_go (by decide) (Nat.le_of_ble_eq_true rfl) ?_
  intro p e s m below meth c ls S hr hlocks hnm hM hl
  obtain ⟨hx, hb, hml, hown, hg⟩ := id S
  have hl : lv_has ls 3 [(0, .ref y), (1, .int v1)] := hl
  have hn := hM.n
  refine lv_aload_n hx hb dX3_idStanding_0 rfl (lv_at hl 0 rfl) ?_
  refine lv_iload_n hx hb dX3_idStanding_1 rfl (lv_at hl 1 rfl) ?_
  refine vp_callSi (va_Run.run (runV (As := [.int v1]) (rest := []) (Bh := RdM D y a n d th A) S (c_X3_standing l v1) (gw_V wk_470 wk_472 wp_31 wk_4 wk_473) rfl rfl 1 rfl (by decide +kernel) (by decide) ⟨Nat.le_refl _, Nat.le_refl _⟩ (fun _ _ _ h q => RdM.mv h q) hM.recv hM hl.1 (Nat.le_of_ble_eq_true rfl) dX3_idStanding_2)) (fun r hr => ?_)
  rcases hr with ⟨j_2, hj_2, hs_2, hm_2, rfl⟩ | ⟨hno_2, rfl⟩
  · refine lv_istore_n (lv' := [(2, .int (nI j_2)), (0, .ref y), (1, .int v1)]) hx hb dX3_idStanding_5 rfl hl (by decide) rfl (fun ls hl => ?_)
    refine lv_iload_n hx hb dX3_idStanding_6 rfl (lv_at hl 0 rfl) ?_
    refine lv_if_ge (tgt := 14) hx hb dX3_idStanding_7 (by decide) (fun c_7 => ?_) (fun c_7 => ?_)
    · refine lv_aload_n hx hb dX3_idStanding_14 rfl (lv_at hl 1 rfl) ?_
      refine rM_doneIds S hM dX3_idStanding_15 ?_
      refine lv_iload_n hx hb dX3_idStanding_18 rfl (lv_at hl 0 rfl) ?_
      refine rM_ald S hM 4 (by decide) (by show _ < 1024; omega) dX3_idStanding_19 ?_
      exact W.iret (v := (A 4 j_2)) hx hb hr (fun t9 ht9 _ => ⟨_, rfl, Or.inl ⟨j_2, hj_2, hs_2, hm_2, rfl⟩, ht9⟩) (fun _ h => nomatch h) dX3_idStanding_20
    · exact absurd (nI_pos' (by omega)) c_7
  · refine lv_istore_n (lv' := [(2, .int (-1)), (0, .ref y), (1, .int v1)]) hx hb dX3_idStanding_5 rfl hl (by decide) rfl (fun ls hl => ?_)
    refine lv_iload_n hx hb dX3_idStanding_6 rfl (lv_at hl 0 rfl) ?_
    refine lv_if_ge (tgt := 14) hx hb dX3_idStanding_7 (by decide) (fun c_7 => ?_) (fun c_7 => ?_)
    · exact absurd (show _ from c_7) (by decide)
    · refine lv_iload_n hx hb dX3_idStanding_10 rfl (lv_at hl 2 rfl) ?_
      refine lv_goto (tgt := 20) hx hb dX3_idStanding_11 (by decide) ?_
      exact W.iret (v := v1) hx hb hr (fun t9 ht9 _ => ⟨_, rfl, Or.inr ⟨hno_2, hv.elim (fun k h => ⟨k, h.1, h.2, h.2.symm⟩)⟩, ht9⟩) (fun _ h => nomatch h) dX3_idStanding_20
set_option maxHeartbeats 4000000 in
set_option maxRecDepth 100000 in
theorem c_X3_sizeOf (l : Launch) {D : va_G} {y : Nat} {a : Nat → Nat} {n d : Nat} {th : Int32} {A : Nat → Nat → Int32}   : Met l yX3_sizeOf (gws yX3_sizeOf cX3_sizeOf 3 (some .int)) { frames := 1, cells := 0, slots := 0, locals := 23 } (va_Pc [.ref y] (fun U => RdM D y a n d th A U U.heap)) (vp_Si (fun r => r = nI (cntB (fun k => !remB A (A 0 k) d) n))) 0 0 (fun _ => False) := by
  refine met_go (by decide) (Nat.le_of_ble_eq_true rfl) ?_
  intro p e s m below meth c ls S hr hlocks hnm hM hl
  obtain ⟨hx, hb, hml, hown, hg⟩ := id S
  have hl : lv_has ls 3 [(0, .ref y)] := hl
  have hn := hM.n
  refine lv_iconst (v := nI 0) hx hb dX3_sizeOf_0 (by decide) ?_
  refine lv_istore_n (lv' := [(1, .int (nI 0)), (0, .ref y)]) hx hb dX3_sizeOf_1 rfl hl (by decide) rfl (fun ls hl => ?_)
  refine lv_iconst (v := nI 0) hx hb dX3_sizeOf_2 (by decide) ?_
  refine lv_istore_n (lv' := [(2, .int (nI 0)), (1, .int (nI 0)), (0, .ref y)]) hx hb dX3_sizeOf_3 rfl hl (by decide) rfl (fun ls hl => ?_)
  suffices hloop : ∀ (fuel : Nat) (k q : Nat), k ≤ n → n - k < fuel → q = cntB (fun k => !remB A (A 0 k) d) k → ∀ ls : Array Slot, lv_has ls 3 [(2, .int (nI k)), (1, .int (nI q)), (0, .ref y)] → W p l e { frames := 1, cells := 0, slots := 0, locals := 23 } s m [.ref y].toArray below meth c s.heap [] 0 0 (MQ below (vp_Si (fun r => r = nI (cntB (fun k => !remB A (A 0 k) d) n))) [.ref y].toArray s 0 0 (fun _ => False)) (F0 m 4 ls []) from hloop (n + 1) 0 0 (by omega) (by omega) rfl  ls (lv_sub hl [0, 1, 2] rfl)
  intro fuel
  induction fuel with
  | zero => intro k q hk hf hq; omega
  | succ fuel ih =>
    intro k q hk hf hq  ls hl
    refine lv_iload_n hx hb dX3_sizeOf_4 rfl (lv_at hl 0 rfl) ?_
    refine lv_aload_n hx hb dX3_sizeOf_5 rfl (lv_at hl 2 rfl) ?_
    refine rM_many S hM dX3_sizeOf_6 ?_
    refine lv_icmp_ge (tgt := 39) hx hb dX3_sizeOf_9 (by decide) (fun c_9 => ?_) (fun c_9 => ?_)
    · rw [nI_leI (by omega) (by omega)] at c_9
      refine lv_iload_n hx hb dX3_sizeOf_39 rfl (lv_at hl 1 rfl) ?_
      exact W.iret (v := (nI q)) hx hb hr (fun t9 ht9 _ => ⟨_, rfl, by rw [hq, show k = n by omega], ht9⟩) (fun _ h => nomatch h) dX3_sizeOf_40
    · rw [nI_leI (by omega) (by omega)] at c_9
      refine lv_iload_n hx hb dX3_sizeOf_12 rfl (lv_at hl 1 rfl) ?_
      refine lv_aload_n hx hb dX3_sizeOf_13 rfl (lv_at hl 2 rfl) ?_
      refine lv_aload_n hx hb dX3_sizeOf_14 rfl (lv_at hl 2 rfl) ?_
      refine rM_ids S hM dX3_sizeOf_15 ?_
      refine lv_iload_n hx hb dX3_sizeOf_18 rfl (lv_at hl 0 rfl) ?_
      refine rM_ald S hM 0 (by decide) (by show _ < 512; omega) dX3_sizeOf_19 ?_
      refine vp_callSi (va_Run.run (runV (As := [.int (A 0 k)]) (rest := [.int (nI q)]) (Bh := RdM D y a n d th A) S (c_X3_isRemoved l (A 0 k)) (gw_V wk_446 wk_448 wp_26 wk_4 wk_449) rfl rfl 1 rfl (by decide +kernel) (by decide) ⟨Nat.le_refl _, Nat.le_refl _⟩ (fun _ _ _ h q => RdM.mv h q) hM.recv hM hl.1 (Nat.le_of_ble_eq_true rfl) dX3_sizeOf_20)) (fun r hr => ?_)
      rcases hr with ⟨h_20, rfl⟩ | ⟨h_20, rfl⟩
      · refine lv_if_eq (tgt := 30) hx hb dX3_sizeOf_23 (by decide) (fun c_23 => ?_) (fun c_23 => ?_)
        · exact absurd (show _ from c_23) (by decide)
        · refine lv_iconst (v := nI 0) hx hb dX3_sizeOf_26 (by decide) ?_
          refine lv_goto (tgt := 31) hx hb dX3_sizeOf_27 (by decide) ?_
          refine lv_iadd hx hb dX3_sizeOf_31 ?_
          rw [nI_add, Nat.add_zero]
          refine lv_istore_n (lv' := [(1, .int (nI q)), (2, .int (nI k)), (0, .ref y)]) hx hb dX3_sizeOf_32 rfl hl (by decide) rfl (fun ls hl => ?_)
          refine lv_iinc (v := nI (k + 1)) (lv' := [(2, .int (nI (k + 1))), (1, .int (nI q)), (0, .ref y)]) hx hb dX3_sizeOf_33 hl (k := 1) rfl (nI_1 _) (by decide) rfl (fun ls hl => ?_)
          refine lv_goto (tgt := 4) hx hb dX3_sizeOf_36 (by decide) ?_
          exact ih (k + 1) q (by omega) (by omega) (cntB_n hq (by rw [h_20]; rfl))  ls (lv_sub hl [0, 1, 2] rfl)
      · refine lv_if_eq (tgt := 30) hx hb dX3_sizeOf_23 (by decide) (fun c_23 => ?_) (fun c_23 => ?_)
        · refine lv_iconst (v := nI 1) hx hb dX3_sizeOf_30 (by decide) ?_
          refine lv_iadd hx hb dX3_sizeOf_31 ?_
          rw [nI_add]
          refine lv_istore_n (lv' := [(1, .int (nI (q + 1))), (2, .int (nI k)), (0, .ref y)]) hx hb dX3_sizeOf_32 rfl hl (by decide) rfl (fun ls hl => ?_)
          refine lv_iinc (v := nI (k + 1)) (lv' := [(2, .int (nI (k + 1))), (1, .int (nI (q + 1))), (0, .ref y)]) hx hb dX3_sizeOf_33 hl (k := 1) rfl (nI_1 _) (by decide) rfl (fun ls hl => ?_)
          refine lv_goto (tgt := 4) hx hb dX3_sizeOf_36 (by decide) ?_
          exact ih (k + 1) (q + 1) (by omega) (by omega) (cntB_s hq (by rw [h_20]; rfl))  ls (lv_sub hl [0, 1, 2] rfl)
        · exact absurd (show _ from c_23) (by decide)
set_option maxHeartbeats 4000000 in
set_option maxRecDepth 100000 in
theorem c_X3_rowOf (l : Launch) {D : va_G} {y : Nat} {a : Nat → Nat} {n d : Nat} {th : Int32} {A : Nat → Nat → Int32} (v1 : Int32)  : Met l yX3_rowOf (gws yX3_rowOf cX3_rowOf 4 (some .int)) { frames := 0, cells := 0, slots := 0, locals := 0 } (va_Pc [.ref y, .int v1] (fun U => RdM D y a n d th A U U.heap)) (vp_Si (fun r => PL (A 8) n v1 r 0)) 0 0 (fun _ => False) := by
  refine met_go (by decide) (Nat.le_of_ble_eq_true rfl) ?_
  intro p e s m below meth c ls S hr hlocks hnm hM hl
  obtain ⟨hx, hb, hml, hown, hg⟩ := id S
  have hl : lv_has ls 4 [(0, .ref y), (1, .int v1)] := hl
  have hn := hM.n
  refine lv_iconst (v := 0) hx hb dX3_rowOf_0 (by decide) ?_
  refine lv_istore_n (lv' := [(2, .int 0), (0, .ref y), (1, .int v1)]) hx hb dX3_rowOf_1 rfl hl (by decide) rfl (fun ls hl => ?_)
  refine lv_iconst (v := nI 0) hx hb dX3_rowOf_2 (by decide) ?_
  refine lv_istore_n (lv' := [(3, .int (nI 0)), (2, .int 0), (0, .ref y), (1, .int v1)]) hx hb dX3_rowOf_3 rfl hl (by decide) rfl (fun ls hl => ?_)
  suffices hloop : ∀ (fuel : Nat) (k : Nat) (q : Int32), k ≤ n → n - k < fuel → PL (A 8) k v1 q 0 → ∀ ls : Array Slot, lv_has ls 4 [(3, .int (nI k)), (2, .int q), (0, .ref y), (1, .int v1)] → W p l e { frames := 0, cells := 0, slots := 0, locals := 0 } s m [.ref y, .int v1].toArray below meth c s.heap [] 0 0 (MQ below (vp_Si (fun r => PL (A 8) n v1 r 0)) [.ref y, .int v1].toArray s 0 0 (fun _ => False)) (F0 m 4 ls []) from hloop (n + 1) 0 0 (by omega) (by omega) PL_0  ls (lv_sub hl [0, 1, 2, 3] rfl)
  intro fuel
  induction fuel with
  | zero => intro k q hk hf hI; omega
  | succ fuel ih =>
    intro k q hk hf hI  ls hl
    refine lv_iload_n hx hb dX3_rowOf_4 rfl (lv_at hl 0 rfl) ?_
    refine lv_aload_n hx hb dX3_rowOf_5 rfl (lv_at hl 2 rfl) ?_
    refine rM_many S hM dX3_rowOf_6 ?_
    refine lv_icmp_ge (tgt := 34) hx hb dX3_rowOf_9 (by decide) (fun c_9 => ?_) (fun c_9 => ?_)
    · rw [nI_leI (by omega) (by omega)] at c_9
      refine lv_iload_n hx hb dX3_rowOf_34 rfl (lv_at hl 1 rfl) ?_
      exact W.iret (v := q) hx hb hr (fun t9 ht9 _ => ⟨_, rfl, by rw [show n = k by omega]; exact hI, ht9⟩) (fun _ h => nomatch h) dX3_rowOf_35
    · rw [nI_leI (by omega) (by omega)] at c_9
      refine lv_aload_n hx hb dX3_rowOf_12 rfl (lv_at hl 2 rfl) ?_
      refine rM_order S hM dX3_rowOf_13 ?_
      refine lv_iload_n hx hb dX3_rowOf_16 rfl (lv_at hl 0 rfl) ?_
      refine rM_ald S hM 8 (by decide) (by show _ < 512; omega) dX3_rowOf_17 ?_
      refine lv_iload_n hx hb dX3_rowOf_18 rfl (lv_at hl 3 rfl) ?_
      refine lv_icmp_ne (tgt := 26) hx hb dX3_rowOf_19 (by decide) (fun c_19 => ?_) (fun c_19 => ?_)
      · refine lv_iload_n hx hb dX3_rowOf_26 rfl (lv_at hl 1 rfl) ?_
        refine lv_istore_n (lv' := [(2, .int q), (3, .int (nI k)), (0, .ref y), (1, .int v1)]) hx hb dX3_rowOf_27 rfl hl (by decide) rfl (fun ls hl => ?_)
        refine lv_iinc (v := nI (k + 1)) (lv' := [(3, .int (nI (k + 1))), (2, .int q), (0, .ref y), (1, .int v1)]) hx hb dX3_rowOf_28 hl (k := 1) rfl (nI_1 _) (by decide) rfl (fun ls hl => ?_)
        refine lv_goto (tgt := 4) hx hb dX3_rowOf_31 (by decide) ?_
        exact ih (k + 1) _ (by omega) (by omega) (PL_n c_19 hI)  ls (lv_sub hl [0, 1, 2, 3] rfl)
      · refine lv_iload_n hx hb dX3_rowOf_22 rfl (lv_at hl 0 rfl) ?_
        refine lv_goto (tgt := 27) hx hb dX3_rowOf_23 (by decide) ?_
        refine lv_istore_n (lv' := [(2, .int (nI k)), (3, .int (nI k)), (0, .ref y), (1, .int v1)]) hx hb dX3_rowOf_27 rfl hl (by decide) rfl (fun ls hl => ?_)
        refine lv_iinc (v := nI (k + 1)) (lv' := [(3, .int (nI (k + 1))), (2, .int (nI k)), (0, .ref y), (1, .int v1)]) hx hb dX3_rowOf_28 hl (k := 1) rfl (nI_1 _) (by decide) rfl (fun ls hl => ?_)
        refine lv_goto (tgt := 4) hx hb dX3_rowOf_31 (by decide) ?_
        exact ih (k + 1) _ (by omega) (by omega) (PL_s c_19)  ls (lv_sub hl [0, 1, 2, 3] rfl)
set_option maxHeartbeats 4000000 in
set_option maxRecDepth 100000 in
theorem c_X3_greatest (l : Launch) {D : va_G} {y : Nat} {a : Nat → Nat} {n d : Nat} {th : Int32} {A : Nat → Nat → Int32}   : Met l yX3_greatest (gws yX3_greatest cX3_greatest 3 (some .int)) { frames := 0, cells := 0, slots := 0, locals := 0 } (va_Pc [.ref y] (fun U => RdM D y a n d th A U U.heap)) (vp_Si (fun r => r = mxf (A 4) (mxf (A 0) (-1) n) d)) 0 0 (fun _ => False) := by
  refine met_go (by decide) (Nat.le_of_ble_eq_true rfl) ?_
  intro p e s m below meth c ls S hr hlocks hnm hM hl
  obtain ⟨hx, hb, hml, hown, hg⟩ := id S
  have hl : lv_has ls 3 [(0, .ref y)] := hl
  have hn := hM.n
  refine lv_iconst (v := (-1)) hx hb dX3_greatest_0 (by decide) ?_
  refine lv_istore_n (lv' := [(1, .int (-1)), (0, .ref y)]) hx hb dX3_greatest_1 rfl hl (by decide) rfl (fun ls hl => ?_)
  refine lv_iconst (v := nI 0) hx hb dX3_greatest_2 (by decide) ?_
  refine lv_istore_n (lv' := [(2, .int (nI 0)), (1, .int (-1)), (0, .ref y)]) hx hb dX3_greatest_3 rfl hl (by decide) rfl (fun ls hl => ?_)
  suffices hloop : ∀ (fuel : Nat) (k : Nat) (q : Int32), k ≤ n → n - k < fuel → q = mxf (A 0) (-1) k → ∀ ls : Array Slot, lv_has ls 3 [(2, .int (nI k)), (1, .int q), (0, .ref y)] → W p l e { frames := 0, cells := 0, slots := 0, locals := 0 } s m [.ref y].toArray below meth c s.heap [] 0 0 (MQ below (vp_Si (fun r => r = mxf (A 4) (mxf (A 0) (-1) n) d)) [.ref y].toArray s 0 0 (fun _ => False)) (F0 m 4 ls []) from hloop (n + 1) 0 (-1) (by omega) (by omega) rfl  ls (lv_sub hl [0, 1, 2] rfl)
  intro fuel
  induction fuel with
  | zero => intro k q hk hf hq; omega
  | succ fuel ih =>
    intro k q hk hf hq  ls hl
    refine lv_iload_n hx hb dX3_greatest_4 rfl (lv_at hl 0 rfl) ?_
    refine lv_aload_n hx hb dX3_greatest_5 rfl (lv_at hl 2 rfl) ?_
    refine rM_many S hM dX3_greatest_6 ?_
    refine lv_icmp_ge (tgt := 39) hx hb dX3_greatest_9 (by decide) (fun c_9 => ?_) (fun c_9 => ?_)
    · rw [nI_leI (by omega) (by omega)] at c_9
      refine lv_iconst (v := nI 0) hx hb dX3_greatest_39 (by decide) ?_
      refine lv_istore_n (lv' := [(2, .int (nI 0)), (1, .int q), (0, .ref y)]) hx hb dX3_greatest_40 rfl hl (by decide) rfl (fun ls hl => ?_)
      suffices hloop2 : ∀ (fuel2 : Nat) (k : Nat) (q : Int32), k ≤ d → d - k < fuel2 → q = mxf (A 4) (mxf (A 0) (-1) n) k → ∀ ls : Array Slot, lv_has ls 3 [(2, .int (nI k)), (1, .int q), (0, .ref y)] → W p l e { frames := 0, cells := 0, slots := 0, locals := 0 } s m [.ref y].toArray below meth c s.heap [] 0 0 (MQ below (vp_Si (fun r => r = mxf (A 4) (mxf (A 0) (-1) n) d)) [.ref y].toArray s 0 0 (fun _ => False)) (F0 m 41 ls []) from hloop2 (d + 1) 0 _ (by omega) (by omega) (by rw [hq, show k = n by omega]; rfl)  ls (lv_sub hl [0, 1, 2] rfl)
      intro fuel2
      induction fuel2 with
      | zero => intro k q hk hf hq; omega
      | succ fuel2 ih2 =>
        intro k q hk hf hq  ls hl
        refine lv_iload_n hx hb dX3_greatest_41 rfl (lv_at hl 0 rfl) ?_
        refine lv_aload_n hx hb dX3_greatest_42 rfl (lv_at hl 2 rfl) ?_
        refine rM_done S hM dX3_greatest_43 ?_
        refine lv_icmp_ge (tgt := 76) hx hb dX3_greatest_46 (by decide) (fun c_46 => ?_) (fun c_46 => ?_)
        · rw [nI_leI (by omega) (by omega)] at c_46
          refine lv_iload_n hx hb dX3_greatest_76 rfl (lv_at hl 1 rfl) ?_
          exact W.iret (v := q) hx hb hr (fun t9 ht9 _ => ⟨_, rfl, by rw [hq, show k = d by omega], ht9⟩) (fun _ h => nomatch h) dX3_greatest_77
        · rw [nI_leI (by omega) (by omega)] at c_46
          refine lv_aload_n hx hb dX3_greatest_49 rfl (lv_at hl 2 rfl) ?_
          refine rM_doneIds S hM dX3_greatest_50 ?_
          refine lv_iload_n hx hb dX3_greatest_53 rfl (lv_at hl 0 rfl) ?_
          refine rM_ald S hM 4 (by decide) (by show _ < 1024; omega) dX3_greatest_54 ?_
          refine lv_iload_n hx hb dX3_greatest_55 rfl (lv_at hl 1 rfl) ?_
          refine lv_icmp_le (tgt := 68) hx hb dX3_greatest_56 (by decide) (fun c_56 => ?_) (fun c_56 => ?_)
          · refine lv_iload_n hx hb dX3_greatest_68 rfl (lv_at hl 1 rfl) ?_
            refine lv_istore_n (lv' := [(1, .int q), (2, .int (nI k)), (0, .ref y)]) hx hb dX3_greatest_69 rfl hl (by decide) rfl (fun ls hl => ?_)
            refine lv_iinc (v := nI (k + 1)) (lv' := [(2, .int (nI (k + 1))), (1, .int q), (0, .ref y)]) hx hb dX3_greatest_70 hl (k := 1) rfl (nI_1 _) (by decide) rfl (fun ls hl => ?_)
            refine lv_goto (tgt := 41) hx hb dX3_greatest_73 (by decide) ?_
            exact ih2 (k + 1) _ (by omega) (by omega) (mxf_n hq (i32_nlt.mpr c_56))  ls (lv_sub hl [0, 1, 2] rfl)
          · refine lv_aload_n hx hb dX3_greatest_59 rfl (lv_at hl 2 rfl) ?_
            refine rM_doneIds S hM dX3_greatest_60 ?_
            refine lv_iload_n hx hb dX3_greatest_63 rfl (lv_at hl 0 rfl) ?_
            refine rM_ald S hM 4 (by decide) (by show _ < 1024; omega) dX3_greatest_64 ?_
            refine lv_goto (tgt := 69) hx hb dX3_greatest_65 (by decide) ?_
            refine lv_istore_n (lv' := [(1, .int (A 4 k)), (2, .int (nI k)), (0, .ref y)]) hx hb dX3_greatest_69 rfl hl (by decide) rfl (fun ls hl => ?_)
            refine lv_iinc (v := nI (k + 1)) (lv' := [(2, .int (nI (k + 1))), (1, .int (A 4 k)), (0, .ref y)]) hx hb dX3_greatest_70 hl (k := 1) rfl (nI_1 _) (by decide) rfl (fun ls hl => ?_)
            refine lv_goto (tgt := 41) hx hb dX3_greatest_73 (by decide) ?_
            exact ih2 (k + 1) _ (by omega) (by omega) (mxf_s hq (i32_nle.mp c_56))  ls (lv_sub hl [0, 1, 2] rfl)
    · rw [nI_leI (by omega) (by omega)] at c_9
      refine lv_aload_n hx hb dX3_greatest_12 rfl (lv_at hl 2 rfl) ?_
      refine rM_ids S hM dX3_greatest_13 ?_
      refine lv_iload_n hx hb dX3_greatest_16 rfl (lv_at hl 0 rfl) ?_
      refine rM_ald S hM 0 (by decide) (by show _ < 512; omega) dX3_greatest_17 ?_
      refine lv_iload_n hx hb dX3_greatest_18 rfl (lv_at hl 1 rfl) ?_
      refine lv_icmp_le (tgt := 31) hx hb dX3_greatest_19 (by decide) (fun c_19 => ?_) (fun c_19 => ?_)
      · refine lv_iload_n hx hb dX3_greatest_31 rfl (lv_at hl 1 rfl) ?_
        refine lv_istore_n (lv' := [(1, .int q), (2, .int (nI k)), (0, .ref y)]) hx hb dX3_greatest_32 rfl hl (by decide) rfl (fun ls hl => ?_)
        refine lv_iinc (v := nI (k + 1)) (lv' := [(2, .int (nI (k + 1))), (1, .int q), (0, .ref y)]) hx hb dX3_greatest_33 hl (k := 1) rfl (nI_1 _) (by decide) rfl (fun ls hl => ?_)
        refine lv_goto (tgt := 4) hx hb dX3_greatest_36 (by decide) ?_
        exact ih (k + 1) _ (by omega) (by omega) (mxf_n hq (i32_nlt.mpr c_19))  ls (lv_sub hl [0, 1, 2] rfl)
      · refine lv_aload_n hx hb dX3_greatest_22 rfl (lv_at hl 2 rfl) ?_
        refine rM_ids S hM dX3_greatest_23 ?_
        refine lv_iload_n hx hb dX3_greatest_26 rfl (lv_at hl 0 rfl) ?_
        refine rM_ald S hM 0 (by decide) (by show _ < 512; omega) dX3_greatest_27 ?_
        refine lv_goto (tgt := 32) hx hb dX3_greatest_28 (by decide) ?_
        refine lv_istore_n (lv' := [(1, .int (A 0 k)), (2, .int (nI k)), (0, .ref y)]) hx hb dX3_greatest_32 rfl hl (by decide) rfl (fun ls hl => ?_)
        refine lv_iinc (v := nI (k + 1)) (lv' := [(2, .int (nI (k + 1))), (1, .int (A 0 k)), (0, .ref y)]) hx hb dX3_greatest_33 hl (k := 1) rfl (nI_1 _) (by decide) rfl (fun ls hl => ?_)
        refine lv_goto (tgt := 4) hx hb dX3_greatest_36 (by decide) ?_
        exact ih (k + 1) _ (by omega) (by omega) (mxf_s hq (i32_nle.mp c_19))  ls (lv_sub hl [0, 1, 2] rfl)
end
section
theorem mxw_s {g : Nat → Int32} {q : Int32} {k : Nat} (hq : q = mxw g k) (h : q < g k) : g k = mxw g (k + 1) := by rw [mxw, ← hq, if_pos h]
theorem mxw_n {g : Nat → Int32} {q : Int32} {k : Nat} (hq : q = mxw g k) (h : ¬ q < g k) : q = mxw g (k + 1) := by rw [mxw, ← hq, if_neg h]
set_option maxHeartbeats 4000000 in
set_option maxRecDepth 100000 in
theorem c_X3_counted1 (l : Launch) {D : va_G} {y : Nat} {a : Nat → Nat} {n d : Nat} {th : Int32} {A : Nat → Nat → Int32} (v1 : Int32)  : Met l yX3_counted (gws yX3_counted cX3_counted 5 (some .int)) { frames := 0, cells := 0, slots := 0, locals := 0 } (va_Pc [.ref y, .int v1, .int 1] (fun U => RdM D y a n d th A U U.heap)) (vp_Si (fun r => r = nI (cntB (fun k => decide (A 1 k = v1)) n))) 0 0 (fun _ => False) := by
  refine met_go (by decide) (Nat.le_of_ble_eq_true rfl) ?_
  intro p e s m below meth c ls S hr hlocks hnm hM hl
  obtain ⟨hx, hb, hml, hown, hg⟩ := id S
  have hl : lv_has ls 5 [(0, .ref y), (1, .int v1), (2, .int 1)] := hl
  have hn := hM.n
  refine lv_iconst (v := nI 0) hx hb dX3_counted_0 (by decide) ?_
  refine lv_istore_n (lv' := [(3, .int (nI 0)), (0, .ref y), (1, .int v1), (2, .int 1)]) hx hb dX3_counted_1 rfl hl (by decide) rfl (fun ls hl => ?_)
  refine lv_iconst (v := nI 0) hx hb dX3_counted_2 (by decide) ?_
  refine lv_istore (lv' := [(4, .int (nI 0)), (3, .int (nI 0)), (0, .ref y), (1, .int v1), (2, .int 1)]) hx hb dX3_counted_3 hl (by decide) rfl (fun ls hl => ?_)
  suffices hloop : ∀ (fuel : Nat) (k q : Nat), k ≤ n → n - k < fuel → q = cntB (fun k => decide (A 1 k = v1)) k → ∀ ls : Array Slot, lv_has ls 5 [(4, .int (nI k)), (3, .int (nI q)), (0, .ref y), (1, .int v1), (2, .int 1)] → W p l e { frames := 0, cells := 0, slots := 0, locals := 0 } s m [.ref y, .int v1, .int 1].toArray below meth c s.heap [] 0 0 (MQ below (vp_Si (fun r => r = nI (cntB (fun k => decide (A 1 k = v1)) n))) [.ref y, .int v1, .int 1].toArray s 0 0 (fun _ => False)) (F0 m 5 ls []) from hloop (n + 1) 0 0 (by omega) (by omega) rfl  ls (lv_sub hl [0, 1, 2, 3, 4] rfl)
  intro fuel
  induction fuel with
  | zero => intro k q hk hf hq; omega
  | succ fuel ih =>
    intro k q hk hf hq  ls hl
    refine lv_iload hx hb dX3_counted_5 (lv_at hl 0 rfl) ?_
    refine lv_aload_n hx hb dX3_counted_7 rfl (lv_at hl 2 rfl) ?_
    refine rM_many S hM dX3_counted_8 ?_
    refine lv_icmp_ge (tgt := 44) hx hb dX3_counted_11 (by decide) (fun c_11 => ?_) (fun c_11 => ?_)
    · rw [nI_leI (by omega) (by omega)] at c_11
      refine lv_iconst (v := nI 0) hx hb dX3_counted_44 (by decide) ?_
      refine lv_istore (lv' := [(4, .int (nI 0)), (3, .int (nI q)), (0, .ref y), (1, .int v1), (2, .int 1)]) hx hb dX3_counted_45 hl (by decide) rfl (fun ls hl => ?_)
      refine lv_iload hx hb dX3_counted_47 (lv_at hl 0 rfl) ?_
      refine lv_aload_n hx hb dX3_counted_49 rfl (lv_at hl 2 rfl) ?_
      refine rM_done S hM dX3_counted_50 ?_
      refine lv_icmp_ge (tgt := 114) hx hb dX3_counted_53 (by decide) (fun c_53 => ?_) (fun c_53 => ?_)
      · rw [nI_leI (by omega) (by omega)] at c_53
        refine lv_iload_n hx hb dX3_counted_114 rfl (lv_at hl 1 rfl) ?_
        exact W.iret (v := (nI q)) hx hb hr (fun t9 ht9 _ => ⟨_, rfl, by rw [hq, show k = n by omega], ht9⟩) (fun _ h => nomatch h) dX3_counted_115
      · rw [nI_leI (by omega) (by omega)] at c_53
        refine lv_iload_n hx hb dX3_counted_56 rfl (lv_at hl 4 rfl) ?_
        refine lv_iconst (v := 1) hx hb dX3_counted_57 (by decide) ?_
        refine lv_icmp_le (tgt := 114) hx hb dX3_counted_58 (by decide) (fun c_58 => ?_) (fun c_58 => ?_)
        · refine lv_iload_n hx hb dX3_counted_114 rfl (lv_at hl 1 rfl) ?_
          exact W.iret (v := (nI q)) hx hb hr (fun t9 ht9 _ => ⟨_, rfl, by rw [hq, show k = n by omega], ht9⟩) (fun _ h => nomatch h) dX3_counted_115
        · exact absurd (show _ from c_58) (by decide)
    · rw [nI_leI (by omega) (by omega)] at c_11
      refine lv_iload_n hx hb dX3_counted_14 rfl (lv_at hl 4 rfl) ?_
      refine lv_iconst (v := 1) hx hb dX3_counted_15 (by decide) ?_
      refine lv_icmp_ne (tgt := 44) hx hb dX3_counted_16 (by decide) (fun c_16 => ?_) (fun c_16 => ?_)
      · exact absurd (show _ from c_16) (by decide)
      · refine lv_iload_n hx hb dX3_counted_19 rfl (lv_at hl 1 rfl) ?_
        refine lv_aload_n hx hb dX3_counted_20 rfl (lv_at hl 2 rfl) ?_
        refine rM_behinds S hM dX3_counted_21 ?_
        refine lv_iload hx hb dX3_counted_24 (lv_at hl 0 rfl) ?_
        refine rM_ald S hM 1 (by decide) (by show _ < 512; omega) dX3_counted_26 ?_
        refine lv_iload_n hx hb dX3_counted_27 rfl (lv_at hl 3 rfl) ?_
        refine lv_icmp_ne (tgt := 35) hx hb dX3_counted_28 (by decide) (fun c_28 => ?_) (fun c_28 => ?_)
        · refine lv_iconst (v := nI 0) hx hb dX3_counted_35 (by decide) ?_
          refine lv_iadd hx hb dX3_counted_36 ?_
          rw [nI_add, Nat.add_zero]
          refine lv_istore_n (lv' := [(3, .int (nI q)), (4, .int (nI k)), (0, .ref y), (1, .int v1), (2, .int 1)]) hx hb dX3_counted_37 rfl hl (by decide) rfl (fun ls hl => ?_)
          refine lv_iinc (v := nI (k + 1)) (lv' := [(4, .int (nI (k + 1))), (3, .int (nI q)), (0, .ref y), (1, .int v1), (2, .int 1)]) hx hb dX3_counted_38 hl (k := 1) rfl (nI_1 _) (by decide) rfl (fun ls hl => ?_)
          refine lv_goto (tgt := 5) hx hb dX3_counted_41 (by decide) ?_
          exact ih (k + 1) q (by omega) (by omega) (cntB_n hq (decide_eq_false c_28))  ls (lv_sub hl [0, 1, 2, 3, 4] rfl)
        · refine lv_iconst (v := nI 1) hx hb dX3_counted_31 (by decide) ?_
          refine lv_goto (tgt := 36) hx hb dX3_counted_32 (by decide) ?_
          refine lv_iadd hx hb dX3_counted_36 ?_
          rw [nI_add]
          refine lv_istore_n (lv' := [(3, .int (nI (q + 1))), (4, .int (nI k)), (0, .ref y), (1, .int v1), (2, .int 1)]) hx hb dX3_counted_37 rfl hl (by decide) rfl (fun ls hl => ?_)
          refine lv_iinc (v := nI (k + 1)) (lv' := [(4, .int (nI (k + 1))), (3, .int (nI (q + 1))), (0, .ref y), (1, .int v1), (2, .int 1)]) hx hb dX3_counted_38 hl (k := 1) rfl (nI_1 _) (by decide) rfl (fun ls hl => ?_)
          refine lv_goto (tgt := 5) hx hb dX3_counted_41 (by decide) ?_
          exact ih (k + 1) (q + 1) (by omega) (by omega) (cntB_s hq (decide_eq_true c_28))  ls (lv_sub hl [0, 1, 2, 3, 4] rfl)
set_option maxHeartbeats 4000000 in
set_option maxRecDepth 100000 in
theorem c_X3_counted2 (l : Launch) {D : va_G} {y : Nat} {a : Nat → Nat} {n d : Nat} {th : Int32} {A : Nat → Nat → Int32} (v1 : Int32)  : Met l yX3_counted (gws yX3_counted cX3_counted 5 (some .int)) { frames := 0, cells := 0, slots := 0, locals := 0 } (va_Pc [.ref y, .int v1, .int 2] (fun U => RdM D y a n d th A U U.heap)) (vp_Si (fun r => r = nI (cntB (fun k => decide (A 5 k = v1) && !decide (A 6 k < 0)) d))) 0 0 (fun _ => False) := by
  refine met_go (by decide) (Nat.le_of_ble_eq_true rfl) ?_
  intro p e s m below meth c ls S hr hlocks hnm hM hl
  obtain ⟨hx, hb, hml, hown, hg⟩ := id S
  have hl : lv_has ls 5 [(0, .ref y), (1, .int v1), (2, .int 2)] := hl
  have hn := hM.n
  have hloop : ∀ (fuel : Nat) (k q : Nat), k ≤ d → d - k < fuel → q = cntB (fun k => decide (A 5 k = v1) && !decide (A 6 k < 0)) k → ∀ ls : Array Slot, lv_has ls 5 [(4, .int (nI k)), (3, .int (nI q)), (0, .ref y), (1, .int v1), (2, .int 2)] → W p l e { frames := 0, cells := 0, slots := 0, locals := 0 } s m [.ref y, .int v1, .int 2].toArray below meth c s.heap [] 0 0 (MQ below (vp_Si (fun r => r = nI (cntB (fun k => decide (A 5 k = v1) && !decide (A 6 k < 0)) d))) [.ref y, .int v1, .int 2].toArray s 0 0 (fun _ => False)) (F0 m 47 ls []) := by
    clear hl
    intro fuel
    induction fuel with
    | zero => intro k q hk hf hq; omega
    | succ fuel ih =>
      intro k q hk hf hq  ls hl
      refine lv_iload hx hb dX3_counted_47 (lv_at hl 0 rfl) ?_
      refine lv_aload_n hx hb dX3_counted_49 rfl (lv_at hl 2 rfl) ?_
      refine rM_done S hM dX3_counted_50 ?_
      refine lv_icmp_ge (tgt := 114) hx hb dX3_counted_53 (by decide) (fun c_53 => ?_) (fun c_53 => ?_)
      · rw [nI_leI (by omega) (by omega)] at c_53
        refine lv_iload_n hx hb dX3_counted_114 rfl (lv_at hl 1 rfl) ?_
        exact W.iret (v := (nI q)) hx hb hr (fun t9 ht9 _ => ⟨_, rfl, by rw [hq, show k = d by omega], ht9⟩) (fun _ h => nomatch h) dX3_counted_115
      · rw [nI_leI (by omega) (by omega)] at c_53
        refine lv_iload_n hx hb dX3_counted_56 rfl (lv_at hl 4 rfl) ?_
        refine lv_iconst (v := 1) hx hb dX3_counted_57 (by decide) ?_
        refine lv_icmp_le (tgt := 114) hx hb dX3_counted_58 (by decide) (fun c_58 => ?_) (fun c_58 => ?_)
        · exact absurd (show _ from c_58) (by decide)
        · refine lv_iload_n hx hb dX3_counted_61 rfl (lv_at hl 1 rfl) ?_
          refine lv_aload_n hx hb dX3_counted_62 rfl (lv_at hl 2 rfl) ?_
          refine rM_doneOf S hM dX3_counted_63 ?_
          refine lv_iload hx hb dX3_counted_66 (lv_at hl 0 rfl) ?_
          refine rM_ald S hM 5 (by decide) (by show _ < 1024; omega) dX3_counted_68 ?_
          refine lv_iload_n hx hb dX3_counted_69 rfl (lv_at hl 3 rfl) ?_
          refine lv_icmp_ne (tgt := 105) hx hb dX3_counted_70 (by decide) (fun c_70 => ?_) (fun c_70 => ?_)
          · refine lv_iconst (v := nI 0) hx hb dX3_counted_105 (by decide) ?_
            refine lv_iadd hx hb dX3_counted_106 ?_
            rw [nI_add, Nat.add_zero]
            refine lv_istore_n (lv' := [(3, .int (nI q)), (4, .int (nI k)), (0, .ref y), (1, .int v1), (2, .int 2)]) hx hb dX3_counted_107 rfl hl (by decide) rfl (fun ls hl => ?_)
            refine lv_iinc (v := nI (k + 1)) (lv' := [(4, .int (nI (k + 1))), (3, .int (nI q)), (0, .ref y), (1, .int v1), (2, .int 2)]) hx hb dX3_counted_108 hl (k := 1) rfl (nI_1 _) (by decide) rfl (fun ls hl => ?_)
            refine lv_goto (tgt := 47) hx hb dX3_counted_111 (by decide) ?_
            exact ih (k + 1) q (by omega) (by omega) (cntB_n hq (by simp [c_70]))  ls (lv_sub hl [0, 1, 2, 3, 4] rfl)
          · refine lv_aload_n hx hb dX3_counted_73 rfl (lv_at hl 2 rfl) ?_
            refine rM_doneKinds S hM dX3_counted_74 ?_
            refine lv_iload hx hb dX3_counted_77 (lv_at hl 0 rfl) ?_
            refine rM_ald S hM 6 (by decide) (by show _ < 1024; omega) dX3_counted_79 ?_
            refine lv_if_ge (tgt := 87) hx hb dX3_counted_80 (by decide) (fun c_80 => ?_) (fun c_80 => ?_)
            · have h80 := i32_nlt.mpr c_80
              refine lv_iconst (v := 0) hx hb dX3_counted_87 (by decide) ?_
              refine lv_iload_n hx hb dX3_counted_88 rfl (lv_at hl 4 rfl) ?_
              refine lv_iconst (v := 3) hx hb dX3_counted_89 (by decide) ?_
              refine lv_icmp_ne (tgt := 97) hx hb dX3_counted_90 (by decide) (fun c_90 => ?_) (fun c_90 => ?_)
              · refine lv_iconst (v := 0) hx hb dX3_counted_97 (by decide) ?_
                refine lv_icmp_ne (tgt := 105) hx hb dX3_counted_98 (by decide) (fun c_98 => ?_) (fun c_98 => ?_)
                · exact absurd (show _ from c_98) (by decide)
                · refine lv_iconst (v := nI 1) hx hb dX3_counted_101 (by decide) ?_
                  refine lv_goto (tgt := 106) hx hb dX3_counted_102 (by decide) ?_
                  refine lv_iadd hx hb dX3_counted_106 ?_
                  rw [nI_add]
                  refine lv_istore_n (lv' := [(3, .int (nI (q + 1))), (4, .int (nI k)), (0, .ref y), (1, .int v1), (2, .int 2)]) hx hb dX3_counted_107 rfl hl (by decide) rfl (fun ls hl => ?_)
                  refine lv_iinc (v := nI (k + 1)) (lv' := [(4, .int (nI (k + 1))), (3, .int (nI (q + 1))), (0, .ref y), (1, .int v1), (2, .int 2)]) hx hb dX3_counted_108 hl (k := 1) rfl (nI_1 _) (by decide) rfl (fun ls hl => ?_)
                  refine lv_goto (tgt := 47) hx hb dX3_counted_111 (by decide) ?_
                  exact ih (k + 1) (q + 1) (by omega) (by omega) (cntB_s hq (by simp [c_70, h80]))  ls (lv_sub hl [0, 1, 2, 3, 4] rfl)
              · exact absurd (show _ from c_90) (by decide)
            · have h80 := i32_nle.mp c_80
              refine lv_iconst (v := 1) hx hb dX3_counted_83 (by decide) ?_
              refine lv_goto (tgt := 88) hx hb dX3_counted_84 (by decide) ?_
              refine lv_iload_n hx hb dX3_counted_88 rfl (lv_at hl 4 rfl) ?_
              refine lv_iconst (v := 3) hx hb dX3_counted_89 (by decide) ?_
              refine lv_icmp_ne (tgt := 97) hx hb dX3_counted_90 (by decide) (fun c_90 => ?_) (fun c_90 => ?_)
              · refine lv_iconst (v := 0) hx hb dX3_counted_97 (by decide) ?_
                refine lv_icmp_ne (tgt := 105) hx hb dX3_counted_98 (by decide) (fun c_98 => ?_) (fun c_98 => ?_)
                · refine lv_iconst (v := nI 0) hx hb dX3_counted_105 (by decide) ?_
                  refine lv_iadd hx hb dX3_counted_106 ?_
                  rw [nI_add, Nat.add_zero]
                  refine lv_istore_n (lv' := [(3, .int (nI q)), (4, .int (nI k)), (0, .ref y), (1, .int v1), (2, .int 2)]) hx hb dX3_counted_107 rfl hl (by decide) rfl (fun ls hl => ?_)
                  refine lv_iinc (v := nI (k + 1)) (lv' := [(4, .int (nI (k + 1))), (3, .int (nI q)), (0, .ref y), (1, .int v1), (2, .int 2)]) hx hb dX3_counted_108 hl (k := 1) rfl (nI_1 _) (by decide) rfl (fun ls hl => ?_)
                  refine lv_goto (tgt := 47) hx hb dX3_counted_111 (by decide) ?_
                  exact ih (k + 1) q (by omega) (by omega) (cntB_n hq (by simp [c_70, h80]))  ls (lv_sub hl [0, 1, 2, 3, 4] rfl)
                · exact absurd (show _ from c_98) (by decide)
              · exact absurd (show _ from c_90) (by decide)
  refine lv_iconst (v := nI 0) hx hb dX3_counted_0 (by decide) ?_
  refine lv_istore_n (lv' := [(3, .int (nI 0)), (0, .ref y), (1, .int v1), (2, .int 2)]) hx hb dX3_counted_1 rfl hl (by decide) rfl (fun ls hl => ?_)
  refine lv_iconst (v := nI 0) hx hb dX3_counted_2 (by decide) ?_
  refine lv_istore (lv' := [(4, .int (nI 0)), (3, .int (nI 0)), (0, .ref y), (1, .int v1), (2, .int 2)]) hx hb dX3_counted_3 hl (by decide) rfl (fun ls hl => ?_)
  refine lv_iload hx hb dX3_counted_5 (lv_at hl 0 rfl) ?_
  refine lv_aload_n hx hb dX3_counted_7 rfl (lv_at hl 2 rfl) ?_
  refine rM_many S hM dX3_counted_8 ?_
  refine lv_icmp_ge (tgt := 44) hx hb dX3_counted_11 (by decide) (fun c_11 => ?_) (fun c_11 => ?_)
  · rw [nI_leI (by omega) (by omega)] at c_11
    refine lv_iconst (v := nI 0) hx hb dX3_counted_44 (by decide) ?_
    refine lv_istore (lv' := [(4, .int (nI 0)), (3, .int (nI 0)), (0, .ref y), (1, .int v1), (2, .int 2)]) hx hb dX3_counted_45 hl (by decide) rfl (fun ls hl => ?_)
    exact hloop (d + 1) 0 0 (by omega) (by omega) rfl  ls (lv_sub hl [0, 1, 2, 3, 4] rfl)
  · rw [nI_leI (by omega) (by omega)] at c_11
    refine lv_iload_n hx hb dX3_counted_14 rfl (lv_at hl 4 rfl) ?_
    refine lv_iconst (v := 1) hx hb dX3_counted_15 (by decide) ?_
    refine lv_icmp_ne (tgt := 44) hx hb dX3_counted_16 (by decide) (fun c_16 => ?_) (fun c_16 => ?_)
    · refine lv_iconst (v := nI 0) hx hb dX3_counted_44 (by decide) ?_
      refine lv_istore (lv' := [(4, .int (nI 0)), (3, .int (nI 0)), (0, .ref y), (1, .int v1), (2, .int 2)]) hx hb dX3_counted_45 hl (by decide) rfl (fun ls hl => ?_)
      exact hloop (d + 1) 0 0 (by omega) (by omega) rfl  ls (lv_sub hl [0, 1, 2, 3, 4] rfl)
    · exact absurd (show _ from c_16) (by decide)
set_option maxHeartbeats 4000000 in
set_option maxRecDepth 100000 in
theorem c_X3_counted3 (l : Launch) {D : va_G} {y : Nat} {a : Nat → Nat} {n d : Nat} {th : Int32} {A : Nat → Nat → Int32} (v1 : Int32)  : Met l yX3_counted (gws yX3_counted cX3_counted 5 (some .int)) { frames := 0, cells := 0, slots := 0, locals := 0 } (va_Pc [.ref y, .int v1, .int 3] (fun U => RdM D y a n d th A U U.heap)) (vp_Si (fun r => r = nI (cntB (fun k => decide (A 5 k = v1) && decide (A 6 k < 0)) d))) 0 0 (fun _ => False) := by
  refine met_go (by decide) (Nat.le_of_ble_eq_true rfl) ?_
  intro p e s m below meth c ls S hr hlocks hnm hM hl
  obtain ⟨hx, hb, hml, hown, hg⟩ := id S
  have hl : lv_has ls 5 [(0, .ref y), (1, .int v1), (2, .int 3)] := hl
  have hn := hM.n
  have hloop : ∀ (fuel : Nat) (k q : Nat), k ≤ d → d - k < fuel → q = cntB (fun k => decide (A 5 k = v1) && decide (A 6 k < 0)) k → ∀ ls : Array Slot, lv_has ls 5 [(4, .int (nI k)), (3, .int (nI q)), (0, .ref y), (1, .int v1), (2, .int 3)] → W p l e { frames := 0, cells := 0, slots := 0, locals := 0 } s m [.ref y, .int v1, .int 3].toArray below meth c s.heap [] 0 0 (MQ below (vp_Si (fun r => r = nI (cntB (fun k => decide (A 5 k = v1) && decide (A 6 k < 0)) d))) [.ref y, .int v1, .int 3].toArray s 0 0 (fun _ => False)) (F0 m 47 ls []) := by
    clear hl
    intro fuel
    induction fuel with
    | zero => intro k q hk hf hq; omega
    | succ fuel ih =>
      intro k q hk hf hq  ls hl
      refine lv_iload hx hb dX3_counted_47 (lv_at hl 0 rfl) ?_
      refine lv_aload_n hx hb dX3_counted_49 rfl (lv_at hl 2 rfl) ?_
      refine rM_done S hM dX3_counted_50 ?_
      refine lv_icmp_ge (tgt := 114) hx hb dX3_counted_53 (by decide) (fun c_53 => ?_) (fun c_53 => ?_)
      · rw [nI_leI (by omega) (by omega)] at c_53
        refine lv_iload_n hx hb dX3_counted_114 rfl (lv_at hl 1 rfl) ?_
        exact W.iret (v := (nI q)) hx hb hr (fun t9 ht9 _ => ⟨_, rfl, by rw [hq, show k = d by omega], ht9⟩) (fun _ h => nomatch h) dX3_counted_115
      · rw [nI_leI (by omega) (by omega)] at c_53
        refine lv_iload_n hx hb dX3_counted_56 rfl (lv_at hl 4 rfl) ?_
        refine lv_iconst (v := 1) hx hb dX3_counted_57 (by decide) ?_
        refine lv_icmp_le (tgt := 114) hx hb dX3_counted_58 (by decide) (fun c_58 => ?_) (fun c_58 => ?_)
        · exact absurd (show _ from c_58) (by decide)
        · refine lv_iload_n hx hb dX3_counted_61 rfl (lv_at hl 1 rfl) ?_
          refine lv_aload_n hx hb dX3_counted_62 rfl (lv_at hl 2 rfl) ?_
          refine rM_doneOf S hM dX3_counted_63 ?_
          refine lv_iload hx hb dX3_counted_66 (lv_at hl 0 rfl) ?_
          refine rM_ald S hM 5 (by decide) (by show _ < 1024; omega) dX3_counted_68 ?_
          refine lv_iload_n hx hb dX3_counted_69 rfl (lv_at hl 3 rfl) ?_
          refine lv_icmp_ne (tgt := 105) hx hb dX3_counted_70 (by decide) (fun c_70 => ?_) (fun c_70 => ?_)
          · refine lv_iconst (v := nI 0) hx hb dX3_counted_105 (by decide) ?_
            refine lv_iadd hx hb dX3_counted_106 ?_
            rw [nI_add, Nat.add_zero]
            refine lv_istore_n (lv' := [(3, .int (nI q)), (4, .int (nI k)), (0, .ref y), (1, .int v1), (2, .int 3)]) hx hb dX3_counted_107 rfl hl (by decide) rfl (fun ls hl => ?_)
            refine lv_iinc (v := nI (k + 1)) (lv' := [(4, .int (nI (k + 1))), (3, .int (nI q)), (0, .ref y), (1, .int v1), (2, .int 3)]) hx hb dX3_counted_108 hl (k := 1) rfl (nI_1 _) (by decide) rfl (fun ls hl => ?_)
            refine lv_goto (tgt := 47) hx hb dX3_counted_111 (by decide) ?_
            exact ih (k + 1) q (by omega) (by omega) (cntB_n hq (by simp [c_70]))  ls (lv_sub hl [0, 1, 2, 3, 4] rfl)
          · refine lv_aload_n hx hb dX3_counted_73 rfl (lv_at hl 2 rfl) ?_
            refine rM_doneKinds S hM dX3_counted_74 ?_
            refine lv_iload hx hb dX3_counted_77 (lv_at hl 0 rfl) ?_
            refine rM_ald S hM 6 (by decide) (by show _ < 1024; omega) dX3_counted_79 ?_
            refine lv_if_ge (tgt := 87) hx hb dX3_counted_80 (by decide) (fun c_80 => ?_) (fun c_80 => ?_)
            · have h80 := i32_nlt.mpr c_80
              refine lv_iconst (v := 0) hx hb dX3_counted_87 (by decide) ?_
              refine lv_iload_n hx hb dX3_counted_88 rfl (lv_at hl 4 rfl) ?_
              refine lv_iconst (v := 3) hx hb dX3_counted_89 (by decide) ?_
              refine lv_icmp_ne (tgt := 97) hx hb dX3_counted_90 (by decide) (fun c_90 => ?_) (fun c_90 => ?_)
              · exact absurd (show _ from c_90) (by decide)
              · refine lv_iconst (v := 1) hx hb dX3_counted_93 (by decide) ?_
                refine lv_goto (tgt := 98) hx hb dX3_counted_94 (by decide) ?_
                refine lv_icmp_ne (tgt := 105) hx hb dX3_counted_98 (by decide) (fun c_98 => ?_) (fun c_98 => ?_)
                · refine lv_iconst (v := nI 0) hx hb dX3_counted_105 (by decide) ?_
                  refine lv_iadd hx hb dX3_counted_106 ?_
                  rw [nI_add, Nat.add_zero]
                  refine lv_istore_n (lv' := [(3, .int (nI q)), (4, .int (nI k)), (0, .ref y), (1, .int v1), (2, .int 3)]) hx hb dX3_counted_107 rfl hl (by decide) rfl (fun ls hl => ?_)
                  refine lv_iinc (v := nI (k + 1)) (lv' := [(4, .int (nI (k + 1))), (3, .int (nI q)), (0, .ref y), (1, .int v1), (2, .int 3)]) hx hb dX3_counted_108 hl (k := 1) rfl (nI_1 _) (by decide) rfl (fun ls hl => ?_)
                  refine lv_goto (tgt := 47) hx hb dX3_counted_111 (by decide) ?_
                  exact ih (k + 1) q (by omega) (by omega) (cntB_n hq (by simp [c_70, h80]))  ls (lv_sub hl [0, 1, 2, 3, 4] rfl)
                · exact absurd (show _ from c_98) (by decide)
            · have h80 := i32_nle.mp c_80
              refine lv_iconst (v := 1) hx hb dX3_counted_83 (by decide) ?_
              refine lv_goto (tgt := 88) hx hb dX3_counted_84 (by decide) ?_
              refine lv_iload_n hx hb dX3_counted_88 rfl (lv_at hl 4 rfl) ?_
              refine lv_iconst (v := 3) hx hb dX3_counted_89 (by decide) ?_
              refine lv_icmp_ne (tgt := 97) hx hb dX3_counted_90 (by decide) (fun c_90 => ?_) (fun c_90 => ?_)
              · exact absurd (show _ from c_90) (by decide)
              · refine lv_iconst (v := 1) hx hb dX3_counted_93 (by decide) ?_
                refine lv_goto (tgt := 98) hx hb dX3_counted_94 (by decide) ?_
                refine lv_icmp_ne (tgt := 105) hx hb dX3_counted_98 (by decide) (fun c_98 => ?_) (fun c_98 => ?_)
                · exact absurd (show _ from c_98) (by decide)
                · refine lv_iconst (v := nI 1) hx hb dX3_counted_101 (by decide) ?_
                  refine lv_goto (tgt := 106) hx hb dX3_counted_102 (by decide) ?_
                  refine lv_iadd hx hb dX3_counted_106 ?_
                  rw [nI_add]
                  refine lv_istore_n (lv' := [(3, .int (nI (q + 1))), (4, .int (nI k)), (0, .ref y), (1, .int v1), (2, .int 3)]) hx hb dX3_counted_107 rfl hl (by decide) rfl (fun ls hl => ?_)
                  refine lv_iinc (v := nI (k + 1)) (lv' := [(4, .int (nI (k + 1))), (3, .int (nI (q + 1))), (0, .ref y), (1, .int v1), (2, .int 3)]) hx hb dX3_counted_108 hl (k := 1) rfl (nI_1 _) (by decide) rfl (fun ls hl => ?_)
                  refine lv_goto (tgt := 47) hx hb dX3_counted_111 (by decide) ?_
                  exact ih (k + 1) (q + 1) (by omega) (by omega) (cntB_s hq (by simp [c_70, h80]))  ls (lv_sub hl [0, 1, 2, 3, 4] rfl)
  refine lv_iconst (v := nI 0) hx hb dX3_counted_0 (by decide) ?_
  refine lv_istore_n (lv' := [(3, .int (nI 0)), (0, .ref y), (1, .int v1), (2, .int 3)]) hx hb dX3_counted_1 rfl hl (by decide) rfl (fun ls hl => ?_)
  refine lv_iconst (v := nI 0) hx hb dX3_counted_2 (by decide) ?_
  refine lv_istore (lv' := [(4, .int (nI 0)), (3, .int (nI 0)), (0, .ref y), (1, .int v1), (2, .int 3)]) hx hb dX3_counted_3 hl (by decide) rfl (fun ls hl => ?_)
  refine lv_iload hx hb dX3_counted_5 (lv_at hl 0 rfl) ?_
  refine lv_aload_n hx hb dX3_counted_7 rfl (lv_at hl 2 rfl) ?_
  refine rM_many S hM dX3_counted_8 ?_
  refine lv_icmp_ge (tgt := 44) hx hb dX3_counted_11 (by decide) (fun c_11 => ?_) (fun c_11 => ?_)
  · rw [nI_leI (by omega) (by omega)] at c_11
    refine lv_iconst (v := nI 0) hx hb dX3_counted_44 (by decide) ?_
    refine lv_istore (lv' := [(4, .int (nI 0)), (3, .int (nI 0)), (0, .ref y), (1, .int v1), (2, .int 3)]) hx hb dX3_counted_45 hl (by decide) rfl (fun ls hl => ?_)
    exact hloop (d + 1) 0 0 (by omega) (by omega) rfl  ls (lv_sub hl [0, 1, 2, 3, 4] rfl)
  · rw [nI_leI (by omega) (by omega)] at c_11
    refine lv_iload_n hx hb dX3_counted_14 rfl (lv_at hl 4 rfl) ?_
    refine lv_iconst (v := 1) hx hb dX3_counted_15 (by decide) ?_
    refine lv_icmp_ne (tgt := 44) hx hb dX3_counted_16 (by decide) (fun c_16 => ?_) (fun c_16 => ?_)
    · refine lv_iconst (v := nI 0) hx hb dX3_counted_44 (by decide) ?_
      refine lv_istore (lv' := [(4, .int (nI 0)), (3, .int (nI 0)), (0, .ref y), (1, .int v1), (2, .int 3)]) hx hb dX3_counted_45 hl (by decide) rfl (fun ls hl => ?_)
      exact hloop (d + 1) 0 0 (by omega) (by omega) rfl  ls (lv_sub hl [0, 1, 2, 3, 4] rfl)
    · exact absurd (show _ from c_16) (by decide)
set_option maxHeartbeats 4000000 in
set_option maxRecDepth 100000 in
theorem c_X3_deepest (l : Launch) {D : va_G} {y : Nat} {a : Nat → Nat} {n d : Nat} {th : Int32} {A : Nat → Nat → Int32}  (dep : Int32 → Nat) (hdep : Dep A n dep) : Met l yX3_deepest (gws yX3_deepest cX3_deepest 5 (some .int)) { frames := 1, cells := 0, slots := 0, locals := 23 } (va_Pc [.ref y] (fun U => RdM D y a n d th A U U.heap)) (vp_Si (fun r => r = mxw (fun k => nI (dep (A 0 k))) n)) 0 0 (fun _ => False) := by
  refine met_go (by decide) (Nat.le_of_ble_eq_true rfl) ?_
  intro p e s m below meth c ls S hr hlocks hnm hM hl
  obtain ⟨hx, hb, hml, hown, hg⟩ := id S
  have hl : lv_has ls 5 [(0, .ref y)] := hl
  have hn := hM.n
  refine lv_iconst (v := 0) hx hb dX3_deepest_0 (by decide) ?_
  refine lv_istore_n (lv' := [(1, .int 0), (0, .ref y)]) hx hb dX3_deepest_1 rfl hl (by decide) rfl (fun ls hl => ?_)
  refine lv_iconst (v := nI 0) hx hb dX3_deepest_2 (by decide) ?_
  refine lv_istore_n (lv' := [(2, .int (nI 0)), (1, .int 0), (0, .ref y)]) hx hb dX3_deepest_3 rfl hl (by decide) rfl (fun ls hl => ?_)
  suffices hloop : ∀ (fuel : Nat) (k : Nat) (q : Int32), k ≤ n → n - k < fuel → q = mxw (fun k => nI (dep (A 0 k))) k → ∀ ls : Array Slot, lv_has ls 5 [(2, .int (nI k)), (1, .int q), (0, .ref y)] → W p l e { frames := 1, cells := 0, slots := 0, locals := 23 } s m [.ref y].toArray below meth c s.heap [] 0 0 (MQ below (vp_Si (fun r => r = mxw (fun k => nI (dep (A 0 k))) n)) [.ref y].toArray s 0 0 (fun _ => False)) (F0 m 4 ls []) from hloop (n + 1) 0 0 (by omega) (by omega) rfl  ls (lv_sub hl [0, 1, 2] rfl)
  intro fuel
  induction fuel with
  | zero => intro k q hk hf hq; omega
  | succ fuel ih =>
    intro k q hk hf hq  ls hl
    refine lv_iload_n hx hb dX3_deepest_4 rfl (lv_at hl 0 rfl) ?_
    refine lv_aload_n hx hb dX3_deepest_5 rfl (lv_at hl 2 rfl) ?_
    refine rM_many S hM dX3_deepest_6 ?_
    refine lv_icmp_ge (tgt := 63) hx hb dX3_deepest_9 (by decide) (fun c_9 => ?_) (fun c_9 => ?_)
    · rw [nI_leI (by omega) (by omega)] at c_9
      refine lv_iload_n hx hb dX3_deepest_63 rfl (lv_at hl 1 rfl) ?_
      exact W.iret (v := q) hx hb hr (fun t9 ht9 _ => ⟨_, rfl, by rw [hq, show k = n by omega], ht9⟩) (fun _ h => nomatch h) dX3_deepest_64
    · rw [nI_leI (by omega) (by omega)] at c_9
      refine lv_iconst (v := nI 0) hx hb dX3_deepest_12 (by decide) ?_
      refine lv_istore_n (lv' := [(3, .int (nI 0)), (2, .int (nI k)), (1, .int q), (0, .ref y)]) hx hb dX3_deepest_13 rfl hl (by decide) rfl (fun ls hl => ?_)
      refine lv_aload_n hx hb dX3_deepest_14 rfl (lv_at hl 3 rfl) ?_
      refine rM_ids S hM dX3_deepest_15 ?_
      refine lv_iload_n hx hb dX3_deepest_18 rfl (lv_at hl 1 rfl) ?_
      refine rM_ald S hM 0 (by decide) (by show _ < 512; omega) dX3_deepest_19 ?_
      refine lv_istore (lv' := [(4, .int (A 0 k)), (3, .int (nI 0)), (2, .int (nI k)), (1, .int q), (0, .ref y)]) hx hb dX3_deepest_20 hl (by decide) rfl (fun ls hl => ?_)
      suffices hloop2 : ∀ (fuel2 : Nat) (av : Int32) (dd : Nat), dep av < fuel2 → dd + dep av = dep (A 0 k) → (av = 0 ∨ ∃ j, j < n ∧ A 0 j = av) → ∀ ls : Array Slot, lv_has ls 5 [(4, .int av), (3, .int (nI dd)), (2, .int (nI k)), (1, .int q), (0, .ref y)] → W p l e { frames := 1, cells := 0, slots := 0, locals := 23 } s m [.ref y].toArray below meth c s.heap [] 0 0 (MQ below (vp_Si (fun r => r = mxw (fun k => nI (dep (A 0 k))) n)) [.ref y].toArray s 0 0 (fun _ => False)) (F0 m 22 ls []) from hloop2 513 (A 0 k) 0 (by have := hdep.2.2 (A 0 k); omega) (by omega) (Or.inr ⟨k, by omega, rfl⟩)  ls (lv_sub hl [0, 1, 2, 3, 4] rfl)
      intro fuel2
      induction fuel2 with
      | zero => intro av dd hf2 hde hat; omega
      | succ fuel2 ih2 =>
        intro av dd hf2 hde hat  ls hl
        refine lv_iload hx hb dX3_deepest_22 (lv_at hl 0 rfl) ?_
        refine lv_if_eq (tgt := 46) hx hb dX3_deepest_24 (by decide) (fun c_24 => ?_) (fun c_24 => ?_)
        · have hdd : dd = dep (A 0 k) := by rw [← hde, c_24, hdep.1, Nat.add_zero]
          have hd5 := hdep.2.2 (A 0 k)
          refine lv_iload_n hx hb dX3_deepest_46 rfl (lv_at hl 1 rfl) ?_
          refine lv_iload_n hx hb dX3_deepest_47 rfl (lv_at hl 3 rfl) ?_
          refine lv_icmp_le (tgt := 55) hx hb dX3_deepest_48 (by decide) (fun c_48 => ?_) (fun c_48 => ?_)
          · refine lv_iload_n hx hb dX3_deepest_55 rfl (lv_at hl 3 rfl) ?_
            refine lv_istore_n (lv' := [(1, .int q), (4, .int av), (3, .int (nI dd)), (2, .int (nI k)), (0, .ref y)]) hx hb dX3_deepest_56 rfl hl (by decide) rfl (fun ls hl => ?_)
            refine lv_iinc (v := nI (k + 1)) (lv' := [(2, .int (nI (k + 1))), (1, .int q), (4, .int av), (3, .int (nI dd)), (0, .ref y)]) hx hb dX3_deepest_57 hl (k := 3) rfl (nI_1 _) (by decide) rfl (fun ls hl => ?_)
            refine lv_goto (tgt := 4) hx hb dX3_deepest_60 (by decide) ?_
            exact ih (k + 1) _ (by omega) (by omega) (mxw_n hq (by rw [← hdd]; exact i32_nlt.mpr c_48))  ls (lv_sub hl [0, 1, 4] rfl)
          · refine lv_iload_n hx hb dX3_deepest_51 rfl (lv_at hl 1 rfl) ?_
            refine lv_goto (tgt := 56) hx hb dX3_deepest_52 (by decide) ?_
            refine lv_istore_n (lv' := [(1, .int (nI dd)), (4, .int av), (3, .int (nI dd)), (2, .int (nI k)), (0, .ref y)]) hx hb dX3_deepest_56 rfl hl (by decide) rfl (fun ls hl => ?_)
            refine lv_iinc (v := nI (k + 1)) (lv' := [(2, .int (nI (k + 1))), (1, .int (nI dd)), (4, .int av), (3, .int (nI dd)), (0, .ref y)]) hx hb dX3_deepest_57 hl (k := 3) rfl (nI_1 _) (by decide) rfl (fun ls hl => ?_)
            refine lv_goto (tgt := 4) hx hb dX3_deepest_60 (by decide) ?_
            exact ih (k + 1) _ (by omega) (by omega) (by rw [hdd]; exact mxw_s hq (by rw [← hdd]; exact i32_nle.mp c_48))  ls (lv_sub hl [0, 1, 4] rfl)
        · refine lv_iinc (v := nI (dd + 1)) (lv' := [(3, .int (nI (dd + 1))), (4, .int av), (2, .int (nI k)), (1, .int q), (0, .ref y)]) hx hb dX3_deepest_27 hl (k := 1) rfl (nI_1 _) (by decide) rfl (fun ls hl => ?_)
          refine lv_aload_n hx hb dX3_deepest_30 rfl (lv_at hl 4 rfl) ?_
          refine rM_behinds S hM dX3_deepest_31 ?_
          refine lv_aload_n hx hb dX3_deepest_34 rfl (lv_at hl 4 rfl) ?_
          refine lv_iload hx hb dX3_deepest_35 (lv_at hl 1 rfl) ?_
          refine vp_callSi (va_Run.run (runV (As := [.int av]) (rest := [.ref (a 1)]) (Bh := RdM D y a n d th A) S (c_X3_placeOf l av) (gw_V wk_410 wk_412 wp_22 wk_4 wk_413) rfl rfl 1 rfl (by decide +kernel) (by decide) ⟨Nat.le_refl _, Nat.le_refl _⟩ (fun _ _ _ h q => RdM.mv h q) hM.recv hM hl.1 (Nat.le_of_ble_eq_true rfl) dX3_deepest_37)) (fun r hr => ?_)
          rcases hr with ⟨k_37, hk_37, he_37, hf_37, rfl⟩ | ⟨hn_37, rfl⟩
          · have hd9 := hdep.2.1 k_37 hk_37
            rw [he_37] at hd9
            refine rM_ald S hM 1 (by decide) (by show _ < 512; omega) dX3_deepest_40 ?_
            refine lv_istore (lv' := [(4, .int (A 1 k_37)), (3, .int (nI (dd + 1))), (2, .int (nI k)), (1, .int q), (0, .ref y)]) hx hb dX3_deepest_41 hl (by decide) rfl (fun ls hl => ?_)
            refine lv_goto (tgt := 22) hx hb dX3_deepest_43 (by decide) ?_
            exact ih2 (A 1 k_37) (dd + 1) (by omega) (by omega) hd9.2.2  ls (lv_sub hl [0, 1, 2, 3, 4] rfl)
          · exact (hat.elim c_24 (fun ⟨j, h1, h2⟩ => hn_37 j h1 h2)).elim
end
section
/-! the reference, for writing -/
abbrev MS : Type := Nat × Nat × Int32 × (Nat → Nat → Int32)
def wM (y : Nat) (a : Nat → Nat) (cI : ClassId) (n d : Nat) (th : Int32) (A : Nat → Nat → Int32) : va_W := [(y, .inr (3, fM a n d th)), (a 0, .inl (cI, 512, .inl (A 0))), (a 1, .inl (cI, 512, .inl (A 1))), (a 2, .inl (cI, 512, .inl (A 2))), (a 3, .inl (cI, 512, .inl (A 3))), (a 4, .inl (cI, 1024, .inl (A 4))), (a 5, .inl (cI, 1024, .inl (A 5))), (a 6, .inl (cI, 1024, .inl (A 6))), (a 7, .inl (cI, 1024, .inl (A 7))), (a 8, .inl (cI, 512, .inl (A 8))), (a 9, .inl (cI, 512, .inl (A 9)))]
def MM (D : va_G) (y : Nat) (a : Nat → Nat) (cI : ClassId) (n d : Nat) (th : Int32) (A : Nat → Nat → Int32) (AA : Nat → Prop) (H0 : Heap) (s : State) (H : Heap) (locs : List Loc) : Prop :=
  va_P D cl_ (wM y a cI n d th A) H ∧ va_D AA (wM y a cI n d th A) ∧ va_K D cl_ [(cI, .int)] s ∧ va_S AA H0 H locs ∧ (∀ q, H0.size ≤ q → AA q) ∧ n ≤ 512 ∧ d ≤ 1024
def MPre (D : va_G) (y : Nat) (a : Nat → Nat) (cI : ClassId) (n d : Nat) (th : Int32) (A : Nat → Nat → Int32) (sz : Nat) (U : State) (H : Heap) : Prop := H.size = sz ∧ va_P D cl_ (wM y a cI n d th A) H ∧ va_K D cl_ [(cI, .int)] U ∧ va_D (fun _ => True) (wM y a cI n d th A) ∧ n ≤ 512 ∧ d ≤ 1024
def MB (D : va_G) (y : Nat) (a : Nat → Nat) (cI : ClassId) (AA : Nat → Prop) (u : MS) (t : State) : Prop := va_P D cl_ (wM y a cI u.1 u.2.1 u.2.2.1 u.2.2.2) t.heap ∧ va_K D cl_ [(cI, .int)] t ∧ va_D AA (wM y a cI u.1 u.2.1 u.2.2.1 u.2.2.2) ∧ u.1 ≤ 512 ∧ u.2.1 ≤ 1024
theorem MPre.mv {D : va_G} {y : Nat} {a : Nat → Nat} {cI : ClassId} {n d : Nat} {th : Int32} {A : Nat → Nat → Int32} {sz : Nat} {u U : State} {H : Heap} (hW : u.WarmedH U.vm) (h : MPre D y a cI n d th A sz u H) : MPre D y a cI n d th A sz U H := ⟨h.1, h.2.1, va_K.moved hW.alike h.2.2.1, h.2.2.2⟩
section MMS
variable {D : va_G} {y : Nat} {a : Nat → Nat} {cI : ClassId} {n d : Nat} {th : Int32} {A : Nat → Nat → Int32} {AA : Nat → Prop} {H0 : Heap} {s : State} {H : Heap} {locs : List Loc}
theorem MM.rd (h : MM D y a cI n d th A AA H0 s H locs) : RdM D y a n d th A s H := by
  obtain ⟨hP, hD, hK, hS, hA, h5, h6⟩ := h
  refine ⟨cI, hP 0 _ rfl, fun j hj => ?_, hK, h5, h6⟩
  match j, hj with
  | 0, _ => exact hP 1 _ rfl
  | 1, _ => exact hP 2 _ rfl
  | 2, _ => exact hP 3 _ rfl
  | 3, _ => exact hP 4 _ rfl
  | 4, _ => exact hP 5 _ rfl
  | 5, _ => exact hP 6 _ rfl
  | 6, _ => exact hP 7 _ rfl
  | 7, _ => exact hP 8 _ rfl
  | 8, _ => exact hP 9 _ rfl
  | 9, _ => exact hP 10 _ rfl
theorem MM.recv (h : MM D y a cI n d th A AA H0 s H locs) : ∃ cell : Cell, H[y]? = some cell ∧ cell.vm.isStatics = false ∧ s.vm.findClass RX3 = some cell.cls := h.rd.recv
theorem MM.pre (h : MM D y a cI n d th A AA H0 s H locs) : MPre D y a cI n d th A H.size s H := ⟨rfl, h.1, h.2.2.1, h.2.1.weaken (fun _ _ _ _ => trivial), h.2.2.2.2.2⟩
theorem MM.free (h : MM D y a cI n d th A AA H0 s H locs) : ∀ q, va_A (wM y a cI n d th A) H.size q → AA q := va_free h.2.1 h.2.2.2.1 h.2.2.2.2.1 [0, 1, 2, 3, 4, 5, 6, 7, 8, 9, 10] rfl
theorem MM.S (h : MM D y a cI n d th A AA H0 s H locs) : va_S AA H0 H locs := h.2.2.2.1
theorem MM.bd (h : MM D y a cI n d th A AA H0 s H locs) : n ≤ 512 ∧ d ≤ 1024 := h.2.2.2.2.2
theorem MM.out {t : State} (h : MM D y a cI n d th A AA s.heap s H locs) (ht : t.heap = H) (hW : s.WarmedH t.vm) : MB D y a cI AA (n, d, th, A) t ∧ va_F AA s t := ⟨⟨by rw [ht]; exact h.1, va_K.moved hW.alike h.2.2.1, h.2.1, h.2.2.2.2.2⟩, h.2.2.2.1.F ht⟩
theorem MM.back {u : MS} {t : State} {H1 : Heap} {locs1 : List Loc} (h : MM D y a cI n d th A AA H0 s H locs) (ht : t.heap = H1) (hB : MB D y a cI (va_A (wM y a cI n d th A) H.size) u t) (hS : va_S AA H0 H1 locs1) : MM D y a cI u.1 u.2.1 u.2.2.1 u.2.2.2 AA H0 s H1 locs1 :=
  ⟨by rw [← ht]; exact hB.1, hB.2.2.1.weaken (fun _ q _ hq => h.free q.1 hq), h.2.2.1, hS, h.2.2.2.2.1, hB.2.2.2⟩
end MMS
section MMW
variable {p : Program} {l : Launch} {e : Env} {R : Room} {s : State} {m : MethodId} {args : Array Value} {below : List Frame} {meth : Method} {c : Code} {H : Heap} {locs : List Loc} {cells slots : Nat} {Q : State → Prop} {cc : ByteArray} {nL pc : Nat} {ls : Array Slot} {rest : List Value} {D : va_G} {y : Nat} {a : Nat → Nat} {cI : ClassId} {n d : Nat} {th : Int32} {A : Nat → Nat → Int32} {AA : Nat → Prop} {H0 : Heap}
theorem mw_thrown (S : CallFix p m c cc nL s args gw RX3) (hM : MM D y a cI n d th A AA H0 s H locs) {v : Int32} (hdg : decode cc pc = .ok (.putfield 40, 3)) (kk : ∀ (H : Heap) (locs : List Loc), MM D y a cI n d v A AA H0 s H locs → W p l e R s m args below meth c H locs cells slots Q (F0 m (pc + 3) ls rest)) : W p l e R s m args below meth c H locs cells slots Q (F0 m pc ls (.int (v) :: .ref y :: rest)) := by
  obtain ⟨hx, hb, hml, hown, hg⟩ := S
  obtain ⟨hP, hD, hK, hS, hA, h5, h6⟩ := hM
  exact va_put (D := D) (ci := 3) (v := .int (v)) (ty := .int) (C := RX3) (T := TX3) (N := 13) hx hb hg inX3 tyX3 tyX3_ok nmX3 hown hK hP hD hS 0 rfl rfl 0 (by decide) (hg _ wk_349) (fun _ h9 => h9) rfl (by decide +kernel) rfl rfl (Nat.le_of_ble_eq_true rfl) hdg (fun H1 locs1 hP hD hS => kk H1 locs1 ⟨hP, hD, hK, hS, hA, h5, h6⟩)
theorem mw_many (S : CallFix p m c cc nL s args gw RX3) (hM : MM D y a cI n d th A AA H0 s H locs) {v : Nat} (hv : v ≤ 512) (hdg : decode cc pc = .ok (.putfield 44, 3)) (kk : ∀ (H : Heap) (locs : List Loc), MM D y a cI v d th A AA H0 s H locs → W p l e R s m args below meth c H locs cells slots Q (F0 m (pc + 3) ls rest)) : W p l e R s m args below meth c H locs cells slots Q (F0 m pc ls (.int (nI v) :: .ref y :: rest)) := by
  obtain ⟨hx, hb, hml, hown, hg⟩ := S
  obtain ⟨hP, hD, hK, hS, hA, h5, h6⟩ := hM
  exact va_put (D := D) (ci := 3) (v := .int (nI v)) (ty := .int) (C := RX3) (T := TX3) (N := 13) hx hb hg inX3 tyX3 tyX3_ok nmX3 hown hK hP hD hS 0 rfl rfl 1 (by decide) (hg _ wk_350) (fun _ h9 => h9) rfl (by decide +kernel) rfl rfl (Nat.le_of_ble_eq_true rfl) hdg (fun H1 locs1 hP hD hS => kk H1 locs1 ⟨hP, hD, hK, hS, hA, hv, h6⟩)
theorem mw_done (S : CallFix p m c cc nL s args gw RX3) (hM : MM D y a cI n d th A AA H0 s H locs) {v : Nat} (hv : v ≤ 1024) (hdg : decode cc pc = .ok (.putfield 52, 3)) (kk : ∀ (H : Heap) (locs : List Loc), MM D y a cI n v th A AA H0 s H locs → W p l e R s m args below meth c H locs cells slots Q (F0 m (pc + 3) ls rest)) : W p l e R s m args below meth c H locs cells slots Q (F0 m pc ls (.int (nI v) :: .ref y :: rest)) := by
  obtain ⟨hx, hb, hml, hown, hg⟩ := S
  obtain ⟨hP, hD, hK, hS, hA, h5, h6⟩ := hM
  exact va_put (D := D) (ci := 3) (v := .int (nI v)) (ty := .int) (C := RX3) (T := TX3) (N := 13) hx hb hg inX3 tyX3 tyX3_ok nmX3 hown hK hP hD hS 0 rfl rfl 6 (by decide) (hg _ wk_355) (fun _ h9 => h9) rfl (by decide +kernel) rfl rfl (Nat.le_of_ble_eq_true rfl) hdg (fun H1 locs1 hP hD hS => kk H1 locs1 ⟨hP, hD, hK, hS, hA, h5, hv⟩)
theorem mw_ast0 (S : CallFix p m c cc nL s args gw RX3) (hM : MM D y a cI n d th A AA H0 s H locs) {k : Nat} {v : Int32} (hk : k < 512) (hdg : decode cc pc = .ok (.iastore, 1)) (kk : ∀ (H : Heap) (locs : List Loc) (A1 : Nat → Nat → Int32), A1 = va_up A 0 (upd (A 0) k v) → MM D y a cI n d th A1 AA H0 s H locs → W p l e R s m args below meth c H locs cells slots Q (F0 m (pc + 1) ls rest)) : W p l e R s m args below meth c H locs cells slots Q (F0 m pc ls (.int v :: .int (nI k) :: .ref (a 0) :: rest)) := by
  obtain ⟨hx, hb, hml, hown, hg⟩ := S
  obtain ⟨hP, hD, hK, hS, hA, h5, h6⟩ := hM
  refine va_iast (D := D) hx hb hK hP hD hS 1 0 rfl rfl (vp_in_nI hk (by omega)) hdg (fun H1 locs1 hP hD hS => kk H1 locs1 _ rfl ⟨?_, ?_, hK, hS, hA, h5, h6⟩)
  · rw [nI_clamp (by omega)] at hP; exact hP
  · rw [nI_clamp (by omega)] at hD; exact hD
theorem mw_ast1 (S : CallFix p m c cc nL s args gw RX3) (hM : MM D y a cI n d th A AA H0 s H locs) {k : Nat} {v : Int32} (hk : k < 512) (hdg : decode cc pc = .ok (.iastore, 1)) (kk : ∀ (H : Heap) (locs : List Loc) (A1 : Nat → Nat → Int32), A1 = va_up A 1 (upd (A 1) k v) → MM D y a cI n d th A1 AA H0 s H locs → W p l e R s m args below meth c H locs cells slots Q (F0 m (pc + 1) ls rest)) : W p l e R s m args below meth c H locs cells slots Q (F0 m pc ls (.int v :: .int (nI k) :: .ref (a 1) :: rest)) := by
  obtain ⟨hx, hb, hml, hown, hg⟩ := S
  obtain ⟨hP, hD, hK, hS, hA, h5, h6⟩ := hM
  refine va_iast (D := D) hx hb hK hP hD hS 2 0 rfl rfl (vp_in_nI hk (by omega)) hdg (fun H1 locs1 hP hD hS => kk H1 locs1 _ rfl ⟨?_, ?_, hK, hS, hA, h5, h6⟩)
  · rw [nI_clamp (by omega)] at hP; exact hP
  · rw [nI_clamp (by omega)] at hD; exact hD
theorem mw_ast2 (S : CallFix p m c cc nL s args gw RX3) (hM : MM D y a cI n d th A AA H0 s H locs) {k : Nat} {v : Int32} (hk : k < 512) (hdg : decode cc pc = .ok (.iastore, 1)) (kk : ∀ (H : Heap) (locs : List Loc) (A1 : Nat → Nat → Int32), A1 = va_up A 2 (upd (A 2) k v) → MM D y a cI n d th A1 AA H0 s H locs → W p l e R s m args below meth c H locs cells slots Q (F0 m (pc + 1) ls rest)) : W p l e R s m args below meth c H locs cells slots Q (F0 m pc ls (.int v :: .int (nI k) :: .ref (a 2) :: rest)) := by
  obtain ⟨hx, hb, hml, hown, hg⟩ := S
  obtain ⟨hP, hD, hK, hS, hA, h5, h6⟩ := hM
  refine va_iast (D := D) hx hb hK hP hD hS 3 0 rfl rfl (vp_in_nI hk (by omega)) hdg (fun H1 locs1 hP hD hS => kk H1 locs1 _ rfl ⟨?_, ?_, hK, hS, hA, h5, h6⟩)
  · rw [nI_clamp (by omega)] at hP; exact hP
  · rw [nI_clamp (by omega)] at hD; exact hD
theorem mw_ast3 (S : CallFix p m c cc nL s args gw RX3) (hM : MM D y a cI n d th A AA H0 s H locs) {k : Nat} {v : Int32} (hk : k < 512) (hdg : decode cc pc = .ok (.iastore, 1)) (kk : ∀ (H : Heap) (locs : List Loc) (A1 : Nat → Nat → Int32), A1 = va_up A 3 (upd (A 3) k v) → MM D y a cI n d th A1 AA H0 s H locs → W p l e R s m args below meth c H locs cells slots Q (F0 m (pc + 1) ls rest)) : W p l e R s m args below meth c H locs cells slots Q (F0 m pc ls (.int v :: .int (nI k) :: .ref (a 3) :: rest)) := by
  obtain ⟨hx, hb, hml, hown, hg⟩ := S
  obtain ⟨hP, hD, hK, hS, hA, h5, h6⟩ := hM
  refine va_iast (D := D) hx hb hK hP hD hS 4 0 rfl rfl (vp_in_nI hk (by omega)) hdg (fun H1 locs1 hP hD hS => kk H1 locs1 _ rfl ⟨?_, ?_, hK, hS, hA, h5, h6⟩)
  · rw [nI_clamp (by omega)] at hP; exact hP
  · rw [nI_clamp (by omega)] at hD; exact hD
theorem mw_ast4 (S : CallFix p m c cc nL s args gw RX3) (hM : MM D y a cI n d th A AA H0 s H locs) {k : Nat} {v : Int32} (hk : k < 1024) (hdg : decode cc pc = .ok (.iastore, 1)) (kk : ∀ (H : Heap) (locs : List Loc) (A1 : Nat → Nat → Int32), A1 = va_up A 4 (upd (A 4) k v) → MM D y a cI n d th A1 AA H0 s H locs → W p l e R s m args below meth c H locs cells slots Q (F0 m (pc + 1) ls rest)) : W p l e R s m args below meth c H locs cells slots Q (F0 m pc ls (.int v :: .int (nI k) :: .ref (a 4) :: rest)) := by
  obtain ⟨hx, hb, hml, hown, hg⟩ := S
  obtain ⟨hP, hD, hK, hS, hA, h5, h6⟩ := hM
  refine va_iast (D := D) hx hb hK hP hD hS 5 0 rfl rfl (vp_in_nI hk (by omega)) hdg (fun H1 locs1 hP hD hS => kk H1 locs1 _ rfl ⟨?_, ?_, hK, hS, hA, h5, h6⟩)
  · rw [nI_clamp (by omega)] at hP; exact hP
  · rw [nI_clamp (by omega)] at hD; exact hD
theorem mw_ast5 (S : CallFix p m c cc nL s args gw RX3) (hM : MM D y a cI n d th A AA H0 s H locs) {k : Nat} {v : Int32} (hk : k < 1024) (hdg : decode cc pc = .ok (.iastore, 1)) (kk : ∀ (H : Heap) (locs : List Loc) (A1 : Nat → Nat → Int32), A1 = va_up A 5 (upd (A 5) k v) → MM D y a cI n d th A1 AA H0 s H locs → W p l e R s m args below meth c H locs cells slots Q (F0 m (pc + 1) ls rest)) : W p l e R s m args below meth c H locs cells slots Q (F0 m pc ls (.int v :: .int (nI k) :: .ref (a 5) :: rest)) := by
  obtain ⟨hx, hb, hml, hown, hg⟩ := S
  obtain ⟨hP, hD, hK, hS, hA, h5, h6⟩ := hM
  refine va_iast (D := D) hx hb hK hP hD hS 6 0 rfl rfl (vp_in_nI hk (by omega)) hdg (fun H1 locs1 hP hD hS => kk H1 locs1 _ rfl ⟨?_, ?_, hK, hS, hA, h5, h6⟩)
  · rw [nI_clamp (by omega)] at hP; exact hP
  · rw [nI_clamp (by omega)] at hD; exact hD
theorem mw_ast6 (S : CallFix p m c cc nL s args gw RX3) (hM : MM D y a cI n d th A AA H0 s H locs) {k : Nat} {v : Int32} (hk : k < 1024) (hdg : decode cc pc = .ok (.iastore, 1)) (kk : ∀ (H : Heap) (locs : List Loc) (A1 : Nat → Nat → Int32), A1 = va_up A 6 (upd (A 6) k v) → MM D y a cI n d th A1 AA H0 s H locs → W p l e R s m args below meth c H locs cells slots Q (F0 m (pc + 1) ls rest)) : W p l e R s m args below meth c H locs cells slots Q (F0 m pc ls (.int v :: .int (nI k) :: .ref (a 6) :: rest)) := by
  obtain ⟨hx, hb, hml, hown, hg⟩ := S
  obtain ⟨hP, hD, hK, hS, hA, h5, h6⟩ := hM
  refine va_iast (D := D) hx hb hK hP hD hS 7 0 rfl rfl (vp_in_nI hk (by omega)) hdg (fun H1 locs1 hP hD hS => kk H1 locs1 _ rfl ⟨?_, ?_, hK, hS, hA, h5, h6⟩)
  · rw [nI_clamp (by omega)] at hP; exact hP
  · rw [nI_clamp (by omega)] at hD; exact hD
theorem mw_ast7 (S : CallFix p m c cc nL s args gw RX3) (hM : MM D y a cI n d th A AA H0 s H locs) {k : Nat} {v : Int32} (hk : k < 1024) (hdg : decode cc pc = .ok (.iastore, 1)) (kk : ∀ (H : Heap) (locs : List Loc) (A1 : Nat → Nat → Int32), A1 = va_up A 7 (upd (A 7) k v) → MM D y a cI n d th A1 AA H0 s H locs → W p l e R s m args below meth c H locs cells slots Q (F0 m (pc + 1) ls rest)) : W p l e R s m args below meth c H locs cells slots Q (F0 m pc ls (.int v :: .int (nI k) :: .ref (a 7) :: rest)) := by
  obtain ⟨hx, hb, hml, hown, hg⟩ := S
  obtain ⟨hP, hD, hK, hS, hA, h5, h6⟩ := hM
  refine va_iast (D := D) hx hb hK hP hD hS 8 0 rfl rfl (vp_in_nI hk (by omega)) hdg (fun H1 locs1 hP hD hS => kk H1 locs1 _ rfl ⟨?_, ?_, hK, hS, hA, h5, h6⟩)
  · rw [nI_clamp (by omega)] at hP; exact hP
  · rw [nI_clamp (by omega)] at hD; exact hD
theorem mw_ast8 (S : CallFix p m c cc nL s args gw RX3) (hM : MM D y a cI n d th A AA H0 s H locs) {k : Nat} {v : Int32} (hk : k < 512) (hdg : decode cc pc = .ok (.iastore, 1)) (kk : ∀ (H : Heap) (locs : List Loc) (A1 : Nat → Nat → Int32), A1 = va_up A 8 (upd (A 8) k v) → MM D y a cI n d th A1 AA H0 s H locs → W p l e R s m args below meth c H locs cells slots Q (F0 m (pc + 1) ls rest)) : W p l e R s m args below meth c H locs cells slots Q (F0 m pc ls (.int v :: .int (nI k) :: .ref (a 8) :: rest)) := by
  obtain ⟨hx, hb, hml, hown, hg⟩ := S
  obtain ⟨hP, hD, hK, hS, hA, h5, h6⟩ := hM
  refine va_iast (D := D) hx hb hK hP hD hS 9 0 rfl rfl (vp_in_nI hk (by omega)) hdg (fun H1 locs1 hP hD hS => kk H1 locs1 _ rfl ⟨?_, ?_, hK, hS, hA, h5, h6⟩)
  · rw [nI_clamp (by omega)] at hP; exact hP
  · rw [nI_clamp (by omega)] at hD; exact hD
theorem mw_ast9 (S : CallFix p m c cc nL s args gw RX3) (hM : MM D y a cI n d th A AA H0 s H locs) {k : Nat} {v : Int32} (hk : k < 512) (hdg : decode cc pc = .ok (.iastore, 1)) (kk : ∀ (H : Heap) (locs : List Loc) (A1 : Nat → Nat → Int32), A1 = va_up A 9 (upd (A 9) k v) → MM D y a cI n d th A1 AA H0 s H locs → W p l e R s m args below meth c H locs cells slots Q (F0 m (pc + 1) ls rest)) : W p l e R s m args below meth c H locs cells slots Q (F0 m pc ls (.int v :: .int (nI k) :: .ref (a 9) :: rest)) := by
  obtain ⟨hx, hb, hml, hown, hg⟩ := S
  obtain ⟨hP, hD, hK, hS, hA, h5, h6⟩ := hM
  refine va_iast (D := D) hx hb hK hP hD hS 10 0 rfl rfl (vp_in_nI hk (by omega)) hdg (fun H1 locs1 hP hD hS => kk H1 locs1 _ rfl ⟨?_, ?_, hK, hS, hA, h5, h6⟩)
  · rw [nI_clamp (by omega)] at hP; exact hP
  · rw [nI_clamp (by omega)] at hD; exact hD
end MMW
/-- the head of a method of the reference that writes -/
theorem met_mm {l : Launch} {y : MethodName} {cc : ByteArray} {maxL : Nat} {ret : Option FieldType} {rm : Room} {av : List Value} {D : va_G} {yy : Nat} {a : Nat → Nat} {cI : ClassId} {n d : Nat} {th : Int32} {A : Nat → Nat → Int32} {sz : Nat} {QQ : (Nat → Prop) → Array Value → State → Outcome → State → Prop}
    (hy : plainName y.cls = true) (hn : (lg_sl av).length ≤ maxL)
    (body : ∀ (p : Program) (e : Env) (s : State) (m : MethodId) (below : List Frame) (meth : Method) (c : Code) (ls : Array Slot) (AA : Nat → Prop), CallFix p m c cc maxL s av.toArray gw y.cls → meth.sig.returnType = ret → meth.locks = false → MM D yy a cI n d th A AA s.heap s s.heap [] → lv_has ls maxL (lv_args 0 av) →
      W p l e rm s m av.toArray below meth c s.heap [] 0 0 (MQ below (QQ AA) av.toArray s 0 0 AA) (F0 m 0 ls [])) : Met l y (gws y cc maxL ret) rm (va_Pc av (fun U => MPre D yy a cI n d th A sz U U.heap)) (QQ (va_A (wM yy a cI n d th A) sz)) 0 0 (va_A (wM yy a cI n d th A) sz) := by
  refine met_go hy hn ?_
  intro p e s m below meth c ls S hr hlocks hnm hB hl
  obtain ⟨hsz, hP, hK, hD, h5, h6⟩ := hB
  subst hsz
  exact body p e s m below meth c ls _ S hr hlocks ⟨hP, hD.self, hK, va_S.rf, fun q h => Or.inr h, h5, h6⟩ hl
end
section
/-- one more INSERT behind the others -/
def kA (A : Nat → Nat → Int32) (n : Nat) (v1 v2 v3 v4 : Int32) : Nat → Nat → Int32 := va_up (va_up (va_up (va_up A 0 (upd (A 0) n v1)) 1 (upd (A 1) n v2)) 2 (upd (A 2) n v3)) 3 (upd (A 3) n v4)
/-- one more SET or REMOVE -/
def dA (A : Nat → Nat → Int32) (d : Nat) (v1 v2 v3 v4 : Int32) : Nat → Nat → Int32 := va_up (va_up (va_up (va_up A 4 (upd (A 4) d v1)) 5 (upd (A 5) d v2)) 6 (upd (A 6) d v3)) 7 (upd (A 7) d v4)
set_option maxHeartbeats 4000000 in
set_option maxRecDepth 100000 in
theorem c_X3_keep (l : Launch) {D : va_G} {y : Nat} {a : Nat → Nat} {cI : ClassId} {n d : Nat} {th : Int32} {A : Nat → Nat → Int32} {sz : Nat} (v1 : Int32) (v2 : Int32) (v3 : Int32) (v4 : Int32) (h5 : n < 512) : Met l yX3_keep (gws yX3_keep cX3_keep 5 none) { frames := 0, cells := 0, slots := 0, locals := 0 } (va_Pc [.ref y, .int v1, .int v2, .int v3, .int v4] (fun U => MPre D y a cI n d th A sz U U.heap)) (va_Qv (fun (u : MS) => u = (n + 1, d, th, kA A n v1 v2 v3 v4)) (MB D y a cI (va_A (wM y a cI n d th A) sz)) (va_A (wM y a cI n d th A) sz)) 0 0 (va_A (wM y a cI n d th A) sz) := by
  refine met_mm (QQ := fun AA => va_Qv (fun (u : MS) => u = (n + 1, d, th, kA A n v1 v2 v3 v4)) (MB D y a cI AA) AA) (by decide) (Nat.le_of_ble_eq_true rfl) ?_
  intro p e s m below meth c ls AA S hr hlocks hM hl
  obtain ⟨hx, hb, hml, hown, hg⟩ := id S
  have hl : lv_has ls 5 [(0, .ref y), (1, .int v1), (2, .int v2), (3, .int v3), (4, .int v4)] := hl
  have hn := hM.bd
  suffices key9 : ∀ (H : Heap) (locs : List Loc), MM D y a cI n d th A AA s.heap s H locs → W p l e { frames := 0, cells := 0, slots := 0, locals := 0 } s m [.ref y, .int v1, .int v2, .int v3, .int v4].toArray below meth c H locs 0 0 (MQ below ((fun AA : Nat → Prop => va_Qv (fun (u : MS) => u = (n + 1, d, th, kA A n v1 v2 v3 v4)) (MB D y a cI AA) AA) AA) [.ref y, .int v1, .int v2, .int v3, .int v4].toArray s 0 0 AA) (F0 m 0 ls []) from key9 _ _ hM
  clear hM
  intro H locs hM
  refine lv_aload_n hx hb dX3_keep_0 rfl (lv_at hl 0 rfl) ?_
  refine rM_ids S hM.rd dX3_keep_1 ?_
  refine lv_aload_n hx hb dX3_keep_4 rfl (lv_at hl 0 rfl) ?_
  refine rM_many S hM.rd dX3_keep_5 ?_
  refine lv_iload_n hx hb dX3_keep_8 rfl (lv_at hl 1 rfl) ?_
  refine mw_ast0 (k := n) S hM (by omega) dX3_keep_9 (fun H locs A_9 hA_9 hM => ?_)
  refine lv_aload_n hx hb dX3_keep_10 rfl (lv_at hl 0 rfl) ?_
  refine rM_behinds S hM.rd dX3_keep_11 ?_
  refine lv_aload_n hx hb dX3_keep_14 rfl (lv_at hl 0 rfl) ?_
  refine rM_many S hM.rd dX3_keep_15 ?_
  refine lv_iload_n hx hb dX3_keep_18 rfl (lv_at hl 2 rfl) ?_
  refine mw_ast1 (k := n) S hM (by omega) dX3_keep_19 (fun H locs A_19 hA_19 hM => ?_)
  refine lv_aload_n hx hb dX3_keep_20 rfl (lv_at hl 0 rfl) ?_
  refine rM_kinds S hM.rd dX3_keep_21 ?_
  refine lv_aload_n hx hb dX3_keep_24 rfl (lv_at hl 0 rfl) ?_
  refine rM_many S hM.rd dX3_keep_25 ?_
  refine lv_iload_n hx hb dX3_keep_28 rfl (lv_at hl 3 rfl) ?_
  refine mw_ast2 (k := n) S hM (by omega) dX3_keep_29 (fun H locs A_29 hA_29 hM => ?_)
  refine lv_aload_n hx hb dX3_keep_30 rfl (lv_at hl 0 rfl) ?_
  refine rM_values S hM.rd dX3_keep_31 ?_
  refine lv_aload_n hx hb dX3_keep_34 rfl (lv_at hl 0 rfl) ?_
  refine rM_many S hM.rd dX3_keep_35 ?_
  refine lv_iload hx hb dX3_keep_38 (lv_at hl 4 rfl) ?_
  refine mw_ast3 (k := n) S hM (by omega) dX3_keep_40 (fun H locs A_40 hA_40 hM => ?_)
  refine lv_aload_n hx hb dX3_keep_41 rfl (lv_at hl 0 rfl) ?_
  refine lv_dup hx hb dX3_keep_42 rfl ?_
  refine rM_many S hM.rd dX3_keep_43 ?_
  refine lv_iconst (v := nI 1) hx hb dX3_keep_46 (by decide) ?_
  refine lv_iadd hx hb dX3_keep_47 ?_
  rw [nI_add]
  refine mw_many (v := (n + 1)) S hM (by omega) dX3_keep_48 (fun H locs hM => ?_)
  exact W.vret hx hb hr (fun t9 ht9 hW9 => ⟨⟨((n + 1), d, th, A_40), rfl, by rw [hA_40, hA_29, hA_19, hA_9]; rfl, (hM.out ht9 hW9).1⟩, (hM.out ht9 hW9).2⟩) hM.S.2.2 dX3_keep_51
set_option maxHeartbeats 4000000 in
set_option maxRecDepth 100000 in
theorem c_X3_clear (l : Launch) {D : va_G} {y : Nat} {a : Nat → Nat} {cI : ClassId} {n d : Nat} {th : Int32} {A : Nat → Nat → Int32} {sz : Nat}   : Met l yX3_clear (gws yX3_clear cX3_clear 1 none) { frames := 0, cells := 0, slots := 0, locals := 0 } (va_Pc [.ref y] (fun U => MPre D y a cI n d th A sz U U.heap)) (va_Qv (fun (u : MS) => u = (0, 0, 0, A)) (MB D y a cI (va_A (wM y a cI n d th A) sz)) (va_A (wM y a cI n d th A) sz)) 0 0 (va_A (wM y a cI n d th A) sz) := by
  refine met_mm (QQ := fun AA => va_Qv (fun (u : MS) => u = (0, 0, 0, A)) (MB D y a cI AA) AA) (by decide) (Nat.le_of_ble_eq_true rfl) ?_
  intro p e s m below meth c ls AA S hr hlocks hM hl
  obtain ⟨hx, hb, hml, hown, hg⟩ := id S
  have hl : lv_has ls 1 [(0, .ref y)] := hl
  have hn := hM.bd
  suffices key9 : ∀ (H : Heap) (locs : List Loc), MM D y a cI n d th A AA s.heap s H locs → W p l e { frames := 0, cells := 0, slots := 0, locals := 0 } s m [.ref y].toArray below meth c H locs 0 0 (MQ below ((fun AA : Nat → Prop => va_Qv (fun (u : MS) => u = (0, 0, 0, A)) (MB D y a cI AA) AA) AA) [.ref y].toArray s 0 0 AA) (F0 m 0 ls []) from key9 _ _ hM
  clear hM
  intro H locs hM
  refine lv_aload_n hx hb dX3_clear_0 rfl (lv_at hl 0 rfl) ?_
  refine lv_iconst (v := 0) hx hb dX3_clear_1 (by decide) ?_
  refine mw_thrown S hM dX3_clear_2 (fun H locs hM => ?_)
  refine lv_aload_n hx hb dX3_clear_5 rfl (lv_at hl 0 rfl) ?_
  refine lv_iconst (v := nI 0) hx hb dX3_clear_6 (by decide) ?_
  refine mw_many (v := 0) S hM (by omega) dX3_clear_7 (fun H locs hM => ?_)
  refine lv_aload_n hx hb dX3_clear_10 rfl (lv_at hl 0 rfl) ?_
  refine lv_iconst (v := nI 0) hx hb dX3_clear_11 (by decide) ?_
  refine mw_done (v := 0) S hM (by omega) dX3_clear_12 (fun H locs hM => ?_)
  exact W.vret hx hb hr (fun t9 ht9 hW9 => ⟨⟨(0, 0, 0, A), rfl, rfl, (hM.out ht9 hW9).1⟩, (hM.out ht9 hW9).2⟩) hM.S.2.2 dX3_clear_15
set_option maxHeartbeats 4000000 in
set_option maxRecDepth 100000 in
theorem c_X3_insert (l : Launch) {D : va_G} {y : Nat} {a : Nat → Nat} {cI : ClassId} {n d : Nat} {th : Int32} {A : Nat → Nat → Int32} {sz : Nat} (v1 : Int32) (v2 : Int32) (v3 : Int32) (v4 : Int32)  : Met l yX3_insert (gws yX3_insert cX3_insert 5 (some .boolean)) { frames := 3, cells := 0, slots := 0, locals := 68 } (va_Pc [.ref y, .int v1, .int v2, .int v3, .int v4] (fun U => MPre D y a cI n d th A sz U U.heap)) (va_Qi (fun r (u : MS) => (((NewM A n d v1 ∧ (v2 = 0 ∨ ∃ k, k < n ∧ A 0 k = v2) ∧ ¬ v1 ≤ v2 ∧ n < 512) ∧ (¬ v3 < 0 ∧ ¬ 6 < v3)) ∧ r = 1 ∧ u = (n + 1, d, 0, kA A n v1 v2 v3 v4)) ∨ ((¬ ((NewM A n d v1 ∧ (v2 = 0 ∨ ∃ k, k < n ∧ A 0 k = v2) ∧ ¬ v1 ≤ v2 ∧ n < 512) ∧ (¬ v3 < 0 ∧ ¬ 6 < v3))) ∧ r = 0 ∧ u = (n, d, 0, A))) (MB D y a cI (va_A (wM y a cI n d th A) sz)) (va_A (wM y a cI n d th A) sz)) 0 0 (va_A (wM y a cI n d th A) sz) := by
  refine met_mm (QQ := fun AA => va_Qi (fun r (u : MS) => (((NewM A n d v1 ∧ (v2 = 0 ∨ ∃ k, k < n ∧ A 0 k = v2) ∧ ¬ v1 ≤ v2 ∧ n < 512) ∧ (¬ v3 < 0 ∧ ¬ 6 < v3)) ∧ r = 1 ∧ u = (n + 1, d, 0, kA A n v1 v2 v3 v4)) ∨ ((¬ ((NewM A n d v1 ∧ (v2 = 0 ∨ ∃ k, k < n ∧ A 0 k = v2) ∧ ¬ v1 ≤ v2 ∧ n < 512) ∧ (¬ v3 < 0 ∧ ¬ 6 < v3))) ∧ r = 0 ∧ u = (n, d, 0, A))) (MB D y a cI AA) AA) (by decide) (Nat.le_of_ble_eq_true rfl) ?_
  intro p e s m below meth c ls AA S hr hlocks hM hl
  obtain ⟨hx, hb, hml, hown, hg⟩ := id S
  have hl : lv_has ls 5 [(0, .ref y), (1, .int v1), (2, .int v2), (3, .int v3), (4, .int v4)] := hl
  have hn := hM.bd
  suffices key9 : ∀ (H : Heap) (locs : List Loc), MM D y a cI n d th A AA s.heap s H locs → W p l e { frames := 3, cells := 0, slots := 0, locals := 68 } s m [.ref y, .int v1, .int v2, .int v3, .int v4].toArray below meth c H locs 0 0 (MQ below ((fun AA : Nat → Prop => va_Qi (fun r (u : MS) => (((NewM A n d v1 ∧ (v2 = 0 ∨ ∃ k, k < n ∧ A 0 k = v2) ∧ ¬ v1 ≤ v2 ∧ n < 512) ∧ (¬ v3 < 0 ∧ ¬ 6 < v3)) ∧ r = 1 ∧ u = (n + 1, d, 0, kA A n v1 v2 v3 v4)) ∨ ((¬ ((NewM A n d v1 ∧ (v2 = 0 ∨ ∃ k, k < n ∧ A 0 k = v2) ∧ ¬ v1 ≤ v2 ∧ n < 512) ∧ (¬ v3 < 0 ∧ ¬ 6 < v3))) ∧ r = 0 ∧ u = (n, d, 0, A))) (MB D y a cI AA) AA) AA) [.ref y, .int v1, .int v2, .int v3, .int v4].toArray s 0 0 AA) (F0 m 0 ls []) from key9 _ _ hM
  clear hM
  intro H locs hM
  refine lv_aload_n hx hb dX3_insert_0 rfl (lv_at hl 0 rfl) ?_
  refine lv_iconst (v := 0) hx hb dX3_insert_1 (by decide) ?_
  refine mw_thrown S hM dX3_insert_2 (fun H locs hM => ?_)
  refine lv_aload_n hx hb dX3_insert_5 rfl (lv_at hl 0 rfl) ?_
  refine lv_iload_n hx hb dX3_insert_6 rfl (lv_at hl 1 rfl) ?_
  refine lv_iload_n hx hb dX3_insert_7 rfl (lv_at hl 2 rfl) ?_
  refine vp_callSi (va_Run.run (runV (As := [.int v1, .int v2]) (rest := []) (Bh := RdM D y a n d 0 A) S (c_X3_canInsert l v1 v2) (gw_V wk_401 wk_403 wp_20 wk_4 wk_404) rfl rfl 2 rfl (by decide +kernel) (by decide) ⟨Nat.le_refl _, Nat.le_refl _⟩ (fun _ _ _ h q => RdM.mv h q) hM.recv hM.rd hl.1 (Nat.le_of_ble_eq_true rfl) dX3_insert_8)) (fun r hr => ?_)
  rcases hr with ⟨h_8, rfl⟩ | ⟨h_8, rfl⟩
  · refine lv_if_eq (tgt := 21) hx hb dX3_insert_11 (by decide) (fun c_11 => ?_) (fun c_11 => ?_)
    · exact absurd (show _ from c_11) (by decide)
    · refine lv_iload_n hx hb dX3_insert_14 rfl (lv_at hl 3 rfl) ?_
      refine vp_callSi (va_Run.run (runS (As := [.int v3]) (rest := []) (Bh := (fun _ _ => True)) S (c_X3_isKind l v3) (gw_S wk_414 wk_415 wk_4 wk_416) rfl rfl 1 rfl (by decide +kernel) (by decide) ⟨Nat.le_refl _, Nat.le_refl _⟩ (fun _ _ _ _ _ => trivial) trivial hl.1 (Nat.le_of_ble_eq_true rfl) dX3_insert_15)) (fun r hr => ?_)
      rcases hr with ⟨h_15, rfl⟩ | ⟨h_15, rfl⟩
      · refine lv_if_ne (tgt := 23) hx hb dX3_insert_18 (by decide) (fun c_18 => ?_) (fun c_18 => ?_)
        · refine lv_aload_n hx hb dX3_insert_23 rfl (lv_at hl 0 rfl) ?_
          refine lv_iload_n hx hb dX3_insert_24 rfl (lv_at hl 1 rfl) ?_
          refine lv_iload_n hx hb dX3_insert_25 rfl (lv_at hl 2 rfl) ?_
          refine lv_iload_n hx hb dX3_insert_26 rfl (lv_at hl 3 rfl) ?_
          refine lv_iload hx hb dX3_insert_27 (lv_at hl 4 rfl) ?_
          refine va_callv (runV (As := [.int v1, .int v2, .int v3, .int v4]) (rest := []) (Bh := MPre D y a cI n d 0 A H.size) S (c_X3_keep l v1 v2 v3 v4 h_8.2.2.2) (gw_V wk_417 wk_419 wp_23 wk_4 wk_420) rfl rfl 4 rfl (by decide +kernel) (by decide) ⟨Nat.le_refl _, Nat.le_refl _⟩ (fun _ _ _ h q => MPre.mv h q) hM.recv hM.pre hl.1 (Nat.le_of_ble_eq_true rfl) dX3_insert_29) hM.S (fun q _ h => hM.free q h) hM.free (fun u8 t8 H1 locs1 ht8 hvm8 hp hB8 hz8 hk8 hS8 => ?_)
          obtain ⟨n_29, d_29, th_29, A_29⟩ := u8
          have hM := hM.back ht8 hB8 hS8
          generalize H1 = H at hM ⊢
          generalize locs1 = locs at hM ⊢
          dsimp only at hp hM
          obtain ⟨rfl, rfl, rfl, rfl⟩ : n + 1 = n_29 ∧ d = d_29 ∧ 0 = th_29 ∧ kA A n v1 v2 v3 v4 = A_29 := by have z := hp; simp only [Prod.mk.injEq] at z; exact ⟨z.1.symm, z.2.1.symm, z.2.2.1.symm, z.2.2.2.symm⟩
          refine lv_iconst (v := 1) hx hb dX3_insert_32 (by decide) ?_
          exact W.zret (v := 1) hx hb hr rfl (fun t9 ht9 hW9 => ⟨⟨_, ((n + 1), d, 0, (kA A n v1 v2 v3 v4)), rfl, Or.inl ⟨⟨h_8, h_15⟩, rfl, rfl⟩, (hM.out ht9 hW9).1⟩, (hM.out ht9 hW9).2⟩) hM.S.2.2 dX3_insert_33
        · exact absurd (show _ from c_18) (by decide)
      · refine lv_if_ne (tgt := 23) hx hb dX3_insert_18 (by decide) (fun c_18 => ?_) (fun c_18 => ?_)
        · exact absurd (show _ from c_18) (by decide)
        · refine lv_iconst (v := 0) hx hb dX3_insert_21 (by decide) ?_
          exact W.zret (v := 0) hx hb hr rfl (fun t9 ht9 hW9 => ⟨⟨_, (n, d, 0, A), rfl, Or.inr ⟨fun z => h_15 z.2, rfl, rfl⟩, (hM.out ht9 hW9).1⟩, (hM.out ht9 hW9).2⟩) hM.S.2.2 dX3_insert_22
  · refine lv_if_eq (tgt := 21) hx hb dX3_insert_11 (by decide) (fun c_11 => ?_) (fun c_11 => ?_)
    · refine lv_iconst (v := 0) hx hb dX3_insert_21 (by decide) ?_
      exact W.zret (v := 0) hx hb hr rfl (fun t9 ht9 hW9 => ⟨⟨_, (n, d, 0, A), rfl, Or.inr ⟨fun z => h_8 z.1, rfl, rfl⟩, (hM.out ht9 hW9).1⟩, (hM.out ht9 hW9).2⟩) hM.S.2.2 dX3_insert_22
    · exact absurd (show _ from c_11) (by decide)
set_option maxHeartbeats 4000000 in
set_option maxRecDepth 100000 in
theorem c_X3_does (l : Launch) {D : va_G} {y : Nat} {a : Nat → Nat} {cI : ClassId} {n d : Nat} {th : Int32} {A : Nat → Nat → Int32} {sz : Nat} (v1 : Int32) (v2 : Int32) (v3 : Int32) (v4 : Int32)  : Met l yX3_does (gws yX3_does cX3_does 5 (some .boolean)) { frames := 2, cells := 0, slots := 0, locals := 46 } (va_Pc [.ref y, .int v1, .int v2, .int v3, .int v4] (fun U => MPre D y a cI n d th A sz U U.heap)) (va_Qi (fun r (u : MS) => ((NewM A n d v1 ∧ (∃ k, k < n ∧ A 0 k = v2) ∧ ¬ v1 ≤ v2 ∧ d < 1024) ∧ r = 1 ∧ u = (n, d + 1, th, dA A d v1 v2 v3 v4)) ∨ ((¬ (NewM A n d v1 ∧ (∃ k, k < n ∧ A 0 k = v2) ∧ ¬ v1 ≤ v2 ∧ d < 1024)) ∧ r = 0 ∧ u = (n, d, th, A))) (MB D y a cI (va_A (wM y a cI n d th A) sz)) (va_A (wM y a cI n d th A) sz)) 0 0 (va_A (wM y a cI n d th A) sz) := by
  refine met_mm (QQ := fun AA => va_Qi (fun r (u : MS) => ((NewM A n d v1 ∧ (∃ k, k < n ∧ A 0 k = v2) ∧ ¬ v1 ≤ v2 ∧ d < 1024) ∧ r = 1 ∧ u = (n, d + 1, th, dA A d v1 v2 v3 v4)) ∨ ((¬ (NewM A n d v1 ∧ (∃ k, k < n ∧ A 0 k = v2) ∧ ¬ v1 ≤ v2 ∧ d < 1024)) ∧ r = 0 ∧ u = (n, d, th, A))) (MB D y a cI AA) AA) (by decide) (Nat.le_of_ble_eq_true rfl) ?_
  intro p e s m below meth c ls AA S hr hlocks hM hl
  obtain ⟨hx, hb, hml, hown, hg⟩ := id S
  have hl : lv_has ls 5 [(0, .ref y), (1, .int v1), (2, .int v2), (3, .int v3), (4, .int v4)] := hl
  have hn := hM.bd
  suffices key9 : ∀ (H : Heap) (locs : List Loc), MM D y a cI n d th A AA s.heap s H locs → W p l e { frames := 2, cells := 0, slots := 0, locals := 46 } s m [.ref y, .int v1, .int v2, .int v3, .int v4].toArray below meth c H locs 0 0 (MQ below ((fun AA : Nat → Prop => va_Qi (fun r (u : MS) => ((NewM A n d v1 ∧ (∃ k, k < n ∧ A 0 k = v2) ∧ ¬ v1 ≤ v2 ∧ d < 1024) ∧ r = 1 ∧ u = (n, d + 1, th, dA A d v1 v2 v3 v4)) ∨ ((¬ (NewM A n d v1 ∧ (∃ k, k < n ∧ A 0 k = v2) ∧ ¬ v1 ≤ v2 ∧ d < 1024)) ∧ r = 0 ∧ u = (n, d, th, A))) (MB D y a cI AA) AA) AA) [.ref y, .int v1, .int v2, .int v3, .int v4].toArray s 0 0 AA) (F0 m 0 ls []) from key9 _ _ hM
  clear hM
  intro H locs hM
  refine lv_aload_n hx hb dX3_does_0 rfl (lv_at hl 0 rfl) ?_
  refine lv_iload_n hx hb dX3_does_1 rfl (lv_at hl 1 rfl) ?_
  refine vp_callSi (va_Run.run (runV (As := [.int v1]) (rest := []) (Bh := RdM D y a n d th A) S (c_X3_isNew l v1) (gw_V wk_405 wk_407 wp_21 wk_4 wk_408) rfl rfl 1 rfl (by decide +kernel) (by decide) ⟨Nat.le_refl _, Nat.le_refl _⟩ (fun _ _ _ h q => RdM.mv h q) hM.recv hM.rd hl.1 (Nat.le_of_ble_eq_true rfl) dX3_does_2)) (fun r hr => ?_)
  rcases hr with ⟨h_2, rfl⟩ | ⟨h_2, rfl⟩
  · refine lv_if_eq (tgt := 31) hx hb dX3_does_5 (by decide) (fun c_5 => ?_) (fun c_5 => ?_)
    · exact absurd (show _ from c_5) (by decide)
    · refine lv_aload_n hx hb dX3_does_8 rfl (lv_at hl 0 rfl) ?_
      refine lv_iload_n hx hb dX3_does_9 rfl (lv_at hl 2 rfl) ?_
      refine vp_callSi (va_Run.run (runV (As := [.int v2]) (rest := []) (Bh := RdM D y a n d th A) S (c_X3_placeOf l v2) (gw_V wk_410 wk_412 wp_22 wk_4 wk_413) rfl rfl 1 rfl (by decide +kernel) (by decide) ⟨Nat.le_refl _, Nat.le_refl _⟩ (fun _ _ _ h q => RdM.mv h q) hM.recv hM.rd hl.1 (Nat.le_of_ble_eq_true rfl) dX3_does_10)) (fun r hr => ?_)
      rcases hr with ⟨k_10, hk_10, he_10, hf_10, rfl⟩ | ⟨hn_10, rfl⟩
      · refine lv_if_lt (tgt := 31) hx hb dX3_does_13 (by decide) (fun c_13 => ?_) (fun c_13 => ?_)
        · exact absurd c_13 (nI_pos (by omega))
        · refine lv_iload_n hx hb dX3_does_16 rfl (lv_at hl 1 rfl) ?_
          refine lv_iload_n hx hb dX3_does_17 rfl (lv_at hl 2 rfl) ?_
          refine lv_icmp_le (tgt := 31) hx hb dX3_does_18 (by decide) (fun c_18 => ?_) (fun c_18 => ?_)
          · refine lv_iconst (v := 0) hx hb dX3_does_31 (by decide) ?_
            exact W.zret (v := 0) hx hb hr rfl (fun t9 ht9 hW9 => ⟨⟨_, (n, d, th, A), rfl, Or.inr ⟨fun z => z.2.2.1 c_18, rfl, rfl⟩, (hM.out ht9 hW9).1⟩, (hM.out ht9 hW9).2⟩) hM.S.2.2 dX3_does_32
          · refine lv_aload_n hx hb dX3_does_21 rfl (lv_at hl 0 rfl) ?_
            refine rM_done S hM.rd dX3_does_22 ?_
            refine lv_sipush (v := nI 1024) hx hb dX3_does_25 (by decide) ?_
            refine lv_icmp_ne (tgt := 33) hx hb dX3_does_28 (by decide) (fun c_28 => ?_) (fun c_28 => ?_)
            · rw [nI_eq (by omega) (by omega)] at c_28
              refine lv_aload_n hx hb dX3_does_33 rfl (lv_at hl 0 rfl) ?_
              refine rM_doneIds S hM.rd dX3_does_34 ?_
              refine lv_aload_n hx hb dX3_does_37 rfl (lv_at hl 0 rfl) ?_
              refine rM_done S hM.rd dX3_does_38 ?_
              refine lv_iload_n hx hb dX3_does_41 rfl (lv_at hl 1 rfl) ?_
              refine mw_ast4 (k := d) S hM (by omega) dX3_does_42 (fun H locs A_42 hA_42 hM => ?_)
              refine lv_aload_n hx hb dX3_does_43 rfl (lv_at hl 0 rfl) ?_
              refine rM_doneOf S hM.rd dX3_does_44 ?_
              refine lv_aload_n hx hb dX3_does_47 rfl (lv_at hl 0 rfl) ?_
              refine rM_done S hM.rd dX3_does_48 ?_
              refine lv_iload_n hx hb dX3_does_51 rfl (lv_at hl 2 rfl) ?_
              refine mw_ast5 (k := d) S hM (by omega) dX3_does_52 (fun H locs A_52 hA_52 hM => ?_)
              refine lv_aload_n hx hb dX3_does_53 rfl (lv_at hl 0 rfl) ?_
              refine rM_doneKinds S hM.rd dX3_does_54 ?_
              refine lv_aload_n hx hb dX3_does_57 rfl (lv_at hl 0 rfl) ?_
              refine rM_done S hM.rd dX3_does_58 ?_
              refine lv_iload_n hx hb dX3_does_61 rfl (lv_at hl 3 rfl) ?_
              refine mw_ast6 (k := d) S hM (by omega) dX3_does_62 (fun H locs A_62 hA_62 hM => ?_)
              refine lv_aload_n hx hb dX3_does_63 rfl (lv_at hl 0 rfl) ?_
              refine rM_doneValues S hM.rd dX3_does_64 ?_
              refine lv_aload_n hx hb dX3_does_67 rfl (lv_at hl 0 rfl) ?_
              refine rM_done S hM.rd dX3_does_68 ?_
              refine lv_iload hx hb dX3_does_71 (lv_at hl 4 rfl) ?_
              refine mw_ast7 (k := d) S hM (by omega) dX3_does_73 (fun H locs A_73 hA_73 hM => ?_)
              refine lv_aload_n hx hb dX3_does_74 rfl (lv_at hl 0 rfl) ?_
              refine lv_dup hx hb dX3_does_75 rfl ?_
              refine rM_done S hM.rd dX3_does_76 ?_
              refine lv_iconst (v := nI 1) hx hb dX3_does_79 (by decide) ?_
              refine lv_iadd hx hb dX3_does_80 ?_
              rw [nI_add]
              refine mw_done (v := (d + 1)) S hM (by omega) dX3_does_81 (fun H locs hM => ?_)
              refine lv_iconst (v := 1) hx hb dX3_does_84 (by decide) ?_
              exact W.zret (v := 1) hx hb hr rfl (fun t9 ht9 hW9 => ⟨⟨_, (n, (d + 1), th, A_73), rfl, Or.inl ⟨⟨h_2, ⟨k_10, hk_10, he_10⟩, c_18, by omega⟩, rfl, by rw [hA_73, hA_62, hA_52, hA_42]; rfl⟩, (hM.out ht9 hW9).1⟩, (hM.out ht9 hW9).2⟩) hM.S.2.2 dX3_does_85
            · rw [nI_eq (by omega) (by omega)] at c_28
              refine lv_iconst (v := 0) hx hb dX3_does_31 (by decide) ?_
              exact W.zret (v := 0) hx hb hr rfl (fun t9 ht9 hW9 => ⟨⟨_, (n, d, th, A), rfl, Or.inr ⟨fun z => absurd z.2.2.2 (by omega), rfl, rfl⟩, (hM.out ht9 hW9).1⟩, (hM.out ht9 hW9).2⟩) hM.S.2.2 dX3_does_32
      · refine lv_if_lt (tgt := 31) hx hb dX3_does_13 (by decide) (fun c_13 => ?_) (fun c_13 => ?_)
        · refine lv_iconst (v := 0) hx hb dX3_does_31 (by decide) ?_
          exact W.zret (v := 0) hx hb hr rfl (fun t9 ht9 hW9 => ⟨⟨_, (n, d, th, A), rfl, Or.inr ⟨fun ⟨_, ⟨k, h1, h2⟩, _⟩ => hn_10 k h1 h2, rfl, rfl⟩, (hM.out ht9 hW9).1⟩, (hM.out ht9 hW9).2⟩) hM.S.2.2 dX3_does_32
        · exact absurd (show _ from c_13) (by decide)
  · refine lv_if_eq (tgt := 31) hx hb dX3_does_5 (by decide) (fun c_5 => ?_) (fun c_5 => ?_)
    · refine lv_iconst (v := 0) hx hb dX3_does_31 (by decide) ?_
      exact W.zret (v := 0) hx hb hr rfl (fun t9 ht9 hW9 => ⟨⟨_, (n, d, th, A), rfl, Or.inr ⟨fun z => h_2 z.1, rfl, rfl⟩, (hM.out ht9 hW9).1⟩, (hM.out ht9 hW9).2⟩) hM.S.2.2 dX3_does_32
    · exact absurd (show _ from c_5) (by decide)
set_option maxHeartbeats 4000000 in
set_option maxRecDepth 100000 in
theorem c_X3_set (l : Launch) {D : va_G} {y : Nat} {a : Nat → Nat} {cI : ClassId} {n d : Nat} {th : Int32} {A : Nat → Nat → Int32} {sz : Nat} (v1 : Int32) (v2 : Int32) (v3 : Int32) (v4 : Int32)  : Met l yX3_set (gws yX3_set cX3_set 5 (some .boolean)) { frames := 3, cells := 0, slots := 0, locals := 70 } (va_Pc [.ref y, .int v1, .int v2, .int v3, .int v4] (fun U => MPre D y a cI n d th A sz U U.heap)) (va_Qi (fun r (u : MS) => (((¬ v3 < 0 ∧ ¬ 6 < v3) ∧ (NewM A n d v1 ∧ (∃ k, k < n ∧ A 0 k = v2) ∧ ¬ v1 ≤ v2 ∧ d < 1024)) ∧ r = 1 ∧ u = (n, d + 1, 0, dA A d v1 v2 v3 v4)) ∨ ((¬ ((¬ v3 < 0 ∧ ¬ 6 < v3) ∧ (NewM A n d v1 ∧ (∃ k, k < n ∧ A 0 k = v2) ∧ ¬ v1 ≤ v2 ∧ d < 1024))) ∧ r = 0 ∧ u = (n, d, 0, A))) (MB D y a cI (va_A (wM y a cI n d th A) sz)) (va_A (wM y a cI n d th A) sz)) 0 0 (va_A (wM y a cI n d th A) sz) := by
  refine met_mm (QQ := fun AA => va_Qi (fun r (u : MS) => (((¬ v3 < 0 ∧ ¬ 6 < v3) ∧ (NewM A n d v1 ∧ (∃ k, k < n ∧ A 0 k = v2) ∧ ¬ v1 ≤ v2 ∧ d < 1024)) ∧ r = 1 ∧ u = (n, d + 1, 0, dA A d v1 v2 v3 v4)) ∨ ((¬ ((¬ v3 < 0 ∧ ¬ 6 < v3) ∧ (NewM A n d v1 ∧ (∃ k, k < n ∧ A 0 k = v2) ∧ ¬ v1 ≤ v2 ∧ d < 1024))) ∧ r = 0 ∧ u = (n, d, 0, A))) (MB D y a cI AA) AA) (by decide) (Nat.le_of_ble_eq_true rfl) ?_
  intro p e s m below meth c ls AA S hr hlocks hM hl
  obtain ⟨hx, hb, hml, hown, hg⟩ := id S
  have hl : lv_has ls 5 [(0, .ref y), (1, .int v1), (2, .int v2), (3, .int v3), (4, .int v4)] := hl
  have hn := hM.bd
  suffices key9 : ∀ (H : Heap) (locs : List Loc), MM D y a cI n d th A AA s.heap s H locs → W p l e { frames := 3, cells := 0, slots := 0, locals := 70 } s m [.ref y, .int v1, .int v2, .int v3, .int v4].toArray below meth c H locs 0 0 (MQ below ((fun AA : Nat → Prop => va_Qi (fun r (u : MS) => (((¬ v3 < 0 ∧ ¬ 6 < v3) ∧ (NewM A n d v1 ∧ (∃ k, k < n ∧ A 0 k = v2) ∧ ¬ v1 ≤ v2 ∧ d < 1024)) ∧ r = 1 ∧ u = (n, d + 1, 0, dA A d v1 v2 v3 v4)) ∨ ((¬ ((¬ v3 < 0 ∧ ¬ 6 < v3) ∧ (NewM A n d v1 ∧ (∃ k, k < n ∧ A 0 k = v2) ∧ ¬ v1 ≤ v2 ∧ d < 1024))) ∧ r = 0 ∧ u = (n, d, 0, A))) (MB D y a cI AA) AA) AA) [.ref y, .int v1, .int v2, .int v3, .int v4].toArray s 0 0 AA) (F0 m 0 ls []) from key9 _ _ hM
  clear hM
  intro H locs hM
  refine lv_aload_n hx hb dX3_set_0 rfl (lv_at hl 0 rfl) ?_
  refine lv_iconst (v := 0) hx hb dX3_set_1 (by decide) ?_
  refine mw_thrown S hM dX3_set_2 (fun H locs hM => ?_)
  refine lv_iload_n hx hb dX3_set_5 rfl (lv_at hl 3 rfl) ?_
  refine vp_callSi (va_Run.run (runS (As := [.int v3]) (rest := []) (Bh := (fun _ _ => True)) S (c_X3_isKind l v3) (gw_S wk_414 wk_415 wk_4 wk_416) rfl rfl 1 rfl (by decide +kernel) (by decide) ⟨Nat.le_refl _, Nat.le_refl _⟩ (fun _ _ _ _ _ => trivial) trivial hl.1 (Nat.le_of_ble_eq_true rfl) dX3_set_6)) (fun r hr => ?_)
  rcases hr with ⟨h_6, rfl⟩ | ⟨h_6, rfl⟩
  · refine lv_if_eq (tgt := 28) hx hb dX3_set_9 (by decide) (fun c_9 => ?_) (fun c_9 => ?_)
    · exact absurd (show _ from c_9) (by decide)
    · refine lv_aload_n hx hb dX3_set_12 rfl (lv_at hl 0 rfl) ?_
      refine lv_iload_n hx hb dX3_set_13 rfl (lv_at hl 1 rfl) ?_
      refine lv_iload_n hx hb dX3_set_14 rfl (lv_at hl 2 rfl) ?_
      refine lv_iload_n hx hb dX3_set_15 rfl (lv_at hl 3 rfl) ?_
      refine lv_iload hx hb dX3_set_16 (lv_at hl 4 rfl) ?_
      refine va_calli (runV (As := [.int v1, .int v2, .int v3, .int v4]) (rest := []) (Bh := MPre D y a cI n d 0 A H.size) S (c_X3_does l v1 v2 v3 v4) (gw_V wk_430 wk_432 wp_24 wk_4 wk_433) rfl rfl 4 rfl (by decide +kernel) (by decide) ⟨Nat.le_refl _, Nat.le_refl _⟩ (fun _ _ _ h q => MPre.mv h q) hM.recv hM.pre hl.1 (Nat.le_of_ble_eq_true rfl) dX3_set_18) hM.S (fun q _ h => hM.free q h) hM.free (fun r_18 u8 t8 H1 locs1 ht8 hvm8 hp hB8 hz8 hk8 hS8 => ?_)
      obtain ⟨n_18, d_18, th_18, A_18⟩ := u8
      have hM := hM.back ht8 hB8 hS8
      generalize H1 = H at hM ⊢
      generalize locs1 = locs at hM ⊢
      dsimp only at hp hM
      rcases hp with ⟨h_18, rfl, hu⟩ | ⟨h_18, rfl, hu⟩
      · obtain ⟨rfl, rfl, rfl, rfl⟩ : n = n_18 ∧ d + 1 = d_18 ∧ 0 = th_18 ∧ dA A d v1 v2 v3 v4 = A_18 := by have z := hu; simp only [Prod.mk.injEq] at z; exact ⟨z.1.symm, z.2.1.symm, z.2.2.1.symm, z.2.2.2.symm⟩
        refine lv_if_eq (tgt := 28) hx hb dX3_set_21 (by decide) (fun c_21 => ?_) (fun c_21 => ?_)
        · exact absurd (show _ from c_21) (by decide)
        · refine lv_iconst (v := 1) hx hb dX3_set_24 (by decide) ?_
          refine lv_goto (tgt := 29) hx hb dX3_set_25 (by decide) ?_
          exact W.zret (v := 1) hx hb hr rfl (fun t9 ht9 hW9 => ⟨⟨_, (n, (d + 1), 0, (dA A d v1 v2 v3 v4)), rfl, Or.inl ⟨⟨h_6, h_18⟩, rfl, rfl⟩, (hM.out ht9 hW9).1⟩, (hM.out ht9 hW9).2⟩) hM.S.2.2 dX3_set_29
      · obtain ⟨rfl, rfl, rfl, rfl⟩ : n = n_18 ∧ d = d_18 ∧ 0 = th_18 ∧ A = A_18 := by have z := hu; simp only [Prod.mk.injEq] at z; exact ⟨z.1.symm, z.2.1.symm, z.2.2.1.symm, z.2.2.2.symm⟩
        refine lv_if_eq (tgt := 28) hx hb dX3_set_21 (by decide) (fun c_21 => ?_) (fun c_21 => ?_)
        · refine lv_iconst (v := 0) hx hb dX3_set_28 (by decide) ?_
          exact W.zret (v := 0) hx hb hr rfl (fun t9 ht9 hW9 => ⟨⟨_, (n, d, 0, A), rfl, Or.inr ⟨fun z => h_18 z.2, rfl, rfl⟩, (hM.out ht9 hW9).1⟩, (hM.out ht9 hW9).2⟩) hM.S.2.2 dX3_set_29
        · exact absurd (show _ from c_21) (by decide)
  · refine lv_if_eq (tgt := 28) hx hb dX3_set_9 (by decide) (fun c_9 => ?_) (fun c_9 => ?_)
    · refine lv_iconst (v := 0) hx hb dX3_set_28 (by decide) ?_
      exact W.zret (v := 0) hx hb hr rfl (fun t9 ht9 hW9 => ⟨⟨_, (n, d, 0, A), rfl, Or.inr ⟨fun z => h_6 z.1, rfl, rfl⟩, (hM.out ht9 hW9).1⟩, (hM.out ht9 hW9).2⟩) hM.S.2.2 dX3_set_29
    · exact absurd (show _ from c_9) (by decide)
set_option maxHeartbeats 4000000 in
set_option maxRecDepth 100000 in
theorem c_X3_remove (l : Launch) {D : va_G} {y : Nat} {a : Nat → Nat} {cI : ClassId} {n d : Nat} {th : Int32} {A : Nat → Nat → Int32} {sz : Nat} (v1 : Int32) (v2 : Int32)  : Met l yX3_remove (gws yX3_remove cX3_remove 3 (some .boolean)) { frames := 3, cells := 0, slots := 0, locals := 70 } (va_Pc [.ref y, .int v1, .int v2] (fun U => MPre D y a cI n d th A sz U U.heap)) (va_Qi (fun r (u : MS) => ((NewM A n d v1 ∧ (∃ k, k < n ∧ A 0 k = v2) ∧ ¬ v1 ≤ v2 ∧ d < 1024) ∧ r = 1 ∧ u = (n, d + 1, 0, dA A d v1 v2 (-1) 0)) ∨ ((¬ (NewM A n d v1 ∧ (∃ k, k < n ∧ A 0 k = v2) ∧ ¬ v1 ≤ v2 ∧ d < 1024)) ∧ r = 0 ∧ u = (n, d, 0, A))) (MB D y a cI (va_A (wM y a cI n d th A) sz)) (va_A (wM y a cI n d th A) sz)) 0 0 (va_A (wM y a cI n d th A) sz) := by
  refine met_mm (QQ := fun AA => va_Qi (fun r (u : MS) => ((NewM A n d v1 ∧ (∃ k, k < n ∧ A 0 k = v2) ∧ ¬ v1 ≤ v2 ∧ d < 1024) ∧ r = 1 ∧ u = (n, d + 1, 0, dA A d v1 v2 (-1) 0)) ∨ ((¬ (NewM A n d v1 ∧ (∃ k, k < n ∧ A 0 k = v2) ∧ ¬ v1 ≤ v2 ∧ d < 1024)) ∧ r = 0 ∧ u = (n, d, 0, A))) (MB D y a cI AA) AA) (by decide) (Nat.le_of_ble_eq_true rfl) ?_
  intro p e s m below meth c ls AA S hr hlocks hM hl
  obtain ⟨hx, hb, hml, hown, hg⟩ := id S
  have hl : lv_has ls 3 [(0, .ref y), (1, .int v1), (2, .int v2)] := hl
  have hn := hM.bd
  suffices key9 : ∀ (H : Heap) (locs : List Loc), MM D y a cI n d th A AA s.heap s H locs → W p l e { frames := 3, cells := 0, slots := 0, locals := 70 } s m [.ref y, .int v1, .int v2].toArray below meth c H locs 0 0 (MQ below ((fun AA : Nat → Prop => va_Qi (fun r (u : MS) => ((NewM A n d v1 ∧ (∃ k, k < n ∧ A 0 k = v2) ∧ ¬ v1 ≤ v2 ∧ d < 1024) ∧ r = 1 ∧ u = (n, d + 1, 0, dA A d v1 v2 (-1) 0)) ∨ ((¬ (NewM A n d v1 ∧ (∃ k, k < n ∧ A 0 k = v2) ∧ ¬ v1 ≤ v2 ∧ d < 1024)) ∧ r = 0 ∧ u = (n, d, 0, A))) (MB D y a cI AA) AA) AA) [.ref y, .int v1, .int v2].toArray s 0 0 AA) (F0 m 0 ls []) from key9 _ _ hM
  clear hM
  intro H locs hM
  refine lv_aload_n hx hb dX3_remove_0 rfl (lv_at hl 0 rfl) ?_
  refine lv_iconst (v := 0) hx hb dX3_remove_1 (by decide) ?_
  refine mw_thrown S hM dX3_remove_2 (fun H locs hM => ?_)
  refine lv_aload_n hx hb dX3_remove_5 rfl (lv_at hl 0 rfl) ?_
  refine lv_iload_n hx hb dX3_remove_6 rfl (lv_at hl 1 rfl) ?_
  refine lv_iload_n hx hb dX3_remove_7 rfl (lv_at hl 2 rfl) ?_
  refine lv_iconst (v := (-1)) hx hb dX3_remove_8 (by decide) ?_
  refine lv_iconst (v := 0) hx hb dX3_remove_9 (by decide) ?_
  refine va_calli (runV (As := [.int v1, .int v2, .int (-1), .int 0]) (rest := []) (Bh := MPre D y a cI n d 0 A H.size) S (c_X3_does l v1 v2 (-1) 0) (gw_V wk_430 wk_432 wp_24 wk_4 wk_433) rfl rfl 4 rfl (by decide +kernel) (by decide) ⟨Nat.le_refl _, Nat.le_refl _⟩ (fun _ _ _ h q => MPre.mv h q) hM.recv hM.pre hl.1 (Nat.le_of_ble_eq_true rfl) dX3_remove_10) hM.S (fun q _ h => hM.free q h) hM.free (fun r_10 u8 t8 H1 locs1 ht8 hvm8 hp hB8 hz8 hk8 hS8 => ?_)
  obtain ⟨n_10, d_10, th_10, A_10⟩ := u8
  have hM := hM.back ht8 hB8 hS8
  generalize H1 = H at hM ⊢
  generalize locs1 = locs at hM ⊢
  dsimp only at hp hM
  rcases hp with ⟨h_10, rfl, hu⟩ | ⟨h_10, rfl, hu⟩
  · obtain ⟨rfl, rfl, rfl, rfl⟩ : n = n_10 ∧ d + 1 = d_10 ∧ 0 = th_10 ∧ dA A d v1 v2 (-1) 0 = A_10 := by have z := hu; simp only [Prod.mk.injEq] at z; exact ⟨z.1.symm, z.2.1.symm, z.2.2.1.symm, z.2.2.2.symm⟩
    exact W.zret (v := 1) hx hb hr rfl (fun t9 ht9 hW9 => ⟨⟨_, (n, (d + 1), 0, (dA A d v1 v2 (-1) 0)), rfl, Or.inl ⟨h_10, rfl, rfl⟩, (hM.out ht9 hW9).1⟩, (hM.out ht9 hW9).2⟩) hM.S.2.2 dX3_remove_13
  · obtain ⟨rfl, rfl, rfl, rfl⟩ : n = n_10 ∧ d = d_10 ∧ 0 = th_10 ∧ A = A_10 := by have z := hu; simp only [Prod.mk.injEq] at z; exact ⟨z.1.symm, z.2.1.symm, z.2.2.1.symm, z.2.2.2.symm⟩
    exact W.zret (v := 0) hx hb hr rfl (fun t9 ht9 hW9 => ⟨⟨_, (n, d, 0, A), rfl, Or.inr ⟨h_10, rfl, rfl⟩, (hM.out ht9 hW9).1⟩, (hM.out ht9 hW9).2⟩) hM.S.2.2 dX3_remove_13
set_option maxHeartbeats 4000000 in
set_option maxRecDepth 100000 in
theorem c_X3_size (l : Launch) {D : va_G} {y : Nat} {a : Nat → Nat} {cI : ClassId} {n d : Nat} {th : Int32} {A : Nat → Nat → Int32} {sz : Nat}   : Met l yX3_size (gws yX3_size cX3_size 1 (some .int)) { frames := 2, cells := 0, slots := 0, locals := 45 } (va_Pc [.ref y] (fun U => MPre D y a cI n d th A sz U U.heap)) (va_Qi (fun r (u : MS) => r = nI (cntB (fun k => !remB A (A 0 k) d) n) ∧ u = (n, d, 0, A)) (MB D y a cI (va_A (wM y a cI n d th A) sz)) (va_A (wM y a cI n d th A) sz)) 0 0 (va_A (wM y a cI n d th A) sz) := by
  refine met_mm (QQ := fun AA => va_Qi (fun r (u : MS) => r = nI (cntB (fun k => !remB A (A 0 k) d) n) ∧ u = (n, d, 0, A)) (MB D y a cI AA) AA) (by decide) (Nat.le_of_ble_eq_true rfl) ?_
  intro p e s m below meth c ls AA S hr hlocks hM hl
  obtain ⟨hx, hb, hml, hown, hg⟩ := id S
  have hl : lv_has ls 1 [(0, .ref y)] := hl
  have hn := hM.bd
  suffices key9 : ∀ (H : Heap) (locs : List Loc), MM D y a cI n d th A AA s.heap s H locs → W p l e { frames := 2, cells := 0, slots := 0, locals := 45 } s m [.ref y].toArray below meth c H locs 0 0 (MQ below ((fun AA : Nat → Prop => va_Qi (fun r (u : MS) => r = nI (cntB (fun k => !remB A (A 0 k) d) n) ∧ u = (n, d, 0, A)) (MB D y a cI AA) AA) AA) [.ref y].toArray s 0 0 AA) (F0 m 0 ls []) from key9 _ _ hM
  clear hM
  intro H locs hM
  refine lv_aload_n hx hb dX3_size_0 rfl (lv_at hl 0 rfl) ?_
  refine lv_iconst (v := 0) hx hb dX3_size_1 (by decide) ?_
  refine mw_thrown S hM dX3_size_2 (fun H locs hM => ?_)
  refine lv_aload_n hx hb dX3_size_5 rfl (lv_at hl 0 rfl) ?_
  refine vp_callSi (va_Run.run (runV (As := []) (rest := []) (Bh := RdM D y a n d 0 A) S (c_X3_sizeOf l ) (gw_V wk_442 wk_444 wp_25 wk_4 wk_445) rfl rfl 0 rfl (by decide +kernel) (by decide) ⟨Nat.le_refl _, Nat.le_refl _⟩ (fun _ _ _ h q => RdM.mv h q) hM.recv hM.rd hl.1 (Nat.le_of_ble_eq_true rfl) dX3_size_6)) (fun r_6 hr_6 => ?_)
  subst hr_6
  exact W.iret (v := (nI (cntB (fun k => !remB A (A 0 k) d) n))) hx hb hr (fun t9 ht9 hW9 => ⟨⟨_, (n, d, 0, A), rfl, ⟨rfl, rfl⟩, (hM.out ht9 hW9).1⟩, (hM.out ht9 hW9).2⟩) hM.S.2.2 dX3_size_9
set_option maxHeartbeats 4000000 in
set_option maxRecDepth 100000 in
theorem c_X3_look (l : Launch) {D : va_G} {y : Nat} {a : Nat → Nat} {cI : ClassId} {n d : Nat} {th : Int32} {A : Nat → Nat → Int32} {sz : Nat} (v1 : Int32) (dep : Int32 → Nat) (hdep : Dep A n dep) : Met l yX3_look (gws yX3_look cX3_look 2 (some .int)) { frames := 2, cells := 0, slots := 0, locals := 47 } (va_Pc [.ref y, .int v1] (fun U => MPre D y a cI n d th A sz U U.heap)) (va_Qi (fun r (u : MS) => ((v1 = 0 ∧ r = nI n) ∨ (v1 = 1 ∧ r = nI (cntB (fun k => !remB A (A 0 k) d) n)) ∨ (v1 = 2 ∧ r = nI d) ∨ (v1 = 3 ∧ r = mxf (A 4) (mxf (A 0) (-1) n) d) ∨ (v1 = 4 ∧ r = mxw (fun k => nI (dep (A 0 k))) n) ∨ (¬ v1 = 0 ∧ ¬ v1 = 1 ∧ ¬ v1 = 2 ∧ ¬ v1 = 3 ∧ ¬ v1 = 4 ∧ r = -1)) ∧ u = (n, d, 0, A)) (MB D y a cI (va_A (wM y a cI n d th A) sz)) (va_A (wM y a cI n d th A) sz)) 0 0 (va_A (wM y a cI n d th A) sz) := by
  refine met_mm (QQ := fun AA => va_Qi (fun r (u : MS) => ((v1 = 0 ∧ r = nI n) ∨ (v1 = 1 ∧ r = nI (cntB (fun k => !remB A (A 0 k) d) n)) ∨ (v1 = 2 ∧ r = nI d) ∨ (v1 = 3 ∧ r = mxf (A 4) (mxf (A 0) (-1) n) d) ∨ (v1 = 4 ∧ r = mxw (fun k => nI (dep (A 0 k))) n) ∨ (¬ v1 = 0 ∧ ¬ v1 = 1 ∧ ¬ v1 = 2 ∧ ¬ v1 = 3 ∧ ¬ v1 = 4 ∧ r = -1)) ∧ u = (n, d, 0, A)) (MB D y a cI AA) AA) (by decide) (Nat.le_of_ble_eq_true rfl) ?_
  intro p e s m below meth c ls AA S hr hlocks hM hl
  obtain ⟨hx, hb, hml, hown, hg⟩ := id S
  have hl : lv_has ls 2 [(0, .ref y), (1, .int v1)] := hl
  have hn := hM.bd
  suffices key9 : ∀ (H : Heap) (locs : List Loc), MM D y a cI n d th A AA s.heap s H locs → W p l e { frames := 2, cells := 0, slots := 0, locals := 47 } s m [.ref y, .int v1].toArray below meth c H locs 0 0 (MQ below ((fun AA : Nat → Prop => va_Qi (fun r (u : MS) => ((v1 = 0 ∧ r = nI n) ∨ (v1 = 1 ∧ r = nI (cntB (fun k => !remB A (A 0 k) d) n)) ∨ (v1 = 2 ∧ r = nI d) ∨ (v1 = 3 ∧ r = mxf (A 4) (mxf (A 0) (-1) n) d) ∨ (v1 = 4 ∧ r = mxw (fun k => nI (dep (A 0 k))) n) ∨ (¬ v1 = 0 ∧ ¬ v1 = 1 ∧ ¬ v1 = 2 ∧ ¬ v1 = 3 ∧ ¬ v1 = 4 ∧ r = -1)) ∧ u = (n, d, 0, A)) (MB D y a cI AA) AA) AA) [.ref y, .int v1].toArray s 0 0 AA) (F0 m 0 ls []) from key9 _ _ hM
  clear hM
  intro H locs hM
  refine lv_aload_n hx hb dX3_look_0 rfl (lv_at hl 0 rfl) ?_
  refine lv_iconst (v := 0) hx hb dX3_look_1 (by decide) ?_
  refine mw_thrown S hM dX3_look_2 (fun H locs hM => ?_)
  refine lv_iload_n hx hb dX3_look_5 rfl (lv_at hl 1 rfl) ?_
  refine lv_if_ne (tgt := 16) hx hb dX3_look_6 (by decide) (fun c_6 => ?_) (fun c_6 => ?_)
  · refine lv_iload_n hx hb dX3_look_16 rfl (lv_at hl 1 rfl) ?_
    refine lv_iconst (v := 1) hx hb dX3_look_17 (by decide) ?_
    refine lv_icmp_ne (tgt := 28) hx hb dX3_look_18 (by decide) (fun c_18 => ?_) (fun c_18 => ?_)
    · refine lv_iload_n hx hb dX3_look_28 rfl (lv_at hl 1 rfl) ?_
      refine lv_iconst (v := 2) hx hb dX3_look_29 (by decide) ?_
      refine lv_icmp_ne (tgt := 40) hx hb dX3_look_30 (by decide) (fun c_30 => ?_) (fun c_30 => ?_)
      · refine lv_iload_n hx hb dX3_look_40 rfl (lv_at hl 1 rfl) ?_
        refine lv_iconst (v := 3) hx hb dX3_look_41 (by decide) ?_
        refine lv_icmp_ne (tgt := 52) hx hb dX3_look_42 (by decide) (fun c_42 => ?_) (fun c_42 => ?_)
        · refine lv_iload_n hx hb dX3_look_52 rfl (lv_at hl 1 rfl) ?_
          refine lv_iconst (v := 4) hx hb dX3_look_53 (by decide) ?_
          refine lv_icmp_ne (tgt := 64) hx hb dX3_look_54 (by decide) (fun c_54 => ?_) (fun c_54 => ?_)
          · refine lv_iconst (v := (-1)) hx hb dX3_look_64 (by decide) ?_
            exact W.iret (v := (-1)) hx hb hr (fun t9 ht9 hW9 => ⟨⟨_, (n, d, 0, A), rfl, ⟨Or.inr (Or.inr (Or.inr (Or.inr (Or.inr (⟨c_6, c_18, c_30, c_42, c_54, rfl⟩))))), rfl⟩, (hM.out ht9 hW9).1⟩, (hM.out ht9 hW9).2⟩) hM.S.2.2 dX3_look_65
          · refine lv_aload_n hx hb dX3_look_57 rfl (lv_at hl 0 rfl) ?_
            refine vp_callSi (va_Run.run (runV (As := []) (rest := []) (Bh := RdM D y a n d 0 A) S (c_X3_deepest l dep hdep) (gw_V wk_526 wk_528 wp_38 wk_4 wk_529) rfl rfl 0 rfl (by decide +kernel) (by decide) ⟨Nat.le_refl _, Nat.le_refl _⟩ (fun _ _ _ h q => RdM.mv h q) hM.recv hM.rd hl.1 (Nat.le_of_ble_eq_true rfl) dX3_look_58)) (fun r_58 hr_58 => ?_)
            subst hr_58
            refine lv_goto (tgt := 65) hx hb dX3_look_61 (by decide) ?_
            exact W.iret (v := (mxw (fun k => nI (dep (A 0 k))) n)) hx hb hr (fun t9 ht9 hW9 => ⟨⟨_, (n, d, 0, A), rfl, ⟨Or.inr (Or.inr (Or.inr (Or.inr (Or.inl (⟨c_54, rfl⟩))))), rfl⟩, (hM.out ht9 hW9).1⟩, (hM.out ht9 hW9).2⟩) hM.S.2.2 dX3_look_65
        · refine lv_aload_n hx hb dX3_look_45 rfl (lv_at hl 0 rfl) ?_
          refine vp_callSi (va_Run.run (runV (As := []) (rest := []) (Bh := RdM D y a n d 0 A) S (c_X3_greatest l ) (gw_V wk_522 wk_524 wp_37 wk_4 wk_525) rfl rfl 0 rfl (by decide +kernel) (by decide) ⟨Nat.le_refl _, Nat.le_refl _⟩ (fun _ _ _ h q => RdM.mv h q) hM.recv hM.rd hl.1 (Nat.le_of_ble_eq_true rfl) dX3_look_46)) (fun r_46 hr_46 => ?_)
          subst hr_46
          refine lv_goto (tgt := 65) hx hb dX3_look_49 (by decide) ?_
          exact W.iret (v := (mxf (A 4) (mxf (A 0) (-1) n) d)) hx hb hr (fun t9 ht9 hW9 => ⟨⟨_, (n, d, 0, A), rfl, ⟨Or.inr (Or.inr (Or.inr (Or.inl (⟨c_42, rfl⟩)))), rfl⟩, (hM.out ht9 hW9).1⟩, (hM.out ht9 hW9).2⟩) hM.S.2.2 dX3_look_65
      · refine lv_aload_n hx hb dX3_look_33 rfl (lv_at hl 0 rfl) ?_
        refine rM_done S hM.rd dX3_look_34 ?_
        refine lv_goto (tgt := 65) hx hb dX3_look_37 (by decide) ?_
        exact W.iret (v := (nI d)) hx hb hr (fun t9 ht9 hW9 => ⟨⟨_, (n, d, 0, A), rfl, ⟨Or.inr (Or.inr (Or.inl (⟨c_30, rfl⟩))), rfl⟩, (hM.out ht9 hW9).1⟩, (hM.out ht9 hW9).2⟩) hM.S.2.2 dX3_look_65
    · refine lv_aload_n hx hb dX3_look_21 rfl (lv_at hl 0 rfl) ?_
      refine vp_callSi (va_Run.run (runV (As := []) (rest := []) (Bh := RdM D y a n d 0 A) S (c_X3_sizeOf l ) (gw_V wk_442 wk_444 wp_25 wk_4 wk_445) rfl rfl 0 rfl (by decide +kernel) (by decide) ⟨Nat.le_refl _, Nat.le_refl _⟩ (fun _ _ _ h q => RdM.mv h q) hM.recv hM.rd hl.1 (Nat.le_of_ble_eq_true rfl) dX3_look_22)) (fun r_22 hr_22 => ?_)
      subst hr_22
      refine lv_goto (tgt := 65) hx hb dX3_look_25 (by decide) ?_
      exact W.iret (v := (nI (cntB (fun k => !remB A (A 0 k) d) n))) hx hb hr (fun t9 ht9 hW9 => ⟨⟨_, (n, d, 0, A), rfl, ⟨Or.inr (Or.inl (⟨c_18, rfl⟩)), rfl⟩, (hM.out ht9 hW9).1⟩, (hM.out ht9 hW9).2⟩) hM.S.2.2 dX3_look_65
  · refine lv_aload_n hx hb dX3_look_9 rfl (lv_at hl 0 rfl) ?_
    refine rM_many S hM.rd dX3_look_10 ?_
    refine lv_goto (tgt := 65) hx hb dX3_look_13 (by decide) ?_
    exact W.iret (v := (nI n)) hx hb hr (fun t9 ht9 hW9 => ⟨⟨_, (n, d, 0, A), rfl, ⟨Or.inl (⟨c_6, rfl⟩), rfl⟩, (hM.out ht9 hW9).1⟩, (hM.out ht9 hW9).2⟩) hM.S.2.2 dX3_look_65
set_option maxHeartbeats 4000000 in
set_option maxRecDepth 100000 in
theorem c_X3_thrown (l : Launch) {D : va_G} {y : Nat} {a : Nat → Nat} {n d : Nat} {th : Int32} {A : Nat → Nat → Int32}   : Met l yX3_thrown (gws yX3_thrown cX3_thrown 1 (some .int)) { frames := 0, cells := 0, slots := 0, locals := 0 } (va_Pc [.ref y] (fun U => RdM D y a n d th A U U.heap)) (vp_Si (fun r => r = th)) 0 0 (fun _ => False) := by
  refine met_go (by decide) (Nat.le_of_ble_eq_true rfl) ?_
  intro p e s m below meth c ls S hr hlocks hnm hM hl
  obtain ⟨hx, hb, hml, hown, hg⟩ := id S
  have hl : lv_has ls 1 [(0, .ref y)] := hl
  have hn := hM.n
  refine lv_aload_n hx hb dX3_thrown_0 rfl (lv_at hl 0 rfl) ?_
  refine rM_thrown S hM dX3_thrown_1 ?_
  exact W.iret (v := th) hx hb hr (fun t9 ht9 _ => ⟨_, rfl, rfl, ht9⟩) (fun _ h => nomatch h) dX3_thrown_4
end
section
/-- the bytes of a run, as the reference takes them -/
def bM (part : Int64) (M k : Nat) : Int32 := ((part >>> ((8 * ((nI M - 1) - nI k)).toInt64 &&& 63)) &&& 255).toInt32
def rA (A : Nat → Nat → Int32) (n : Nat) (v1 v2 : Int32) (M : Nat) (part : Int64) : Nat → (Nat → Nat → Int32)
  | 0 => A
  | k + 1 => kA (rA A n v1 v2 M part k) (n + k) (v1 + 8 * nI k) (if k = 0 then v2 else v1 + 8 * nI k - 8) 2 (bM part M k)
theorem rng28 {v : Int32} (h1 : ¬ v < 2) (h2 : ¬ 8 < v) : ∃ M, 2 ≤ M ∧ M ≤ 8 ∧ v = nI M := by
  have e2 : (2 : Int32).toInt = 2 := by decide
  have e8 : (8 : Int32).toInt = 8 := by decide
  rw [Int32.lt_iff_toInt_lt, e2] at h1
  rw [Int32.lt_iff_toInt_lt, e8] at h2
  refine ⟨v.toInt.toNat, by omega, by omega, Int32.toInt_inj.mp ?_⟩
  rw [nI_toInt (by omega)]
  omega
theorem rng28' {M : Nat} (h1 : 2 ≤ M) (h2 : M ≤ 8) : ¬ nI M < 2 ∧ ¬ 8 < nI M := by
  have e2 : (2 : Int32).toInt = 2 := by decide
  have e8 : (8 : Int32).toInt = 8 := by decide
  rw [Int32.lt_iff_toInt_lt, Int32.lt_iff_toInt_lt, e2, e8, nI_toInt (by omega)]
  omega
def RunM (A : Nat → Nat → Int32) (n d : Nat) (v1 v2 : Int32) (M : Nat) : Prop := 2 ≤ M ∧ M ≤ 8 ∧ (NewM A n d v1 ∧ (v2 = 0 ∨ ∃ k, k < n ∧ A 0 k = v2) ∧ ¬ v1 ≤ v2 ∧ n < 512) ∧ n + M ≤ 512 ∧ ∀ k, 1 ≤ k → k < M → NewM A n d (v1 + 8 * nI k)
set_option maxHeartbeats 4000000 in
set_option maxRecDepth 100000 in
theorem c_X3_run (l : Launch) {D : va_G} {y : Nat} {a : Nat → Nat} {cI : ClassId} {n d : Nat} {th : Int32} {A : Nat → Nat → Int32} {sz : Nat} (v1 : Int32) (v2 : Int32) (v3 : Int32) (v4 : Int64)  : Met l yX3_run (gws yX3_run cX3_run 7 (some .boolean)) { frames := 3, cells := 0, slots := 0, locals := 68 } (va_Pc [.ref y, .int v1, .int v2, .int v3, .long v4] (fun U => MPre D y a cI n d th A sz U U.heap)) (va_Qi (fun r (u : MS) => (∃ M9, v3 = nI M9 ∧ RunM A n d v1 v2 M9 ∧ r = 1 ∧ u = (n + M9, d, 0, rA A n v1 v2 M9 v4 M9)) ∨ ((¬ ∃ M9, v3 = nI M9 ∧ RunM A n d v1 v2 M9) ∧ r = 0 ∧ u = (n, d, 0, A))) (MB D y a cI (va_A (wM y a cI n d th A) sz)) (va_A (wM y a cI n d th A) sz)) 0 0 (va_A (wM y a cI n d th A) sz) := by
  refine met_mm (QQ := fun AA => va_Qi (fun r (u : MS) => (∃ M9, v3 = nI M9 ∧ RunM A n d v1 v2 M9 ∧ r = 1 ∧ u = (n + M9, d, 0, rA A n v1 v2 M9 v4 M9)) ∨ ((¬ ∃ M9, v3 = nI M9 ∧ RunM A n d v1 v2 M9) ∧ r = 0 ∧ u = (n, d, 0, A))) (MB D y a cI AA) AA) (by decide) (Nat.le_of_ble_eq_true rfl) ?_
  intro p e s m below meth c ls AA S hr hlocks hM hl
  obtain ⟨hx, hb, hml, hown, hg⟩ := id S
  have hl : lv_has ls 7 [(0, .ref y), (1, .int v1), (2, .int v2), (3, .int v3), (4, .long v4)] := hl
  have hn := hM.bd
  suffices key9 : ∀ (H : Heap) (locs : List Loc), MM D y a cI n d th A AA s.heap s H locs → W p l e { frames := 3, cells := 0, slots := 0, locals := 68 } s m [.ref y, .int v1, .int v2, .int v3, .long v4].toArray below meth c H locs 0 0 (MQ below ((fun AA : Nat → Prop => va_Qi (fun r (u : MS) => (∃ M9, v3 = nI M9 ∧ RunM A n d v1 v2 M9 ∧ r = 1 ∧ u = (n + M9, d, 0, rA A n v1 v2 M9 v4 M9)) ∨ ((¬ ∃ M9, v3 = nI M9 ∧ RunM A n d v1 v2 M9) ∧ r = 0 ∧ u = (n, d, 0, A))) (MB D y a cI AA) AA) AA) [.ref y, .int v1, .int v2, .int v3, .long v4].toArray s 0 0 AA) (F0 m 0 ls []) from key9 _ _ hM
  clear hM
  intro H locs hM
  refine lv_aload_n hx hb dX3_run_0 rfl (lv_at hl 0 rfl) ?_
  refine lv_iconst (v := 0) hx hb dX3_run_1 (by decide) ?_
  refine mw_thrown S hM dX3_run_2 (fun H locs hM => ?_)
  refine lv_iload_n hx hb dX3_run_5 rfl (lv_at hl 3 rfl) ?_
  refine lv_iconst (v := 2) hx hb dX3_run_6 (by decide) ?_
  refine lv_icmp_lt (tgt := 37) hx hb dX3_run_7 (by decide) (fun c_7 => ?_) (fun c_7 => ?_)
  · refine lv_iconst (v := 0) hx hb dX3_run_37 (by decide) ?_
    exact W.zret (v := 0) hx hb hr rfl (fun t9 ht9 hW9 => ⟨⟨_, (n, d, 0, A), rfl, Or.inr ⟨fun ⟨M, e, z⟩ => (rng28' z.1 z.2.1).1 (by rw [← e]; exact c_7), rfl, rfl⟩, (hM.out ht9 hW9).1⟩, (hM.out ht9 hW9).2⟩) hM.S.2.2 dX3_run_38
  · refine lv_iload_n hx hb dX3_run_10 rfl (lv_at hl 3 rfl) ?_
    refine lv_bipush (v := 8) hx hb dX3_run_11 (by decide) ?_
    refine lv_icmp_gt (tgt := 37) hx hb dX3_run_13 (by decide) (fun c_13 => ?_) (fun c_13 => ?_)
    · refine lv_iconst (v := 0) hx hb dX3_run_37 (by decide) ?_
      exact W.zret (v := 0) hx hb hr rfl (fun t9 ht9 hW9 => ⟨⟨_, (n, d, 0, A), rfl, Or.inr ⟨fun ⟨M, e, z⟩ => (rng28' z.1 z.2.1).2 (by rw [← e]; exact c_13), rfl, rfl⟩, (hM.out ht9 hW9).1⟩, (hM.out ht9 hW9).2⟩) hM.S.2.2 dX3_run_38
    · obtain ⟨M, hM2, hM8, rfl⟩ := rng28 c_7 c_13
      refine lv_aload_n hx hb dX3_run_16 rfl (lv_at hl 0 rfl) ?_
      refine lv_iload_n hx hb dX3_run_17 rfl (lv_at hl 1 rfl) ?_
      refine lv_iload_n hx hb dX3_run_18 rfl (lv_at hl 2 rfl) ?_
      refine vp_callSi (va_Run.run (runV (As := [.int v1, .int v2]) (rest := []) (Bh := RdM D y a n d 0 A) S (c_X3_canInsert l v1 v2) (gw_V wk_401 wk_403 wp_20 wk_4 wk_404) rfl rfl 2 rfl (by decide +kernel) (by decide) ⟨Nat.le_refl _, Nat.le_refl _⟩ (fun _ _ _ h q => RdM.mv h q) hM.recv hM.rd hl.1 (Nat.le_of_ble_eq_true rfl) dX3_run_19)) (fun r hr => ?_)
      rcases hr with ⟨h_19, rfl⟩ | ⟨h_19, rfl⟩
      · refine lv_if_eq (tgt := 37) hx hb dX3_run_22 (by decide) (fun c_22 => ?_) (fun c_22 => ?_)
        · exact absurd (show _ from c_22) (by decide)
        · refine lv_aload_n hx hb dX3_run_25 rfl (lv_at hl 0 rfl) ?_
          refine rM_many S hM.rd dX3_run_26 ?_
          refine lv_iload_n hx hb dX3_run_29 rfl (lv_at hl 3 rfl) ?_
          refine lv_iadd hx hb dX3_run_30 ?_
          rw [nI_add]
          refine lv_sipush (v := nI 512) hx hb dX3_run_31 (by decide) ?_
          refine lv_icmp_le (tgt := 39) hx hb dX3_run_34 (by decide) (fun c_34 => ?_) (fun c_34 => ?_)
          · rw [nI_leI (by omega) (by omega)] at c_34
            refine lv_iconst (v := nI 1) hx hb dX3_run_39 (by decide) ?_
            refine lv_istore (lv' := [(6, .int (nI 1)), (0, .ref y), (1, .int v1), (2, .int v2), (3, .int (nI M)), (4, .long v4)]) hx hb dX3_run_40 hl (by decide) rfl (fun ls hl => ?_)
            suffices hloop : ∀ (fuel : Nat) (k : Nat), 1 ≤ k → k ≤ M → M - k < fuel → (∀ j, 1 ≤ j → j < M → j < k → NewM A n d (v1 + 8 * nI j)) → ∀ ls : Array Slot, lv_has ls 7 [(6, .int (nI k)), (0, .ref y), (1, .int v1), (2, .int v2), (3, .int (nI M)), (4, .long v4)] → W p l e { frames := 3, cells := 0, slots := 0, locals := 68 } s m [.ref y, .int v1, .int v2, .int (nI M), .long v4].toArray below meth c H locs 0 0 (MQ below ((fun AA : Nat → Prop => va_Qi (fun r (u : MS) => (∃ M9, nI M = nI M9 ∧ RunM A n d v1 v2 M9 ∧ r = 1 ∧ u = (n + M9, d, 0, rA A n v1 v2 M9 v4 M9)) ∨ ((¬ ∃ M9, nI M = nI M9 ∧ RunM A n d v1 v2 M9) ∧ r = 0 ∧ u = (n, d, 0, A))) (MB D y a cI AA) AA) AA) [.ref y, .int v1, .int v2, .int (nI M), .long v4].toArray s 0 0 AA) (F0 m 42 ls []) from hloop (M + 1) 1 (by omega) (by omega) (by omega) (fun j h1 h2 h3 => absurd h3 (by omega))  ls (lv_sub hl [0, 1, 2, 3, 4, 5] rfl)
            intro fuel
            induction fuel with
            | zero => intro k hk1 hk hf hI; omega
            | succ fuel ih =>
              intro k hk1 hk hf hI  ls hl
              refine lv_iload hx hb dX3_run_42 (lv_at hl 0 rfl) ?_
              refine lv_iload_n hx hb dX3_run_44 rfl (lv_at hl 4 rfl) ?_
              refine lv_icmp_ge (tgt := 70) hx hb dX3_run_45 (by decide) (fun c_45 => ?_) (fun c_45 => ?_)
              · rw [nI_leI (by omega) (by omega)] at c_45
                refine lv_iconst (v := nI 0) hx hb dX3_run_70 (by decide) ?_
                refine lv_istore (lv' := [(6, .int (nI 0)), (0, .ref y), (1, .int v1), (2, .int v2), (3, .int (nI M)), (4, .long v4)]) hx hb dX3_run_71 hl (by decide) rfl (fun ls hl => ?_)
                have hI : ∀ j, 1 ≤ j → j < M → NewM A n d (v1 + 8 * nI j) := fun j h1 h2 => hI j h1 h2 (by omega)
                suffices hloop2 : ∀ (fuel2 : Nat) (k : Nat), k ≤ M → M - k < fuel2 → ∀ (H : Heap) (locs : List Loc), MM D y a cI (n + k) d 0 (rA A n v1 v2 M v4 k) AA s.heap s H locs → ∀ ls : Array Slot, lv_has ls 7 [(6, .int (nI k)), (0, .ref y), (1, .int v1), (2, .int v2), (3, .int (nI M)), (4, .long v4)] → W p l e { frames := 3, cells := 0, slots := 0, locals := 68 } s m [.ref y, .int v1, .int v2, .int (nI M), .long v4].toArray below meth c H locs 0 0 (MQ below ((fun AA : Nat → Prop => va_Qi (fun r (u : MS) => (∃ M9, nI M = nI M9 ∧ RunM A n d v1 v2 M9 ∧ r = 1 ∧ u = (n + M9, d, 0, rA A n v1 v2 M9 v4 M9)) ∨ ((¬ ∃ M9, nI M = nI M9 ∧ RunM A n d v1 v2 M9) ∧ r = 0 ∧ u = (n, d, 0, A))) (MB D y a cI AA) AA) AA) [.ref y, .int v1, .int v2, .int (nI M), .long v4].toArray s 0 0 AA) (F0 m 73 ls []) from hloop2 (M + 1) 0 (by omega) (by omega) _ _ hM ls (lv_sub hl [0, 1, 2, 3, 4, 5] rfl)
                intro fuel2
                induction fuel2 with
                | zero => intro k hk hf; omega
                | succ fuel2 ih2 =>
                  intro k hk hf H locs hM ls hl
                  refine lv_iload hx hb dX3_run_73 (lv_at hl 0 rfl) ?_
                  refine lv_iload_n hx hb dX3_run_75 rfl (lv_at hl 4 rfl) ?_
                  refine lv_icmp_ge (tgt := 133) hx hb dX3_run_76 (by decide) (fun c_76 => ?_) (fun c_76 => ?_)
                  · rw [nI_leI (by omega) (by omega)] at c_76
                    refine lv_iconst (v := 1) hx hb dX3_run_133 (by decide) ?_
                    exact W.zret (v := 1) hx hb hr rfl (fun t9 ht9 hW9 => ⟨⟨_, ((n + k), d, 0, (rA A n v1 v2 M v4 k)), rfl, Or.inl ⟨M, rfl, ⟨hM2, hM8, h_19, by omega, hI⟩, rfl, by rw [show k = M by omega]⟩, (hM.out ht9 hW9).1⟩, (hM.out ht9 hW9).2⟩) hM.S.2.2 dX3_run_134
                  · rw [nI_leI (by omega) (by omega)] at c_76
                    refine lv_aload_n hx hb dX3_run_79 rfl (lv_at hl 1 rfl) ?_
                    refine lv_iload_n hx hb dX3_run_80 rfl (lv_at hl 2 rfl) ?_
                    refine lv_bipush (v := 8) hx hb dX3_run_81 (by decide) ?_
                    refine lv_iload hx hb dX3_run_83 (lv_at hl 0 rfl) ?_
                    refine lv_imul hx hb dX3_run_85 ?_
                    refine lv_iadd hx hb dX3_run_86 ?_
                    refine lv_iload hx hb dX3_run_87 (lv_at hl 0 rfl) ?_
                    refine lv_if_ne (tgt := 96) hx hb dX3_run_89 (by decide) (fun c_89 => ?_) (fun c_89 => ?_)
                    · have c_89 : ¬ k = 0 := fun z => c_89 (by rw [z]; rfl)
                      refine lv_iload_n hx hb dX3_run_96 rfl (lv_at hl 2 rfl) ?_
                      refine lv_bipush (v := 8) hx hb dX3_run_97 (by decide) ?_
                      refine lv_iload hx hb dX3_run_99 (lv_at hl 0 rfl) ?_
                      refine lv_imul hx hb dX3_run_101 ?_
                      refine lv_iadd hx hb dX3_run_102 ?_
                      refine lv_bipush (v := 8) hx hb dX3_run_103 (by decide) ?_
                      refine lv_isub hx hb dX3_run_105 ?_
                      refine lv_iconst (v := 2) hx hb dX3_run_106 (by decide) ?_
                      refine lv_lload hx hb dX3_run_107 (lv_at hl 5 rfl) ?_
                      refine lv_bipush (v := 8) hx hb dX3_run_109 (by decide) ?_
                      refine lv_iload_n hx hb dX3_run_111 rfl (lv_at hl 4 rfl) ?_
                      refine lv_iconst (v := 1) hx hb dX3_run_112 (by decide) ?_
                      refine lv_isub hx hb dX3_run_113 ?_
                      refine lv_iload hx hb dX3_run_114 (lv_at hl 0 rfl) ?_
                      refine lv_isub hx hb dX3_run_116 ?_
                      refine lv_imul hx hb dX3_run_117 ?_
                      refine lv_lshr (v := (v4 >>> ((8 * (((nI M) - 1) - (nI k))).toInt64 &&& 63))) hx hb dX3_run_118 rfl ?_
                      refine lv_ldc2 (v := 255) hx hb hown (hg _ wk_425) dX3_run_119 ?_
                      refine lv_land hx hb dX3_run_122 ?_
                      refine lv_l2i (v := ((v4 >>> ((8 * (((nI M) - 1) - (nI k))).toInt64 &&& 63)) &&& 255).toInt32) hx hb dX3_run_123 rfl ?_
                      refine va_callv (runV (As := [.int (v1 + (8 * (nI k))), .int ((v1 + (8 * (nI k))) - 8), .int 2, .int (((v4 >>> ((8 * (((nI M) - 1) - (nI k))).toInt64 &&& 63)) &&& 255).toInt32)]) (rest := []) (Bh := MPre D y a cI (n + k) d 0 (rA A n v1 v2 M v4 k) H.size) S (c_X3_keep l (v1 + (8 * (nI k))) ((v1 + (8 * (nI k))) - 8) 2 (((v4 >>> ((8 * (((nI M) - 1) - (nI k))).toInt64 &&& 63)) &&& 255).toInt32) (by omega)) (gw_V wk_417 wk_419 wp_23 wk_4 wk_420) rfl rfl 4 rfl (by decide +kernel) (by decide) ⟨Nat.le_refl _, Nat.le_refl _⟩ (fun _ _ _ h q => MPre.mv h q) hM.recv hM.pre hl.1 (Nat.le_of_ble_eq_true rfl) dX3_run_124) hM.S (fun q _ h => hM.free q h) hM.free (fun u8 t8 H1 locs1 ht8 hvm8 hp hB8 hz8 hk8 hS8 => ?_)
                      obtain ⟨n_124, d_124, th_124, A_124⟩ := u8
                      have hM := hM.back ht8 hB8 hS8
                      generalize H1 = H at hM ⊢
                      generalize locs1 = locs at hM ⊢
                      dsimp only at hp hM
                      obtain ⟨rfl, rfl, rfl, rfl⟩ : (n + k) + 1 = n_124 ∧ d = d_124 ∧ 0 = th_124 ∧ kA (rA A n v1 v2 M v4 k) (n + k) (v1 + (8 * (nI k))) ((v1 + (8 * (nI k))) - 8) 2 (((v4 >>> ((8 * (((nI M) - 1) - (nI k))).toInt64 &&& 63)) &&& 255).toInt32) = A_124 := by have z := hp; simp only [Prod.mk.injEq] at z; exact ⟨z.1.symm, z.2.1.symm, z.2.2.1.symm, z.2.2.2.symm⟩
                      refine lv_iinc (v := nI (k + 1)) (lv' := [(6, .int (nI (k + 1))), (0, .ref y), (1, .int v1), (2, .int v2), (3, .int (nI M)), (4, .long v4)]) hx hb dX3_run_127 hl (k := 0) rfl (nI_1 _) (by decide) rfl (fun ls hl => ?_)
                      refine lv_goto (tgt := 73) hx hb dX3_run_130 (by decide) ?_
                      exact ih2 (k + 1) (by omega) (by omega) _ _ (by rw [← Nat.add_assoc, rA, if_neg c_89]; exact hM) ls (lv_sub hl [0, 1, 2, 3, 4, 5] rfl)
                    · have c_89 : k = 0 := Nat.eq_zero_of_not_pos (fun z => nI_ne0 z (by omega) c_89)
                      refine lv_iload_n hx hb dX3_run_92 rfl (lv_at hl 3 rfl) ?_
                      refine lv_goto (tgt := 106) hx hb dX3_run_93 (by decide) ?_
                      refine lv_iconst (v := 2) hx hb dX3_run_106 (by decide) ?_
                      refine lv_lload hx hb dX3_run_107 (lv_at hl 5 rfl) ?_
                      refine lv_bipush (v := 8) hx hb dX3_run_109 (by decide) ?_
                      refine lv_iload_n hx hb dX3_run_111 rfl (lv_at hl 4 rfl) ?_
                      refine lv_iconst (v := 1) hx hb dX3_run_112 (by decide) ?_
                      refine lv_isub hx hb dX3_run_113 ?_
                      refine lv_iload hx hb dX3_run_114 (lv_at hl 0 rfl) ?_
                      refine lv_isub hx hb dX3_run_116 ?_
                      refine lv_imul hx hb dX3_run_117 ?_
                      refine lv_lshr (v := (v4 >>> ((8 * (((nI M) - 1) - (nI k))).toInt64 &&& 63))) hx hb dX3_run_118 rfl ?_
                      refine lv_ldc2 (v := 255) hx hb hown (hg _ wk_425) dX3_run_119 ?_
                      refine lv_land hx hb dX3_run_122 ?_
                      refine lv_l2i (v := ((v4 >>> ((8 * (((nI M) - 1) - (nI k))).toInt64 &&& 63)) &&& 255).toInt32) hx hb dX3_run_123 rfl ?_
                      refine va_callv (runV (As := [.int (v1 + (8 * (nI k))), .int v2, .int 2, .int (((v4 >>> ((8 * (((nI M) - 1) - (nI k))).toInt64 &&& 63)) &&& 255).toInt32)]) (rest := []) (Bh := MPre D y a cI (n + k) d 0 (rA A n v1 v2 M v4 k) H.size) S (c_X3_keep l (v1 + (8 * (nI k))) v2 2 (((v4 >>> ((8 * (((nI M) - 1) - (nI k))).toInt64 &&& 63)) &&& 255).toInt32) (by omega)) (gw_V wk_417 wk_419 wp_23 wk_4 wk_420) rfl rfl 4 rfl (by decide +kernel) (by decide) ⟨Nat.le_refl _, Nat.le_refl _⟩ (fun _ _ _ h q => MPre.mv h q) hM.recv hM.pre hl.1 (Nat.le_of_ble_eq_true rfl) dX3_run_124) hM.S (fun q _ h => hM.free q h) hM.free (fun u8 t8 H1 locs1 ht8 hvm8 hp hB8 hz8 hk8 hS8 => ?_)
                      obtain ⟨n_124, d_124, th_124, A_124⟩ := u8
                      have hM := hM.back ht8 hB8 hS8
                      generalize H1 = H at hM ⊢
                      generalize locs1 = locs at hM ⊢
                      dsimp only at hp hM
                      obtain ⟨rfl, rfl, rfl, rfl⟩ : (n + k) + 1 = n_124 ∧ d = d_124 ∧ 0 = th_124 ∧ kA (rA A n v1 v2 M v4 k) (n + k) (v1 + (8 * (nI k))) v2 2 (((v4 >>> ((8 * (((nI M) - 1) - (nI k))).toInt64 &&& 63)) &&& 255).toInt32) = A_124 := by have z := hp; simp only [Prod.mk.injEq] at z; exact ⟨z.1.symm, z.2.1.symm, z.2.2.1.symm, z.2.2.2.symm⟩
                      refine lv_iinc (v := nI (k + 1)) (lv' := [(6, .int (nI (k + 1))), (0, .ref y), (1, .int v1), (2, .int v2), (3, .int (nI M)), (4, .long v4)]) hx hb dX3_run_127 hl (k := 0) rfl (nI_1 _) (by decide) rfl (fun ls hl => ?_)
                      refine lv_goto (tgt := 73) hx hb dX3_run_130 (by decide) ?_
                      exact ih2 (k + 1) (by omega) (by omega) _ _ (by rw [← Nat.add_assoc, rA, if_pos c_89]; exact hM) ls (lv_sub hl [0, 1, 2, 3, 4, 5] rfl)
              · rw [nI_leI (by omega) (by omega)] at c_45
                refine lv_aload_n hx hb dX3_run_48 rfl (lv_at hl 1 rfl) ?_
                refine lv_iload_n hx hb dX3_run_49 rfl (lv_at hl 2 rfl) ?_
                refine lv_bipush (v := 8) hx hb dX3_run_50 (by decide) ?_
                refine lv_iload hx hb dX3_run_52 (lv_at hl 0 rfl) ?_
                refine lv_imul hx hb dX3_run_54 ?_
                refine lv_iadd hx hb dX3_run_55 ?_
                refine vp_callSi (va_Run.run (runV (As := [.int (v1 + (8 * (nI k)))]) (rest := []) (Bh := RdM D y a n d 0 A) S (c_X3_isNew l (v1 + (8 * (nI k)))) (gw_V wk_405 wk_407 wp_21 wk_4 wk_408) rfl rfl 1 rfl (by decide +kernel) (by decide) ⟨Nat.le_refl _, Nat.le_refl _⟩ (fun _ _ _ h q => RdM.mv h q) hM.recv hM.rd hl.1 (Nat.le_of_ble_eq_true rfl) dX3_run_56)) (fun r hr => ?_)
                rcases hr with ⟨h_56, rfl⟩ | ⟨h_56, rfl⟩
                · refine lv_if_ne (tgt := 64) hx hb dX3_run_59 (by decide) (fun c_59 => ?_) (fun c_59 => ?_)
                  · refine lv_iinc (v := nI (k + 1)) (lv' := [(6, .int (nI (k + 1))), (0, .ref y), (1, .int v1), (2, .int v2), (3, .int (nI M)), (4, .long v4)]) hx hb dX3_run_64 hl (k := 0) rfl (nI_1 _) (by decide) rfl (fun ls hl => ?_)
                    refine lv_goto (tgt := 42) hx hb dX3_run_67 (by decide) ?_
                    exact ih (k + 1) (by omega) (by omega) (by omega) (fun j h1 h2 h3 => if e : j = k then by rw [e]; exact h_56 else hI j h1 h2 (by omega))  ls (lv_sub hl [0, 1, 2, 3, 4, 5] rfl)
                  · exact absurd (show _ from c_59) (by decide)
                · refine lv_if_ne (tgt := 64) hx hb dX3_run_59 (by decide) (fun c_59 => ?_) (fun c_59 => ?_)
                  · exact absurd (show _ from c_59) (by decide)
                  · refine lv_iconst (v := 0) hx hb dX3_run_62 (by decide) ?_
                    exact W.zret (v := 0) hx hb hr rfl (fun t9 ht9 hW9 => ⟨⟨_, (n, d, 0, A), rfl, Or.inr ⟨fun ⟨M9, e, z⟩ => by obtain rfl := (nI_eq (by omega) (by have := z.2.1; omega)).mp e; exact h_56 (z.2.2.2.2 k (by omega) (by omega)), rfl, rfl⟩, (hM.out ht9 hW9).1⟩, (hM.out ht9 hW9).2⟩) hM.S.2.2 dX3_run_63
          · rw [nI_leI (by omega) (by omega)] at c_34
            refine lv_iconst (v := 0) hx hb dX3_run_37 (by decide) ?_
            exact W.zret (v := 0) hx hb hr rfl (fun t9 ht9 hW9 => ⟨⟨_, (n, d, 0, A), rfl, Or.inr ⟨fun ⟨M9, e, z⟩ => by obtain rfl := (nI_eq (by omega) (by have := z.2.1; omega)).mp e; exact absurd z.2.2.2.1 (by omega), rfl, rfl⟩, (hM.out ht9 hW9).1⟩, (hM.out ht9 hW9).2⟩) hM.S.2.2 dX3_run_38
      · refine lv_if_eq (tgt := 37) hx hb dX3_run_22 (by decide) (fun c_22 => ?_) (fun c_22 => ?_)
        · refine lv_iconst (v := 0) hx hb dX3_run_37 (by decide) ?_
          exact W.zret (v := 0) hx hb hr rfl (fun t9 ht9 hW9 => ⟨⟨_, (n, d, 0, A), rfl, Or.inr ⟨fun ⟨M9, e, z⟩ => by obtain rfl := (nI_eq (by omega) (by have := z.2.1; omega)).mp e; exact h_19 z.2.2.1, rfl, rfl⟩, (hM.out ht9 hW9).1⟩, (hM.out ht9 hW9).2⟩) hM.S.2.2 dX3_run_38
        · exact absurd (show _ from c_22) (by decide)
end
section
/-! the weaving, as numbers alone -/
def parL (L : Nat → Int32) (pp : Nat → Nat) (m : Nat) : Int32 := match pp m with
  | 0 => 0
  | t + 1 => L t
/-- each hangs on the nearest before it that is less -/
def Tr (L : Nat → Int32) (pp : Nat → Nat) (n : Nat) : Prop := ∀ m, m < n → pp m ≤ m ∧ (∀ t, pp m ≤ t → t < m → L m < L t) ∧ ∀ t, pp m = t + 1 → L t < L m
def Wv (A : Nat → Nat → Int32) (n : Nat) (L : Nat → Int32) (pp : Nat → Nat) : Prop :=
  (∀ k, k < n → ∃ m, m < n ∧ L m = A 0 k ∧ parL L pp m = A 1 k) ∧ (∀ m, m < n → ∃ k, k < n ∧ A 0 k = L m ∧ A 1 k = parL L pp m) ∧ (∀ a b, a < n → b < n → L a = L b → a = b) ∧ (∀ a b, a < n → b < n → A 0 a = A 0 b → a = b) ∧ (∀ m, m < n → ¬ L m = 0) ∧ Tr L pp n
def Seg (T ids bh : Nat → Int32) (b : Int32) (s0 m k : Nat) : Prop :=
  (∀ i, s0 ≤ i → i + 1 < m → T i < T (i + 1)) ∧ (∀ i, s0 ≤ i → i < m → ∃ j, j < k ∧ bh j = b ∧ ids j = T i) ∧ ∀ j, j < k → bh j = b → ∃ i, s0 ≤ i ∧ i < m ∧ T i = ids j
def Inn (T T' : Nat → Int32) (i q : Nat) (v : Int32) : Prop := (∀ j, j < i → T' j = T j) ∧ (∀ j, i < j → j ≤ q → T' j = T (j - 1)) ∧ ∀ j, i ≤ j → j < q → v < T j
theorem Seg_0 {T ids bh : Nat → Int32} {b : Int32} {s0 : Nat} : Seg T ids bh b s0 s0 0 := ⟨fun i h1 h2 => absurd h2 (by omega), fun i h1 h2 => absurd h2 (by omega), fun j h => absurd h (Nat.not_lt_zero _)⟩
theorem Seg_n {T ids bh : Nat → Int32} {b : Int32} {s0 m k : Nat} (h : Seg T ids bh b s0 m k) (hk : ¬ bh k = b) : Seg T ids bh b s0 m (k + 1) := by
  refine ⟨h.1, fun i h1 h2 => ?_, fun j hj hb => ?_⟩
  · obtain ⟨j, h3, h4⟩ := h.2.1 i h1 h2
    exact ⟨j, by omega, h4⟩
  · rcases Nat.lt_or_eq_of_le (Nat.lt_succ_iff.mp hj) with z | z
    · exact h.2.2 j z hb
    · rw [z] at hb; exact absurd hb hk
theorem Inn_0 {T : Nat → Int32} {q : Nat} {v : Int32} : Inn T T q q v := ⟨fun _ _ => rfl, fun j h1 h2 => absurd h1 (by omega), fun j h1 h2 => absurd h2 (by omega)⟩
theorem Inn_s {T T' : Nat → Int32} {i q : Nat} {v : Int32} (h : Inn T T' i q v) (h0 : 0 < i) (hv : v < T' (i - 1)) (hq : i ≤ q) : Inn T (upd T' i (T' (i - 1))) (i - 1) q v := by
  obtain ⟨h1, h2, h3⟩ := h
  have e := h1 (i - 1) (by omega)
  refine ⟨fun j hj => ?_, fun j hj hq2 => ?_, fun j hj hq2 => ?_⟩
  · rw [pk_un (by omega)]; exact h1 j (by omega)
  · by_cases z : j = i
    · subst z; rw [pk_us, e]
    · rw [pk_un z]; exact h2 j (by omega) hq2
  · by_cases z : j = i - 1
    · subst z; rw [← e]; exact hv
    · exact h3 j (by omega) hq2
theorem Seg_s {T T' ids bh : Nat → Int32} {b : Int32} {s0 q k i : Nat} (h : Seg T ids bh b s0 q k) (hI : Inn T T' i q (ids k)) (hb : bh k = b) (hi : s0 ≤ i) (hq : i ≤ q) (hl : i = s0 ∨ ¬ ids k < T' (i - 1)) (hd : ∀ j, j < k → ¬ ids j = ids k) : Seg (upd T' i (ids k)) ids bh b s0 (q + 1) (k + 1) := by
  obtain ⟨g1, g2, g3⟩ := h
  obtain ⟨h1, h2, h3⟩ := hI
  have val : ∀ j, upd T' i (ids k) j = if j < i then T j else if j = i then ids k else upd T' i (ids k) j := by
    intro j
    by_cases z : j < i
    · rw [if_pos z, pk_un (by omega), h1 j z]
    · rw [if_neg z]
      by_cases z2 : j = i
      · rw [if_pos z2, z2, pk_us]
      · rw [if_neg z2]
  have vlo : ∀ j, j < i → upd T' i (ids k) j = T j := fun j z => by rw [val, if_pos z]
  have vat : upd T' i (ids k) i = ids k := pk_us
  have vhi : ∀ j, i < j → j ≤ q → upd T' i (ids k) j = T (j - 1) := fun j z z2 => by rw [pk_un (by omega), h2 j z z2]
  refine ⟨fun j hj hj2 => ?_, fun j hj hj2 => ?_, fun j hj hb2 => ?_⟩
  · by_cases z : j + 1 < i
    · rw [vlo j (by omega), vlo (j + 1) z]; exact g1 j hj (by omega)
    · by_cases z2 : j + 1 = i
      · rw [vlo j (by omega), z2, vat]
        rcases hl with z3 | z3
        · omega
        · rw [h1 (i - 1) (by omega), show i - 1 = j by omega] at z3
          obtain ⟨j3, h5, h6, h7⟩ := g2 j hj (by omega)
          exact i32_tri z3 (fun e => hd j3 h5 (by rw [h7, e]))
      · by_cases z3 : j = i
        · rw [z3, vat, vhi (i + 1) (by omega) (by omega)]; exact h3 i (by omega) (by omega)
        · rw [vhi j (by omega) (by omega), vhi (j + 1) (by omega) (by omega)]
          have := g1 (j - 1) (by omega) (by omega)
          rw [show j - 1 + 1 = j by omega] at this
          exact this
  · by_cases z : j < i
    · rw [vlo j z]
      obtain ⟨j3, h5, h6⟩ := g2 j hj (by omega)
      exact ⟨j3, by omega, h6⟩
    · by_cases z2 : j = i
      · exact ⟨k, by omega, hb, by rw [z2, vat]⟩
      · rw [vhi j (by omega) (by omega)]
        obtain ⟨j3, h5, h6⟩ := g2 (j - 1) (by omega) (by omega)
        exact ⟨j3, by omega, h6⟩
  · rcases Nat.lt_or_eq_of_le (Nat.lt_succ_iff.mp hj) with z | z
    · obtain ⟨i3, h5, h6, h7⟩ := g3 j z hb2
      by_cases z2 : i3 < i
      · exact ⟨i3, h5, by omega, by rw [vlo i3 z2, h7]⟩
      · exact ⟨i3 + 1, by omega, by omega, by rw [vhi (i3 + 1) (by omega) (by omega), show i3 + 1 - 1 = i3 by omega, h7]⟩
    · exact ⟨i, hi, by omega, by rw [vat, z]⟩
theorem cntB_lt {p : Nat → Bool} {k : Nat} : ∀ {n : Nat}, k < n → p k = true → cntB p k + 1 ≤ cntB p n
  | 0, h, _ => absurd h (Nat.not_lt_zero _)
  | n + 1, h, hp => by
    rw [cntB]
    rcases Nat.lt_or_eq_of_le (Nat.lt_succ_iff.mp h) with z | z
    · have := cntB_lt z hp; omega
    · subst z; rw [if_pos hp]; exact Nat.le_refl _
def ch (pp : Nat → Nat) (c : Nat) : Nat → Nat
  | 0 => 0
  | m + 1 => ch pp c m + (if pp m = c then 1 else 0)
theorem ch_lt {pp : Nat → Nat} {c m : Nat} : ∀ {m2 : Nat}, m < m2 → pp m = c → ch pp c m < ch pp c m2
  | 0, h, _ => absurd h (Nat.not_lt_zero _)
  | m2 + 1, h, hp => by
    rw [ch]
    rcases Nat.lt_or_eq_of_le (Nat.lt_succ_iff.mp h) with z | z
    · have := ch_lt z hp; omega
    · subst z; rw [if_pos hp]; omega
theorem ch_le {pp : Nat → Nat} {c m : Nat} : ∀ {m2 : Nat}, m ≤ m2 → ch pp c m ≤ ch pp c m2
  | 0, h => by rw [Nat.le_zero.mp h]; exact Nat.le_refl _
  | m2 + 1, h => by
    rcases Nat.lt_or_eq_of_le h with z | z
    · have := ch_le (pp := pp) (c := c) (Nat.lt_succ_iff.mp z)
      rw [ch]; omega
    · rw [z]; exact Nat.le_refl _
theorem ch_ex {pp : Nat → Nat} {c j : Nat} : ∀ {m : Nat}, j < ch pp c m → ∃ m', m' < m ∧ pp m' = c ∧ ch pp c m' = j
  | 0, h => absurd h (Nat.not_lt_zero _)
  | m + 1, h => by
    rw [ch] at h
    by_cases z : j < ch pp c m
    · obtain ⟨m', h1, h2⟩ := ch_ex z
      exact ⟨m', by omega, h2⟩
    · by_cases z2 : pp m = c
      · rw [if_pos z2] at h
        exact ⟨m, by omega, z2, by omega⟩
      · rw [if_neg z2] at h; omega
theorem ch_eq {pp : Nat → Nat} {c m : Nat} : ∀ {m2 : Nat}, m ≤ m2 → (∀ j, m ≤ j → j < m2 → ¬ pp j = c) → ch pp c m2 = ch pp c m
  | 0, h, _ => by rw [Nat.le_zero.mp h]
  | m2 + 1, h, hn => by
    rcases Nat.lt_or_eq_of_le h with z | z
    · rw [ch, if_neg (hn m2 (by omega) (by omega)), ch_eq (by omega) (fun j h1 h2 => hn j h1 (by omega))]; rfl
    · rw [z]
theorem asc {T : Nat → Int32} {z1 N : Nat} (hs : ∀ i, z1 ≤ i → i + 1 < z1 + N → T i < T (i + 1)) : ∀ (i j : Nat), z1 ≤ i → i < j → j < z1 + N → T i < T j := by
  intro i j h1 h2 h3
  induction j with
  | zero => omega
  | succ j ih =>
    rcases Nat.lt_or_eq_of_le (Nat.lt_succ_iff.mp h2) with z | z
    · exact i32_trans (ih z (by omega)) (hs j (by omega) h3)
    · subst z; exact hs i h1 h3
theorem asc_inj {T : Nat → Int32} {z1 N : Nat} (hs : ∀ i, z1 ≤ i → i + 1 < z1 + N → T i < T (i + 1)) {i j : Nat} (hi : z1 ≤ i) (hi2 : i < z1 + N) (hj : z1 ≤ j) (hj2 : j < z1 + N) (e : T i = T j) : i = j := by
  rcases Nat.lt_trichotomy i j with z | z | z
  · exact absurd e (i32_irr (asc hs i j hi z hj2))
  · exact z
  · exact absurd e.symm (i32_irr (asc hs j i hj z hi2))
/-- the children, sorted, lie in the order of their rows, the first one on top -/
theorem rank {T L : Nat → Int32} {pp : Nat → Nat} {c z1 N n : Nat} (hs : ∀ i, z1 ≤ i → i + 1 < z1 + N → T i < T (i + 1)) (h2 : ∀ i, z1 ≤ i → i < z1 + N → ∃ m, m < n ∧ pp m = c ∧ L m = T i) (h3 : ∀ m, m < n → pp m = c → ∃ i, z1 ≤ i ∧ i < z1 + N ∧ T i = L m)
    (inj : ∀ a b, a < n → b < n → L a = L b → a = b) (hD : ∀ m m2, m < m2 → m2 < n → pp m = c → pp m2 = c → L m2 < L m) : (∀ m, m < n → pp m = c → ch pp c m < N ∧ T (z1 + N - 1 - ch pp c m) = L m) ∧ ch pp c n = N := by
  have key : ∀ (b m : Nat), m < b → m < n → pp m = c → ch pp c m < N ∧ T (z1 + N - 1 - ch pp c m) = L m := by
    intro b
    induction b with
    | zero => intro m h; omega
    | succ b ih =>
      intro m hb hm hc
      obtain ⟨i, hi1, hi2, hi3⟩ := h3 m hm hc
      have ih' : ∀ m', m' < m → pp m' = c → ch pp c m' < N ∧ T (z1 + N - 1 - ch pp c m') = L m' := fun m' h1 h4 => ih m' (by omega) (by omega) h4
      rcases Nat.lt_trichotomy (z1 + N - 1 - i) (ch pp c m) with z | z | z
      · obtain ⟨m', g1, g2, g3⟩ := ch_ex z
        have g4 := (ih' m' g1 g2).2
        rw [g3, show z1 + N - 1 - (z1 + N - 1 - i) = i by omega, hi3] at g4
        have := inj m m' hm (by omega) g4
        omega
      · exact ⟨by omega, by rw [← z, show z1 + N - 1 - (z1 + N - 1 - i) = i by omega]; exact hi3⟩
      · have hlt := asc hs i (z1 + N - 1 - ch pp c m) hi1 (by omega) (by omega)
        obtain ⟨m2, g1, g2, g3⟩ := h2 (z1 + N - 1 - ch pp c m) (by omega) (by omega)
        rw [hi3, ← g3] at hlt
        have hm2 : m2 < m := by
          rcases Nat.lt_trichotomy m2 m with y | y | y
          · exact y
          · subst y; exact absurd rfl (i32_irr hlt)
          · exact absurd hlt (i32_asym (hD m m2 y g1 hc g2))
        obtain ⟨g4, g5⟩ := ih' m2 hm2 g2
        rw [g3] at g5
        have g6 := asc_inj hs (by omega) (by omega) (by omega) (by omega) g5
        have g7 := ch_lt hm2 g2
        omega
  have key' : ∀ m, m < n → pp m = c → ch pp c m < N ∧ T (z1 + N - 1 - ch pp c m) = L m := fun m h1 h4 => key (m + 1) m (by omega) h1 h4
  refine ⟨key', ?_⟩
  rcases Nat.lt_trichotomy (ch pp c n) N with z | z | z
  · obtain ⟨m2, g1, g2, g3⟩ := h2 (z1 + N - 1 - ch pp c n) (by omega) (by omega)
    obtain ⟨g4, g5⟩ := key' m2 g1 g2
    rw [g3] at g5
    have g6 := asc_inj hs (by omega) (by omega) (by omega) (by omega) g5
    have g7 := ch_lt g1 g2
    omega
  · exact z
  · obtain ⟨m', g1, g2, g3⟩ := ch_ex z
    have := (key' m' g1 g2).1
    omega
/-- how many lie open: from row t on, hanging on what was told -/
def cq (pp : Nat → Nat) (t : Nat) : Nat → Nat
  | 0 => 0
  | m + 1 => cq pp t m + (if t ≤ m ∧ pp m ≤ t then 1 else 0)
theorem cq_lo {pp : Nat → Nat} {t : Nat} : ∀ {m : Nat}, m ≤ t → cq pp t m = 0
  | 0, _ => rfl
  | m + 1, h => by rw [cq, cq_lo (by omega), if_neg (by omega)]
theorem cq_le {pp : Nat → Nat} {t m : Nat} : ∀ {m2 : Nat}, m ≤ m2 → cq pp t m ≤ cq pp t m2
  | 0, h => by rw [Nat.le_zero.mp h]; exact Nat.le_refl _
  | m2 + 1, h => by
    rcases Nat.lt_or_eq_of_le h with z | z
    · have := cq_le (pp := pp) (t := t) (Nat.lt_succ_iff.mp z)
      rw [cq]; omega
    · rw [z]; exact Nat.le_refl _
theorem cq_t {pp : Nat → Nat} {t : Nat} (h : pp t ≤ t) : cq pp t (t + 1) = 1 := by rw [cq, cq_lo (Nat.le_refl t), if_pos ⟨Nat.le_refl t, h⟩]
theorem cq_eq {pp : Nat → Nat} {t m : Nat} : ∀ {m2 : Nat}, m ≤ m2 → (∀ j, m ≤ j → j < m2 → ¬ pp j ≤ t) → cq pp t m2 = cq pp t m
  | 0, h, _ => by rw [Nat.le_zero.mp h]
  | m2 + 1, h, hn => by
    rcases Nat.lt_or_eq_of_le h with z | z
    · rw [cq, if_neg (fun y => hn m2 (by omega) (by omega) y.2), cq_eq (by omega) (fun j h1 h2 => hn j h1 (by omega))]; rfl
    · rw [z]
theorem cq_step {pp : Nat → Nat} {t n : Nat} (hp : ∀ m, m < n → pp m ≤ m) (ht : t < n) : ∀ {m : Nat}, t + 1 ≤ m → m ≤ n → cq pp (t + 1) m + 1 = cq pp t m + ch pp (t + 1) m
  | 0, h, _ => by omega
  | m + 1, h, hn => by
    rcases Nat.lt_or_eq_of_le h with z | z
    · have ih := cq_step (pp := pp) hp ht (m := m) (by omega) (by omega)
      rw [cq, cq, ch]
      by_cases z1 : pp m ≤ t
      · rw [if_pos ⟨by omega, by omega⟩, if_pos ⟨by omega, z1⟩, if_neg (by omega)]; omega
      · by_cases z2 : pp m = t + 1
        · rw [if_pos ⟨by omega, by omega⟩, if_neg (fun y => z1 y.2), if_pos z2]; omega
        · rw [if_neg (fun y => by omega), if_neg (fun y => z1 y.2), if_neg z2]; omega
    · have e : m = t := by omega
      subst e
      rw [cq_lo (Nat.le_refl _), cq_t (hp m ht)]
      have : ch pp (m + 1) (m + 1) = 0 := by
        have h0 := ch_eq (pp := pp) (c := m + 1) (m := 0) (m2 := m + 1) (Nat.zero_le _) (fun j _ h2 h3 => by have := hp j (by omega); omega)
        rw [h0]; rfl
      omega
theorem Tr.nest {L : Nat → Int32} {pp : Nat → Nat} {n : Nat} (h : Tr L pp n) {m1 m2 : Nat} (h1 : m1 < m2) (h2 : m2 < n) (h3 : pp m2 ≤ m1) : pp m2 ≤ pp m1 := by
  rcases Nat.lt_or_ge (pp m1) (pp m2) with z | z
  · obtain ⟨s, hs⟩ : ∃ s, pp m2 = s + 1 := ⟨pp m2 - 1, by omega⟩
    have a1 := (h m1 (by omega)).2.1 s (by omega) (by omega)
    have a2 := (h m2 h2).2.1 m1 h3 h1
    have a3 := (h m2 h2).2.2 s hs
    exact absurd (i32_trans a2 a1) (i32_asym a3)
  · exact z
def Stk (L : Nat → Int32) (pp : Nat → Nat) (n t z : Nat) (T : Nat → Int32) : Prop := z = cq pp t n ∧ ∀ m, t ≤ m → m < n → pp m ≤ t → T (z - 1 - cq pp t m) = L m
theorem Stk.top {L : Nat → Int32} {pp : Nat → Nat} {n t z : Nat} {T : Nat → Int32} (h : Stk L pp n t z T) (hT : Tr L pp n) (ht : t < n) : 0 < z ∧ T (z - 1) = L t := by
  have hp := (hT t ht).1
  have h1 := cq_le (pp := pp) (t := t) (show t + 1 ≤ n by omega)
  rw [cq_t hp] at h1
  have h2 := h.2 t (Nat.le_refl t) ht hp
  rw [cq_lo (Nat.le_refl t)] at h2
  exact ⟨by rw [h.1]; omega, h2⟩
theorem Stk.step {L : Nat → Int32} {pp : Nat → Nat} {n t z N : Nat} {T T' : Nat → Int32} (h : Stk L pp n t z T) (hT : Tr L pp n) (ht : t < n) (hk : ∀ i, i < z - 1 → T' i = T i)
    (hr : (∀ m, m < n → pp m = t + 1 → ch pp (t + 1) m < N ∧ T' (z - 1 + N - 1 - ch pp (t + 1) m) = L m) ∧ ch pp (t + 1) n = N) : Stk L pp n (t + 1) (z - 1 + N) T' := by
  have hp : ∀ m, m < n → pp m ≤ m := fun m hm => (hT m hm).1
  have hz := (h.top hT ht).1
  have hn := cq_step (pp := pp) hp ht (m := n) (by omega) (Nat.le_refl n)
  have hz' := h.1
  refine ⟨by have := hr.2; omega, fun m h1 h2 h3 => ?_⟩
  have hm := cq_step (pp := pp) hp ht (m := m) h1 (by omega)
  by_cases z1 : pp m ≤ t
  · have e : ch pp (t + 1) m = N := by
      rw [← hr.2]
      exact (ch_eq (by omega) (fun j g1 g2 g3 => by
        rcases Nat.lt_or_eq_of_le g1 with y | y
        · have := hT.nest y g2 (by omega); omega
        · subst y; omega)).symm
    have g := h.2 m (by omega) h2 z1
    have g1 := cq_le (pp := pp) (t := t) (show t + 1 ≤ m by omega)
    rw [cq_t (hp t ht)] at g1
    have g2 : cq pp t m < cq pp t n := by
      have := cq_le (pp := pp) (t := t) (show m + 1 ≤ n by omega)
      rw [cq, if_pos ⟨by omega, z1⟩] at this
      omega
    rw [show z - 1 + N - 1 - cq pp (t + 1) m = z - 1 - cq pp t m by omega, hk _ (by omega)]
    exact g
  · have z2 : pp m = t + 1 := by omega
    have e : cq pp t m = 1 := by
      rw [← cq_t (pp := pp) (hp t ht)]
      exact cq_eq h1 (fun j g1 g2 g3 => by have := hT.nest g2 h2 (by omega); omega)
    obtain ⟨g1, g2⟩ := hr.1 m h2 z2
    rw [show z - 1 + N - 1 - cq pp (t + 1) m = z - 1 + N - 1 - ch pp (t + 1) m by omega]
    exact g2
theorem Stk.first {L : Nat → Int32} {pp : Nat → Nat} {n N : Nat} {T' : Nat → Int32} (hT : Tr L pp n) (hr : (∀ m, m < n → pp m = 0 → ch pp 0 m < N ∧ T' (0 + N - 1 - ch pp 0 m) = L m) ∧ ch pp 0 n = N) : Stk L pp n 0 N T' := by
  have e : ∀ m, cq pp 0 m = ch pp 0 m := by
    intro m
    induction m with
    | zero => rfl
    | succ m ih =>
      rw [cq, ch, ih]
      by_cases z : pp m = 0
      · rw [if_pos z, if_pos ⟨Nat.zero_le _, by omega⟩]
      · rw [if_neg z, if_neg (fun y => z (by omega))]
  refine ⟨by rw [e]; exact hr.2.symm, fun m _ h2 h3 => ?_⟩
  have := (hr.1 m h2 (by omega)).2
  rw [e]
  rw [Nat.zero_add] at this
  exact this
/-- the sorted children of what is told, as the rows have them -/
theorem Wv.rk {A : Nat → Nat → Int32} {n : Nat} {L : Nat → Int32} {pp : Nat → Nat} (h : Wv A n L pp) {T : Nat → Int32} {b : Int32} {c z1 N : Nat} (hc : ∀ m, m < n → (parL L pp m = b ↔ pp m = c)) (hs : Seg T (A 0) (A 1) b z1 (z1 + N) n) :
    (∀ m, m < n → pp m = c → ch pp c m < N ∧ T (z1 + N - 1 - ch pp c m) = L m) ∧ ch pp c n = N := by
  obtain ⟨w1, w2, w3, w4, w5, w6⟩ := h
  obtain ⟨s1, s2, s3⟩ := hs
  refine rank s1 (fun i h1 h2 => ?_) (fun m h1 h2 => ?_) w3 (fun m m2 h1 h2 h3 h4 => ?_)
  · obtain ⟨j, g1, g2, g3⟩ := s2 i h1 h2
    obtain ⟨m, f1, f2, f3⟩ := w1 j g1
    exact ⟨m, f1, (hc m f1).mp (by rw [f3, g2]), by rw [f2, g3]⟩
  · obtain ⟨k, g1, g2, g3⟩ := w2 m h1
    obtain ⟨i, f1, f2, f3⟩ := s3 k g1 (by rw [g3]; exact (hc m h1).mpr h2)
    exact ⟨i, f1, f2, by rw [f3, g2]⟩
  · have hm := (w6 m (by omega)).1
    exact (w6 m2 h2).2.1 m (by omega) h1
theorem Wv.c0 {A : Nat → Nat → Int32} {n : Nat} {L : Nat → Int32} {pp : Nat → Nat} (h : Wv A n L pp) : ∀ m, m < n → (parL L pp m = 0 ↔ pp m = 0) := fun m hm => by
  unfold parL
  have hp := (h.2.2.2.2.2 m hm).1
  cases e : pp m with
  | zero => simp
  | succ t =>
    simp only [Nat.succ_ne_zero, iff_false, Nat.add_eq_zero_iff, Nat.one_ne_zero, and_false]
    exact h.2.2.2.2.1 t (by omega)
theorem Wv.ct {A : Nat → Nat → Int32} {n : Nat} {L : Nat → Int32} {pp : Nat → Nat} (h : Wv A n L pp) {t : Nat} (ht : t < n) : ∀ m, m < n → (parL L pp m = L t ↔ pp m = t + 1) := fun m hm => by
  unfold parL
  have hp := (h.2.2.2.2.2 m hm).1
  cases e : pp m with
  | zero => simp only [Nat.zero_ne_add_one, iff_false]; exact fun z => h.2.2.2.2.1 t ht z.symm
  | succ u =>
    simp only [Nat.add_right_cancel_iff]
    exact ⟨fun z => h.2.2.1 u t (by omega) ht z, fun z => by rw [z]⟩
end
section
theorem va_up_id {α : Type} (f : Nat → α) (k : Nat) : va_up f k (f k) = f := by
  funext j
  by_cases h : j = k
  · rw [h, va_up_self]
  · rw [va_up_ne _ _ h]
theorem va_up_comm {α : Type} (f : Nat → α) {k j : Nat} (h : k ≠ j) (v w : α) : va_up (va_up f k v) j w = va_up (va_up f j w) k v := by
  funext i
  by_cases h1 : i = j
  · subst h1; rw [va_up_self, va_up_ne _ _ (Ne.symm h), va_up_self]
  · rw [va_up_ne _ _ h1]
    by_cases h2 : i = k
    · subst h2; rw [va_up_self, va_up_self]
    · rw [va_up_ne _ _ h2, va_up_ne _ _ h2, va_up_ne _ _ h1]
/-- the stack never holds more than there are elements -/
theorem cq_cap {pp : Nat → Nat} {t : Nat} : ∀ {m : Nat}, t ≤ m → cq pp t m ≤ m - t
  | 0, h => by rw [cq]; omega
  | m + 1, h => by
    rcases Nat.lt_or_eq_of_le h with z | z
    · have := cq_cap (pp := pp) (t := t) (m := m) (by omega)
      rw [cq]; split <;> omega
    · rw [cq_lo (by omega)]; omega
/-- the reference counts as many children as the rows have -/
theorem wv_cnt {A : Nat → Nat → Int32} {n : Nat} {L : Nat → Int32} {pp : Nat → Nat} (h : Wv A n L pp) {b : Int32} {c : Nat} (hc : ∀ m, m < n → (parL L pp m = b ↔ pp m = c)) : cntB (fun k => decide (A 1 k = b)) n = ch pp c n := by
  obtain ⟨w1, w2, w3, w4, w5, w6⟩ := h
  -- two ways of counting one set: by rows, by places
  have key : ∀ (k : Nat), k ≤ n → ∃ q : Nat → Bool, cntB (fun j => decide (A 1 j = b)) k = cntB q n ∧ ∀ m, m < n → (q m = true ↔ pp m = c ∧ ∃ j, j < k ∧ A 0 j = L m) := by
    intro k
    induction k with
    | zero =>
      intro _
      refine ⟨fun _ => false, ?_, fun m _ => ?_⟩
      · have : ∀ i, cntB (fun _ => false) i = 0 := fun i => by induction i with | zero => rfl | succ i ih => rw [cntB, ih]; rfl
        rw [this]; rfl
      · simp
    | succ k ih =>
      intro hk
      obtain ⟨q, e1, e2⟩ := ih (by omega)
      obtain ⟨m0, f1, f2, f3⟩ := w1 k (by omega)
      by_cases z : A 1 k = b
      · have hp0 : pp m0 = c := (hc m0 f1).mp (by rw [f3, z])
        have hq0 : q m0 = false := by
          cases e : q m0 with
          | false => rfl
          | true =>
            obtain ⟨_, j, g1, g2⟩ := (e2 m0 f1).mp e
            have := w4 j k (by omega) (by omega) (by rw [g2, f2])
            omega
        refine ⟨fun m => if m = m0 then true else q m, ?_, fun m hm => ?_⟩
        · rw [cntB, if_pos (decide_eq_true z), e1]
          have hh : ∀ i, cntB (fun m => if m = m0 then true else q m) i = cntB q i + (if m0 < i then 1 else 0) := by
            intro i
            induction i with
            | zero => rfl
            | succ i ih2 =>
              rw [cntB, cntB, ih2]
              by_cases y : i = m0
              · subst y
                simp [hq0]
              · rw [if_neg y]
                by_cases y2 : m0 < i
                · rw [if_pos y2, if_pos (show m0 < i + 1 by omega)]; omega
                · rw [if_neg y2, if_neg (show ¬ m0 < i + 1 by omega)]; omega
          rw [hh, if_pos f1]
        · by_cases y : m = m0
          · subst y
            simp only [if_true, true_iff]
            exact ⟨hp0, k, by omega, f2.symm⟩
          · show (if m = m0 then true else q m) = true ↔ _
            rw [if_neg y, e2 m hm]
            constructor
            · rintro ⟨g1, j, g2, g3⟩; exact ⟨g1, j, by omega, g3⟩
            · rintro ⟨g1, j, g2, g3⟩
              rcases Nat.lt_or_eq_of_le (Nat.lt_succ_iff.mp g2) with x | x
              · exact ⟨g1, j, x, g3⟩
              · subst x; exact absurd (w3 m m0 hm f1 (by rw [← g3, f2])) y
      · refine ⟨q, ?_, fun m hm => ?_⟩
        · rw [cntB, if_neg (by simp [z]), e1]; rfl
        · rw [e2 m hm]
          constructor
          · rintro ⟨g1, j, g2, g3⟩; exact ⟨g1, j, by omega, g3⟩
          · rintro ⟨g1, j, g2, g3⟩
            rcases Nat.lt_or_eq_of_le (Nat.lt_succ_iff.mp g2) with x | x
            · exact ⟨g1, j, x, g3⟩
            · subst x
              have : m = m0 := w3 m m0 hm f1 (by rw [← g3, f2])
              subst this
              exact absurd (by rw [← f3]; exact (hc m hm).mpr g1) z
  obtain ⟨q, e1, e2⟩ := key n (Nat.le_refl n)
  rw [e1]
  have hh : ∀ i, i ≤ n → cntB q i = ch pp c i := by
    intro i
    induction i with
    | zero => intro _; rfl
    | succ i ih =>
      intro hi
      rw [cntB, ch, ih (by omega)]
      by_cases y : pp i = c
      · obtain ⟨k, g1, g2, _⟩ := w2 i (by omega)
        rw [if_pos y, if_pos ((e2 i (by omega)).mpr ⟨y, k, g1, g2⟩)]
      · rw [if_neg y, if_neg (fun z => y ((e2 i (by omega)).mp z).1)]
  exact hh n (Nat.le_refl n)
theorem wv_cap {A : Nat → Nat → Int32} {n : Nat} {L : Nat → Int32} {pp : Nat → Nat} (h : Wv A n L pp) {t z : Nat} {T : Nat → Int32} (hS : Stk L pp n t z T) (ht : t < n) (hn : n ≤ 512 := by omega) : z - 1 + cntB (fun k => decide (A 1 k = L t)) n ≤ 512 := by
  rw [wv_cnt h (h.ct ht)]
  have h1 := cq_step (pp := pp) (fun m hm => (h.2.2.2.2.2 m hm).1) ht (m := n) (by omega) (Nat.le_refl n)
  have h2 := cq_cap (pp := pp) (t := t + 1) (m := n) (by omega)
  have h3 := hS.1
  omega
set_option maxHeartbeats 4000000 in
set_option maxRecDepth 100000 in
theorem c_X3_push (l : Launch) {D : va_G} {y : Nat} {a : Nat → Nat} {cI : ClassId} {n d : Nat} {th : Int32} {A : Nat → Nat → Int32} {sz : Nat} (v1 : Int32) (Z : Nat) (hcap : Z + cntB (fun k => decide (A 1 k = v1)) n ≤ 512) (hinj : ∀ a b, a < n → b < n → A 0 a = A 0 b → a = b) : Met l yX3_push (gws yX3_push cX3_push 7 (some .int)) { frames := 0, cells := 0, slots := 0, locals := 0 } (va_Pc [.ref y, .int v1, .int (nI Z)] (fun U => MPre D y a cI n d th A sz U U.heap)) (va_Qi (fun r (u : MS) => ∃ T, r = nI (Z + cntB (fun k => decide (A 1 k = v1)) n) ∧ u = (n, d, th, va_up A 9 T) ∧ (∀ i, i < Z → T i = A 9 i) ∧ Seg T (A 0) (A 1) v1 Z (Z + cntB (fun k => decide (A 1 k = v1)) n) n) (MB D y a cI (va_A (wM y a cI n d th A) sz)) (va_A (wM y a cI n d th A) sz)) 0 0 (va_A (wM y a cI n d th A) sz) := by
  refine met_mm (QQ := fun AA => va_Qi (fun r (u : MS) => ∃ T, r = nI (Z + cntB (fun k => decide (A 1 k = v1)) n) ∧ u = (n, d, th, va_up A 9 T) ∧ (∀ i, i < Z → T i = A 9 i) ∧ Seg T (A 0) (A 1) v1 Z (Z + cntB (fun k => decide (A 1 k = v1)) n) n) (MB D y a cI AA) AA) (by decide) (Nat.le_of_ble_eq_true rfl) ?_
  intro p e s m below meth c ls AA S hr hlocks hM hl
  obtain ⟨hx, hb, hml, hown, hg⟩ := id S
  have hl : lv_has ls 7 [(0, .ref y), (1, .int v1), (2, .int (nI Z))] := hl
  have hn := hM.bd
  suffices key9 : ∀ (H : Heap) (locs : List Loc), MM D y a cI n d th A AA s.heap s H locs → W p l e { frames := 0, cells := 0, slots := 0, locals := 0 } s m [.ref y, .int v1, .int (nI Z)].toArray below meth c H locs 0 0 (MQ below ((fun AA : Nat → Prop => va_Qi (fun r (u : MS) => ∃ T, r = nI (Z + cntB (fun k => decide (A 1 k = v1)) n) ∧ u = (n, d, th, va_up A 9 T) ∧ (∀ i, i < Z → T i = A 9 i) ∧ Seg T (A 0) (A 1) v1 Z (Z + cntB (fun k => decide (A 1 k = v1)) n) n) (MB D y a cI AA) AA) AA) [.ref y, .int v1, .int (nI Z)].toArray s 0 0 AA) (F0 m 0 ls []) from key9 _ _ hM
  clear hM
  intro H locs hM
  refine lv_iload_n hx hb dX3_push_0 rfl (lv_at hl 2 rfl) ?_
  refine lv_istore_n (lv' := [(3, .int (nI Z)), (0, .ref y), (1, .int v1), (2, .int (nI Z))]) hx hb dX3_push_1 rfl hl (by decide) rfl (fun ls hl => ?_)
  refine lv_iload_n hx hb dX3_push_2 rfl (lv_at hl 3 rfl) ?_
  refine lv_istore (lv' := [(4, .int (nI Z)), (3, .int (nI Z)), (0, .ref y), (1, .int v1), (2, .int (nI Z))]) hx hb dX3_push_3 hl (by decide) rfl (fun ls hl => ?_)
  refine lv_iconst (v := nI 0) hx hb dX3_push_5 (by decide) ?_
  refine lv_istore (lv' := [(5, .int (nI 0)), (4, .int (nI Z)), (3, .int (nI Z)), (0, .ref y), (1, .int v1), (2, .int (nI Z))]) hx hb dX3_push_6 hl (by decide) rfl (fun ls hl => ?_)
  suffices hloop : ∀ (fuel : Nat) (k q : Nat) (T : Nat → Int32), k ≤ n → n - k < fuel → q = Z + cntB (fun k => decide (A 1 k = v1)) k → (∀ i, i < Z → T i = A 9 i) → Seg T (A 0) (A 1) v1 Z q k → ∀ (H : Heap) (locs : List Loc), MM D y a cI n d th (va_up A 9 T) AA s.heap s H locs → ∀ ls : Array Slot, lv_has ls 7 [(5, .int (nI k)), (4, .int (nI q)), (0, .ref y), (1, .int v1), (2, .int (nI Z)), (3, .int (nI Z))] → W p l e { frames := 0, cells := 0, slots := 0, locals := 0 } s m [.ref y, .int v1, .int (nI Z)].toArray below meth c H locs 0 0 (MQ below ((fun AA : Nat → Prop => va_Qi (fun r (u : MS) => ∃ T, r = nI (Z + cntB (fun k => decide (A 1 k = v1)) n) ∧ u = (n, d, th, va_up A 9 T) ∧ (∀ i, i < Z → T i = A 9 i) ∧ Seg T (A 0) (A 1) v1 Z (Z + cntB (fun k => decide (A 1 k = v1)) n) n) (MB D y a cI AA) AA) AA) [.ref y, .int v1, .int (nI Z)].toArray s 0 0 AA) (F0 m 8 ls []) from hloop (n + 1) 0 Z (A 9) (by omega) (by omega) rfl (fun _ _ => rfl) Seg_0 _ _ (by rw [va_up_id]; exact hM) ls (lv_sub hl [0, 1, 3, 4, 5, 2] rfl)
  intro fuel
  induction fuel with
  | zero => intro k q T hk hf hq hT hSg; omega
  | succ fuel ih =>
    intro k q T hk hf hq hT hSg H locs hM ls hl
    refine lv_iload hx hb dX3_push_8 (lv_at hl 0 rfl) ?_
    refine lv_aload_n hx hb dX3_push_10 rfl (lv_at hl 2 rfl) ?_
    refine rM_many S hM.rd dX3_push_11 ?_
    refine lv_icmp_ge (tgt := 102) hx hb dX3_push_14 (by decide) (fun c_14 => ?_) (fun c_14 => ?_)
    · rw [nI_leI (by omega) (by omega)] at c_14
      refine lv_iload hx hb dX3_push_102 (lv_at hl 1 rfl) ?_
      exact W.iret (v := (nI q)) hx hb hr (fun t9 ht9 hW9 => ⟨⟨_, (n, d, th, (va_up A 9 T)), rfl, ⟨T, by rw [hq, show k = n by omega], rfl, hT, by rw [← show k = n by omega, ← hq]; exact hSg⟩, (hM.out ht9 hW9).1⟩, (hM.out ht9 hW9).2⟩) hM.S.2.2 dX3_push_104
    · rw [nI_leI (by omega) (by omega)] at c_14
      refine lv_aload_n hx hb dX3_push_17 rfl (lv_at hl 2 rfl) ?_
      refine rM_behinds S hM.rd dX3_push_18 ?_
      refine lv_iload hx hb dX3_push_21 (lv_at hl 0 rfl) ?_
      refine rM_ald S hM.rd 1 (by decide) (by show _ < 512; omega) dX3_push_23 ?_
      refine lv_iload_n hx hb dX3_push_24 rfl (lv_at hl 3 rfl) ?_
      refine lv_icmp_ne (tgt := 96) hx hb dX3_push_25 (by decide) (fun c_25 => ?_) (fun c_25 => ?_)
      · refine lv_iinc (v := nI (k + 1)) (lv' := [(5, .int (nI (k + 1))), (4, .int (nI q)), (0, .ref y), (1, .int v1), (2, .int (nI Z)), (3, .int (nI Z))]) hx hb dX3_push_96 hl (k := 0) rfl (nI_1 _) (by decide) rfl (fun ls hl => ?_)
        refine lv_goto (tgt := 8) hx hb dX3_push_99 (by decide) ?_
        exact ih (k + 1) q T (by omega) (by omega) (by rw [← cntB_n (p := (fun k => decide (A 1 k = v1))) (k := k) rfl (decide_eq_false c_25)]; exact hq) hT (Seg_n hSg c_25) _ _ hM ls (lv_sub hl [0, 1, 2, 3, 4, 5] rfl)
      · have hq5 := cntB_lt (p := (fun k => decide (A 1 k = v1))) (show k < n by omega) (decide_eq_true c_25)
        refine lv_iload hx hb dX3_push_28 (lv_at hl 1 rfl) ?_
        refine lv_istore (lv' := [(6, .int (nI q)), (5, .int (nI k)), (4, .int (nI q)), (0, .ref y), (1, .int v1), (2, .int (nI Z)), (3, .int (nI Z))]) hx hb dX3_push_30 hl (by decide) rfl (fun ls hl => ?_)
        suffices hloop2 : ∀ (fuel2 : Nat) (i : Nat) (T' : Nat → Int32), Z ≤ i → i ≤ q → i < fuel2 → Inn T T' i q (A 0 k) → ∀ (H : Heap) (locs : List Loc), MM D y a cI n d th (va_up A 9 T') AA s.heap s H locs → ∀ ls : Array Slot, lv_has ls 7 [(6, .int (nI i)), (5, .int (nI k)), (4, .int (nI q)), (0, .ref y), (1, .int v1), (2, .int (nI Z)), (3, .int (nI Z))] → W p l e { frames := 0, cells := 0, slots := 0, locals := 0 } s m [.ref y, .int v1, .int (nI Z)].toArray below meth c H locs 0 0 (MQ below ((fun AA : Nat → Prop => va_Qi (fun r (u : MS) => ∃ T, r = nI (Z + cntB (fun k => decide (A 1 k = v1)) n) ∧ u = (n, d, th, va_up A 9 T) ∧ (∀ i, i < Z → T i = A 9 i) ∧ Seg T (A 0) (A 1) v1 Z (Z + cntB (fun k => decide (A 1 k = v1)) n) n) (MB D y a cI AA) AA) AA) [.ref y, .int v1, .int (nI Z)].toArray s 0 0 AA) (F0 m 32 ls []) from hloop2 (q + 1) q T (by omega) (by omega) (by omega) Inn_0 _ _ hM ls (lv_sub hl [0, 1, 2, 3, 4, 5, 6] rfl)
        intro fuel2
        induction fuel2 with
        | zero => intro i T' hi1 hi2 hf2 hIn; omega
        | succ fuel2 ih2 =>
          intro i T' hi1 hi2 hf2 hIn H locs hM ls hl
          refine lv_iload hx hb dX3_push_32 (lv_at hl 0 rfl) ?_
          refine lv_iload_n hx hb dX3_push_34 rfl (lv_at hl 6 rfl) ?_
          refine lv_icmp_le (tgt := 79) hx hb dX3_push_35 (by decide) (fun c_35 => ?_) (fun c_35 => ?_)
          · rw [nI_leI (by omega) (by omega)] at c_35
            refine lv_aload_n hx hb dX3_push_79 rfl (lv_at hl 3 rfl) ?_
            refine rM_stack S hM.rd dX3_push_80 ?_
            refine lv_iload hx hb dX3_push_83 (lv_at hl 0 rfl) ?_
            refine lv_aload_n hx hb dX3_push_85 rfl (lv_at hl 3 rfl) ?_
            refine rM_ids S hM.rd dX3_push_86 ?_
            refine lv_iload hx hb dX3_push_89 (lv_at hl 1 rfl) ?_
            refine rM_ald S hM.rd 0 (by decide) (by show _ < 512; omega) dX3_push_91 ?_
            refine mw_ast9 (k := i) S hM (by omega) dX3_push_92 (fun H locs A_92 hA_92 hM => ?_)
            have hE9 : A_92 = va_up A 9 (upd T' i (A 0 k)) := by rw [hA_92, bx_uu, va_up_self] <;> rfl
            subst hE9
            refine lv_iinc (v := nI (q + 1)) (lv' := [(4, .int (nI (q + 1))), (6, .int (nI i)), (5, .int (nI k)), (0, .ref y), (1, .int v1), (2, .int (nI Z)), (3, .int (nI Z))]) hx hb dX3_push_93 hl (k := 2) rfl (nI_1 _) (by decide) rfl (fun ls hl => ?_)
            refine lv_iinc (v := nI (k + 1)) (lv' := [(5, .int (nI (k + 1))), (4, .int (nI (q + 1))), (6, .int (nI i)), (0, .ref y), (1, .int v1), (2, .int (nI Z)), (3, .int (nI Z))]) hx hb dX3_push_96 hl (k := 2) rfl (nI_1 _) (by decide) rfl (fun ls hl => ?_)
            refine lv_goto (tgt := 8) hx hb dX3_push_99 (by decide) ?_
            exact ih (k + 1) (q + 1) _ (by omega) (by omega) (by rw [← cntB_s (p := (fun k => decide (A 1 k = v1))) (k := k) rfl (decide_eq_true c_25)]; omega) (fun i9 h9 => by rw [pk_un (by omega), hIn.1 i9 (by omega)]; exact hT i9 h9) (Seg_s hSg hIn c_25 (by omega) (by omega) (Or.inl (by omega)) (fun j hj e => absurd (hinj j k (by omega) (by omega) e) (by omega))) _ _ hM ls (lv_sub hl [0, 1, 3, 4, 5, 6] rfl)
          · rw [nI_leI (by omega) (by omega)] at c_35
            refine lv_aload_n hx hb dX3_push_38 rfl (lv_at hl 3 rfl) ?_
            refine rM_stack S hM.rd dX3_push_39 ?_
            refine lv_iload hx hb dX3_push_42 (lv_at hl 0 rfl) ?_
            refine lv_iconst (v := nI 1) hx hb dX3_push_44 (by decide) ?_
            refine lv_isub hx hb dX3_push_45 ?_
            rw [pk_sub (by omega)]
            refine rM_ald S hM.rd 9 (by decide) (by show _ < 512; omega) dX3_push_46 ?_
            refine lv_aload_n hx hb dX3_push_47 rfl (lv_at hl 3 rfl) ?_
            refine rM_ids S hM.rd dX3_push_48 ?_
            refine lv_iload hx hb dX3_push_51 (lv_at hl 1 rfl) ?_
            refine rM_ald S hM.rd 0 (by decide) (by show _ < 512; omega) dX3_push_53 ?_
            refine lv_icmp_le (tgt := 79) hx hb dX3_push_54 (by decide) (fun c_54 => ?_) (fun c_54 => ?_)
            · refine lv_aload_n hx hb dX3_push_79 rfl (lv_at hl 3 rfl) ?_
              refine rM_stack S hM.rd dX3_push_80 ?_
              refine lv_iload hx hb dX3_push_83 (lv_at hl 0 rfl) ?_
              refine lv_aload_n hx hb dX3_push_85 rfl (lv_at hl 3 rfl) ?_
              refine rM_ids S hM.rd dX3_push_86 ?_
              refine lv_iload hx hb dX3_push_89 (lv_at hl 1 rfl) ?_
              refine rM_ald S hM.rd 0 (by decide) (by show _ < 512; omega) dX3_push_91 ?_
              refine mw_ast9 (k := i) S hM (by omega) dX3_push_92 (fun H locs A_92 hA_92 hM => ?_)
              have hE9 : A_92 = va_up A 9 (upd T' i (A 0 k)) := by rw [hA_92, bx_uu, va_up_self] <;> rfl
              subst hE9
              refine lv_iinc (v := nI (q + 1)) (lv' := [(4, .int (nI (q + 1))), (6, .int (nI i)), (5, .int (nI k)), (0, .ref y), (1, .int v1), (2, .int (nI Z)), (3, .int (nI Z))]) hx hb dX3_push_93 hl (k := 2) rfl (nI_1 _) (by decide) rfl (fun ls hl => ?_)
              refine lv_iinc (v := nI (k + 1)) (lv' := [(5, .int (nI (k + 1))), (4, .int (nI (q + 1))), (6, .int (nI i)), (0, .ref y), (1, .int v1), (2, .int (nI Z)), (3, .int (nI Z))]) hx hb dX3_push_96 hl (k := 2) rfl (nI_1 _) (by decide) rfl (fun ls hl => ?_)
              refine lv_goto (tgt := 8) hx hb dX3_push_99 (by decide) ?_
              exact ih (k + 1) (q + 1) _ (by omega) (by omega) (by rw [← cntB_s (p := (fun k => decide (A 1 k = v1))) (k := k) rfl (decide_eq_true c_25)]; omega) (fun i9 h9 => by rw [pk_un (by omega), hIn.1 i9 (by omega)]; exact hT i9 h9) (Seg_s hSg hIn c_25 (by omega) (by omega) (Or.inr (i32_nlt.mpr c_54)) (fun j hj e => absurd (hinj j k (by omega) (by omega) e) (by omega))) _ _ hM ls (lv_sub hl [0, 1, 3, 4, 5, 6] rfl)
            · refine lv_aload_n hx hb dX3_push_57 rfl (lv_at hl 3 rfl) ?_
              refine rM_stack S hM.rd dX3_push_58 ?_
              refine lv_iload hx hb dX3_push_61 (lv_at hl 0 rfl) ?_
              refine lv_aload_n hx hb dX3_push_63 rfl (lv_at hl 3 rfl) ?_
              refine rM_stack S hM.rd dX3_push_64 ?_
              refine lv_iload hx hb dX3_push_67 (lv_at hl 0 rfl) ?_
              refine lv_iconst (v := nI 1) hx hb dX3_push_69 (by decide) ?_
              refine lv_isub hx hb dX3_push_70 ?_
              rw [pk_sub (by omega)]
              refine rM_ald S hM.rd 9 (by decide) (by show _ < 512; omega) dX3_push_71 ?_
              refine mw_ast9 (k := i) S hM (by omega) dX3_push_72 (fun H locs A_72 hA_72 hM => ?_)
              have hE9 : A_72 = va_up A 9 (upd T' i (T' (i - 1))) := by rw [hA_72, bx_uu, va_up_self] <;> rfl
              subst hE9
              refine lv_iinc (v := nI (i - 1)) (lv' := [(6, .int (nI (i - 1))), (5, .int (nI k)), (4, .int (nI q)), (0, .ref y), (1, .int v1), (2, .int (nI Z)), (3, .int (nI Z))]) hx hb dX3_push_73 hl (k := 0) rfl (sb_m1 (by omega)) (by decide) rfl (fun ls hl => ?_)
              refine lv_goto (tgt := 32) hx hb dX3_push_76 (by decide) ?_
              exact ih2 (i - 1) _ (by omega) (by omega) (by omega) (Inn_s hIn (by omega) (i32_nle.mp c_54) hi2) _ _ hM ls (lv_sub hl [0, 1, 2, 3, 4, 5, 6] rfl)
set_option maxHeartbeats 4000000 in
set_option maxRecDepth 100000 in
theorem c_X3_weave (l : Launch) {D : va_G} {y : Nat} {a : Nat → Nat} {cI : ClassId} {n d : Nat} {th : Int32} {A : Nat → Nat → Int32} {sz : Nat}  {L : Nat → Int32} {pp : Nat → Nat} (hWv : Wv A n L pp) : Met l yX3_weave (gws yX3_weave cX3_weave 4 none) { frames := 1, cells := 0, slots := 0, locals := 26 } (va_Pc [.ref y] (fun U => MPre D y a cI n d th A sz U U.heap)) (va_Qv (fun (u : MS) => ∃ T O, u = (n, d, th, va_up (va_up A 9 T) 8 O) ∧ ∀ i, i < n → O i = L i) (MB D y a cI (va_A (wM y a cI n d th A) sz)) (va_A (wM y a cI n d th A) sz)) 0 0 (va_A (wM y a cI n d th A) sz) := by
  refine met_mm (QQ := fun AA => va_Qv (fun (u : MS) => ∃ T O, u = (n, d, th, va_up (va_up A 9 T) 8 O) ∧ ∀ i, i < n → O i = L i) (MB D y a cI AA) AA) (by decide) (Nat.le_of_ble_eq_true rfl) ?_
  intro p e s m below meth c ls AA S hr hlocks hM hl
  obtain ⟨hx, hb, hml, hown, hg⟩ := id S
  have hl : lv_has ls 4 [(0, .ref y)] := hl
  have hn := hM.bd
  suffices key9 : ∀ (H : Heap) (locs : List Loc), MM D y a cI n d th A AA s.heap s H locs → W p l e { frames := 1, cells := 0, slots := 0, locals := 26 } s m [.ref y].toArray below meth c H locs 0 0 (MQ below ((fun AA : Nat → Prop => va_Qv (fun (u : MS) => ∃ T O, u = (n, d, th, va_up (va_up A 9 T) 8 O) ∧ ∀ i, i < n → O i = L i) (MB D y a cI AA) AA) AA) [.ref y].toArray s 0 0 AA) (F0 m 0 ls []) from key9 _ _ hM
  clear hM
  intro H locs hM
  refine lv_aload_n hx hb dX3_weave_0 rfl (lv_at hl 0 rfl) ?_
  refine lv_iconst (v := 0) hx hb dX3_weave_1 (by decide) ?_
  refine lv_iconst (v := nI 0) hx hb dX3_weave_2 (by decide) ?_
  refine va_calli (runV (As := [.int 0, .int (nI 0)]) (rest := []) (Bh := MPre D y a cI n d th A H.size) S (c_X3_push l 0 0 (by have := cntB_le (fun k => decide (A 1 k = 0)) n; omega) hWv.2.2.2.1) (gw_V wk_462 wk_464 wp_29 wk_4 wk_465) rfl rfl 2 rfl (by decide +kernel) (by decide) ⟨Nat.le_refl _, Nat.le_refl _⟩ (fun _ _ _ h q => MPre.mv h q) hM.recv hM.pre hl.1 (Nat.le_of_ble_eq_true rfl) dX3_weave_3) hM.S (fun q _ h => hM.free q h) hM.free (fun r_3 u8 t8 H1 locs1 ht8 hvm8 hp hB8 hz8 hk8 hS8 => ?_)
  obtain ⟨n_3, d_3, th_3, A_3⟩ := u8
  have hM := hM.back ht8 hB8 hS8
  generalize H1 = H at hM ⊢
  generalize locs1 = locs at hM ⊢
  dsimp only at hp hM
  obtain ⟨T_3, rfl, hu, hT_3, hS_3⟩ := hp
  obtain ⟨rfl, rfl, rfl, rfl⟩ : n = n_3 ∧ d = d_3 ∧ th = th_3 ∧ va_up A 9 T_3 = A_3 := by have z := hu; simp only [Prod.mk.injEq] at z; exact ⟨z.1.symm, z.2.1.symm, z.2.2.1.symm, z.2.2.2.symm⟩
  have hSt : Stk L pp n 0 (0 + cntB (fun k => decide (A 1 k = 0)) n) T_3 := by rw [Nat.zero_add]; exact Stk.first hWv.2.2.2.2.2 (hWv.rk hWv.c0 hS_3)
  refine lv_istore_n (lv' := [(1, .int (nI (0 + cntB (fun k => decide (A 1 k = 0)) n))), (0, .ref y)]) hx hb dX3_weave_6 rfl hl (by decide) rfl (fun ls hl => ?_)
  refine lv_iconst (v := nI 0) hx hb dX3_weave_7 (by decide) ?_
  refine lv_istore_n (lv' := [(2, .int (nI 0)), (1, .int (nI (0 + cntB (fun k => decide (A 1 k = 0)) n))), (0, .ref y)]) hx hb dX3_weave_8 rfl hl (by decide) rfl (fun ls hl => ?_)
  suffices hloop : ∀ (fuel : Nat) (t z : Nat) (T O : Nat → Int32), t ≤ n → n - t < fuel → z ≤ 512 → Stk L pp n t z T → (∀ i, i < t → O i = L i) → ∀ (H : Heap) (locs : List Loc), MM D y a cI n d th (va_up (va_up A 9 T) 8 O) AA s.heap s H locs → ∀ ls : Array Slot, lv_has ls 4 [(1, .int (nI z)), (2, .int (nI t)), (0, .ref y)] → W p l e { frames := 1, cells := 0, slots := 0, locals := 26 } s m [.ref y].toArray below meth c H locs 0 0 (MQ below ((fun AA : Nat → Prop => va_Qv (fun (u : MS) => ∃ T O, u = (n, d, th, va_up (va_up A 9 T) 8 O) ∧ ∀ i, i < n → O i = L i) (MB D y a cI AA) AA) AA) [.ref y].toArray s 0 0 AA) (F0 m 9 ls []) from hloop (n + 1) 0 _ T_3 (A 8) (by omega) (by omega) (by have := cntB_le (fun k => decide (A 1 k = 0)) n; omega) hSt (fun _ h => absurd h (Nat.not_lt_zero _)) _ _ (by rw [show va_up (va_up A 9 T_3) 8 (A 8) = va_up A 9 T_3 from by rw [← va_up_ne A (k := 9) (j := 8) T_3 (by decide)]; exact va_up_id _ 8]; exact hM) ls (lv_sub hl [1, 0, 2] rfl)
  intro fuel
  induction fuel with
  | zero => intro t z T O ht hf hz5 hSt hO; omega
  | succ fuel ih =>
    intro t z T O ht hf hz5 hSt hO H locs hM ls hl
    refine lv_iload_n hx hb dX3_weave_9 rfl (lv_at hl 0 rfl) ?_
    refine lv_if_le (tgt := 43) hx hb dX3_weave_10 (by decide) (fun c_10 => ?_) (fun c_10 => ?_)
    · have htn9 : n ≤ t := by
        rcases Nat.lt_or_ge t n with y9 | y9
        · exact absurd c_10 (nI_nle (hSt.top hWv.2.2.2.2.2 y9).1 (by omega))
        · exact y9
      exact W.vret hx hb hr (fun t9 ht9 hW9 => ⟨⟨(n, d, th, (va_up (va_up A 9 T) 8 O)), rfl, ⟨T, O, rfl, fun i9 h9 => hO i9 (by omega)⟩, (hM.out ht9 hW9).1⟩, (hM.out ht9 hW9).2⟩) hM.S.2.2 dX3_weave_43
    · have htn : t < n := by
        rcases Nat.lt_or_ge t n with y9 | y9
        · exact y9
        · exact absurd (show nI z ≤ 0 from by rw [hSt.1, cq_lo y9]; exact Int32.le_refl _) c_10
      obtain ⟨hz0, htop⟩ := hSt.top hWv.2.2.2.2.2 htn
      refine lv_iinc (v := nI (z - 1)) (lv' := [(1, .int (nI (z - 1))), (2, .int (nI t)), (0, .ref y)]) hx hb dX3_weave_13 hl (k := 0) rfl (sb_m1 hz0) (by decide) rfl (fun ls hl => ?_)
      refine lv_aload_n hx hb dX3_weave_16 rfl (lv_at hl 2 rfl) ?_
      refine rM_stack S hM.rd dX3_weave_17 ?_
      refine lv_iload_n hx hb dX3_weave_20 rfl (lv_at hl 0 rfl) ?_
      refine rM_ald S hM.rd 9 (by decide) (by show _ < 512; omega) dX3_weave_21 ?_
      rw [show (va_up (va_up A 9 T) 8 O) 9 (z - 1) = L t from htop]
      refine lv_istore_n (lv' := [(3, .int (L t)), (1, .int (nI (z - 1))), (2, .int (nI t)), (0, .ref y)]) hx hb dX3_weave_22 rfl hl (by decide) rfl (fun ls hl => ?_)
      refine lv_aload_n hx hb dX3_weave_23 rfl (lv_at hl 3 rfl) ?_
      refine rM_order S hM.rd dX3_weave_24 ?_
      refine lv_iload_n hx hb dX3_weave_27 rfl (lv_at hl 2 rfl) ?_
      refine lv_iload_n hx hb dX3_weave_28 rfl (lv_at hl 0 rfl) ?_
      refine mw_ast8 (k := t) S hM (by omega) dX3_weave_29 (fun H locs A_29 hA_29 hM => ?_)
      have hE9 : A_29 = va_up (va_up A 9 T) 8 (upd O t (L t)) := by rw [hA_29, bx_uu, va_up_self] <;> rfl
      subst hE9
      refine lv_iinc (v := nI (t + 1)) (lv' := [(2, .int (nI (t + 1))), (3, .int (L t)), (1, .int (nI (z - 1))), (0, .ref y)]) hx hb dX3_weave_30 hl (k := 2) rfl (nI_1 _) (by decide) rfl (fun ls hl => ?_)
      refine lv_aload_n hx hb dX3_weave_33 rfl (lv_at hl 3 rfl) ?_
      refine lv_iload_n hx hb dX3_weave_34 rfl (lv_at hl 1 rfl) ?_
      refine lv_iload_n hx hb dX3_weave_35 rfl (lv_at hl 2 rfl) ?_
      have hcap9 : z - 1 + cntB (fun k => decide (A 1 k = L t)) n ≤ 512 := wv_cap hWv hSt htn
      refine va_calli (runV (As := [.int (L t), .int (nI (z - 1))]) (rest := []) (Bh := MPre D y a cI n d th (va_up (va_up A 9 T) 8 (upd O t (L t))) H.size) S (c_X3_push l (L t) (z - 1) hcap9 hWv.2.2.2.1) (gw_V wk_462 wk_464 wp_29 wk_4 wk_465) rfl rfl 2 rfl (by decide +kernel) (by decide) ⟨Nat.le_refl _, Nat.le_refl _⟩ (fun _ _ _ h q => MPre.mv h q) hM.recv hM.pre hl.1 (Nat.le_of_ble_eq_true rfl) dX3_weave_36) hM.S (fun q _ h => hM.free q h) hM.free (fun r_36 u8 t8 H1 locs1 ht8 hvm8 hp hB8 hz8 hk8 hS8 => ?_)
      obtain ⟨n_36, d_36, th_36, A_36⟩ := u8
      have hM := hM.back ht8 hB8 hS8
      generalize H1 = H at hM ⊢
      generalize locs1 = locs at hM ⊢
      dsimp only at hp hM
      obtain ⟨T_36, rfl, hu, hT_36, hS_36⟩ := hp
      obtain ⟨rfl, rfl, rfl, rfl⟩ : n = n_36 ∧ d = d_36 ∧ th = th_36 ∧ va_up (va_up (va_up A 9 T) 8 (upd O t (L t))) 9 T_36 = A_36 := by have z := hu; simp only [Prod.mk.injEq] at z; exact ⟨z.1.symm, z.2.1.symm, z.2.2.1.symm, z.2.2.2.symm⟩
      rw [va_up_comm _ (by decide), bx_uu] at hM
      refine lv_istore_n (lv' := [(1, .int (nI (z - 1 + cntB (fun k => decide (A 1 k = L t)) n))), (2, .int (nI (t + 1))), (3, .int (L t)), (0, .ref y)]) hx hb dX3_weave_39 rfl hl (by decide) rfl (fun ls hl => ?_)
      refine lv_goto (tgt := 9) hx hb dX3_weave_40 (by decide) ?_
      have hO9 : ∀ i9, i9 < t + 1 → upd O t (L t) i9 = L i9 := fun i9 h9 => by
        by_cases e9 : i9 = t
        · rw [e9, pk_us]
        · rw [pk_un e9]; exact hO i9 (by omega)
      exact ih (t + 1) (z - 1 + cntB (fun k => decide (A 1 k = L t)) n) T_36 _ (by omega) (by omega) hcap9 (hSt.step hWv.2.2.2.2.2 htn hT_36 (hWv.rk (hWv.ct htn) hS_36)) hO9 _ _ hM ls (lv_sub hl [0, 1, 3] rfl)
end
section
def Scr (A A' : Nat → Nat → Int32) : Prop := ∀ j, j < 8 → A' j = A j
theorem Scr.rem {A A' : Nat → Nat → Int32} (h : Scr A A') (v : Int32) : ∀ k, remB A' v k = remB A v k
  | 0 => rfl
  | k + 1 => by rw [remB, remB, h.rem v k, h 5 (by decide), h 6 (by decide)]
theorem Scr.of {A A' : Nat → Nat → Int32} (h : Scr A A') {n d : Nat} {v r : Int32} {a b : Nat} (ha : a < 8) (hb : b < 8) (hO : OfM A' n d v a b r) : OfM A n d v a b r := by
  unfold OfM SetM at hO ⊢
  rw [h 5 (by decide), h 6 (by decide), h 4 (by decide), h 0 (by decide), h a ha, h b hb] at hO
  exact hO
theorem Scr.up (A : Nat → Nat → Int32) (T O : Nat → Int32) : Scr A (va_up (va_up A 9 T) 8 O) := fun j hj => by rw [va_up_ne _ _ (by omega), va_up_ne _ _ (by omega)]
/-- the reference's arrays and the rows: the order, and which are removed -/
def Cor (A : Nat → Nat → Int32) (n d : Nat) (L : Nat → Int32) (pp : Nat → Nat) (G : Nat → Int32) : Prop := Wv A n L pp ∧ (∀ m, m < n → ¬ L m < 0) ∧ ∀ m, m < n → (G m = 0 ↔ remB A (L m) d = false)
theorem Cor.no {A : Nat → Nat → Int32} {n d : Nat} {L : Nat → Int32} {pp : Nat → Nat} {G : Nat → Int32} (h : Cor A n d L pp G) {v : Int32} (hv : ∀ k, k < n → ¬ A 0 k = v) : ∀ m, m < n → ¬ L m = v := fun m hm e => by
  obtain ⟨k, g1, g2, _⟩ := h.1.2.1 m hm
  exact hv k g1 (by rw [g2, e])
theorem Cor.ex {A : Nat → Nat → Int32} {n d : Nat} {L : Nat → Int32} {pp : Nat → Nat} {G : Nat → Int32} (h : Cor A n d L pp G) {v : Int32} {k : Nat} (hk : k < n) (hv : A 0 k = v) : ∃ m, m < n ∧ L m = v := by
  obtain ⟨m, g1, g2, _⟩ := h.1.1 k hk
  exact ⟨m, g1, by rw [g2, hv]⟩
theorem Cor.ex' {A : Nat → Nat → Int32} {n d : Nat} {L : Nat → Int32} {pp : Nat → Nat} {G : Nat → Int32} (h : Cor A n d L pp G) {m : Nat} (hm : m < n) : ∃ k, k < n ∧ A 0 k = L m := by
  obtain ⟨k, g1, g2, _⟩ := h.1.2.1 m hm
  exact ⟨k, g1, g2⟩
theorem sub_dec (v : Int32) (c : Nat) : v - nI c + (-1) = v - nI (c + 1) := by
  rw [nI_succ, Int32.sub_eq_add_neg, Int32.sub_eq_add_neg, Int32.neg_add, Int32.sub_eq_add_neg, Int32.add_assoc]
theorem sub_0 {v : Int32} {c : Nat} (h : v - nI c = 0) : nI c = v := by
  have h2 : v - nI c + nI c = 0 + nI c := by rw [h]
  rw [Int32.sub_add_cancel, Int32.zero_add] at h2
  exact h2.symm
theorem sub_n0 {v : Int32} {c : Nat} (h : ¬ v - nI c = 0) : ¬ nI c = v := fun e => h (by rw [e]; exact Int32.sub_self v)
theorem i32_3 {v : Int32} (h0 : ¬ v < 0) (h1 : v ≤ 3) (n0 : ¬ v = 0) (n1 : ¬ v = 1) (n2 : ¬ v = 2) : v = 3 := by
  have e0 : (0 : Int32).toInt = 0 := by decide
  have e1 : (1 : Int32).toInt = 1 := by decide
  have e2 : (2 : Int32).toInt = 2 := by decide
  have e3 : (3 : Int32).toInt = 3 := by decide
  rw [Int32.lt_iff_toInt_lt, e0] at h0
  rw [Int32.le_iff_toInt_le, e3] at h1
  have m0 : ¬ v.toInt = 0 := fun z => n0 (Int32.toInt_inj.mp (by rw [z, e0]))
  have m1 : ¬ v.toInt = 1 := fun z => n1 (Int32.toInt_inj.mp (by rw [z, e1]))
  have m2 : ¬ v.toInt = 2 := fun z => n2 (Int32.toInt_inj.mp (by rw [z, e2]))
  exact Int32.toInt_inj.mp (by rw [e3]; omega)
theorem i32_not03 {v : Int32} (h : v < 0 ∨ ¬ v ≤ 3) : ¬ v = 0 ∧ ¬ v = 1 ∧ ¬ v = 2 ∧ ¬ v = 3 := by
  refine ⟨fun e => ?_, fun e => ?_, fun e => ?_, fun e => ?_⟩ <;> (subst e; revert h; decide)
set_option maxHeartbeats 4000000 in
set_option maxRecDepth 100000 in
theorem c_X3_elementAt (l : Launch) {D : va_G} {y : Nat} {a : Nat → Nat} {cI : ClassId} {n d : Nat} {th : Int32} {A : Nat → Nat → Int32} {sz : Nat} (v1 : Int32) {L : Nat → Int32} {pp : Nat → Nat} {G : Nat → Int32} (hCo : Cor A n d L pp G) : Met l yX3_elementAt (gws yX3_elementAt cX3_elementAt 4 (some .int)) { frames := 2, cells := 0, slots := 0, locals := 49 } (va_Pc [.ref y, .int v1] (fun U => MPre D y a cI n d th A sz U U.heap)) (va_Qi (fun r (u : MS) => ((∃ k, k < n ∧ G k = 0 ∧ nI (vis G k) = v1 ∧ r = L k) ∨ ((∀ k, k < n → G k = 0 → ¬ nI (vis G k) = v1) ∧ r = -1)) ∧ u.1 = n ∧ u.2.1 = d ∧ u.2.2.1 = th ∧ Scr A u.2.2.2) (MB D y a cI (va_A (wM y a cI n d th A) sz)) (va_A (wM y a cI n d th A) sz)) 0 0 (va_A (wM y a cI n d th A) sz) := by
  refine met_mm (QQ := fun AA => va_Qi (fun r (u : MS) => ((∃ k, k < n ∧ G k = 0 ∧ nI (vis G k) = v1 ∧ r = L k) ∨ ((∀ k, k < n → G k = 0 → ¬ nI (vis G k) = v1) ∧ r = -1)) ∧ u.1 = n ∧ u.2.1 = d ∧ u.2.2.1 = th ∧ Scr A u.2.2.2) (MB D y a cI AA) AA) (by decide) (Nat.le_of_ble_eq_true rfl) ?_
  intro p e s m below meth c ls AA S hr hlocks hM hl
  obtain ⟨hx, hb, hml, hown, hg⟩ := id S
  have hl : lv_has ls 4 [(0, .ref y), (1, .int v1)] := hl
  have hn := hM.bd
  suffices key9 : ∀ (H : Heap) (locs : List Loc), MM D y a cI n d th A AA s.heap s H locs → W p l e { frames := 2, cells := 0, slots := 0, locals := 49 } s m [.ref y, .int v1].toArray below meth c H locs 0 0 (MQ below ((fun AA : Nat → Prop => va_Qi (fun r (u : MS) => ((∃ k, k < n ∧ G k = 0 ∧ nI (vis G k) = v1 ∧ r = L k) ∨ ((∀ k, k < n → G k = 0 → ¬ nI (vis G k) = v1) ∧ r = -1)) ∧ u.1 = n ∧ u.2.1 = d ∧ u.2.2.1 = th ∧ Scr A u.2.2.2) (MB D y a cI AA) AA) AA) [.ref y, .int v1].toArray s 0 0 AA) (F0 m 0 ls []) from key9 _ _ hM
  clear hM
  intro H locs hM
  refine lv_aload_n hx hb dX3_elementAt_0 rfl (lv_at hl 0 rfl) ?_
  refine va_callv (runV (As := []) (rest := []) (Bh := MPre D y a cI n d th A H.size) S (c_X3_weave l hCo.1) (gw_V wk_458 wk_460 wp_28 wk_4 wk_461) rfl rfl 0 rfl (by decide +kernel) (by decide) ⟨Nat.le_refl _, Nat.le_refl _⟩ (fun _ _ _ h q => MPre.mv h q) hM.recv hM.pre hl.1 (Nat.le_of_ble_eq_true rfl) dX3_elementAt_1) hM.S (fun q _ h => hM.free q h) hM.free (fun u8 t8 H1 locs1 ht8 hvm8 hp hB8 hz8 hk8 hS8 => ?_)
  obtain ⟨n_1, d_1, th_1, A_1⟩ := u8
  have hM := hM.back ht8 hB8 hS8
  generalize H1 = H at hM ⊢
  generalize locs1 = locs at hM ⊢
  dsimp only at hp hM
  obtain ⟨T_1, O_1, hu, hO⟩ := hp
  obtain ⟨rfl, rfl, rfl, hA9⟩ : n = n_1 ∧ d = d_1 ∧ th = th_1 ∧ A_1 = va_up (va_up A 9 T_1) 8 O_1 := by have z := hu; simp only [Prod.mk.injEq] at z; exact ⟨z.1.symm, z.2.1.symm, z.2.2.1.symm, z.2.2.2⟩
  have hsc : Scr A A_1 := by rw [hA9]; exact Scr.up A _ _
  have hO : ∀ i, i < n → A_1 8 i = L i := fun i h => by rw [hA9, va_up_self]; exact hO i h
  clear hA9 hu
  refine lv_iload_n hx hb dX3_elementAt_4 rfl (lv_at hl 1 rfl) ?_
  refine lv_istore_n (lv' := [(2, .int v1), (0, .ref y), (1, .int v1)]) hx hb dX3_elementAt_5 rfl hl (by decide) rfl (fun ls hl => ?_)
  refine lv_iconst (v := nI 0) hx hb dX3_elementAt_6 (by decide) ?_
  refine lv_istore_n (lv' := [(3, .int (nI 0)), (2, .int v1), (0, .ref y), (1, .int v1)]) hx hb dX3_elementAt_7 rfl hl (by decide) rfl (fun ls hl => ?_)
  suffices hloop : ∀ (fuel : Nat) (k : Nat) (lf : Int32), k ≤ n → n - k < fuel → lf = v1 - nI (vis G k) → (∀ j, j < k → G j = 0 → ¬ nI (vis G j) = v1) → ∀ ls : Array Slot, lv_has ls 4 [(3, .int (nI k)), (2, .int lf), (0, .ref y), (1, .int v1)] → W p l e { frames := 2, cells := 0, slots := 0, locals := 49 } s m [.ref y, .int v1].toArray below meth c H locs 0 0 (MQ below ((fun AA : Nat → Prop => va_Qi (fun r (u : MS) => ((∃ k, k < n ∧ G k = 0 ∧ nI (vis G k) = v1 ∧ r = L k) ∨ ((∀ k, k < n → G k = 0 → ¬ nI (vis G k) = v1) ∧ r = -1)) ∧ u.1 = n ∧ u.2.1 = d ∧ u.2.2.1 = th ∧ Scr A u.2.2.2) (MB D y a cI AA) AA) AA) [.ref y, .int v1].toArray s 0 0 AA) (F0 m 8 ls []) from hloop (n + 1) 0 v1 (by omega) (by omega) (by rw [vis, show (nI 0 : Int32) = 0 from rfl, Int32.sub_zero]) (fun _ h => absurd h (Nat.not_lt_zero _))  ls (lv_sub hl [0, 1, 2, 3] rfl)
  intro fuel
  induction fuel with
  | zero => intro k lf hk hf hlf hI; omega
  | succ fuel ih =>
    intro k lf hk hf hlf hI  ls hl
    refine lv_iload_n hx hb dX3_elementAt_8 rfl (lv_at hl 0 rfl) ?_
    refine lv_aload_n hx hb dX3_elementAt_9 rfl (lv_at hl 2 rfl) ?_
    refine rM_many S hM.rd dX3_elementAt_10 ?_
    refine lv_icmp_ge (tgt := 53) hx hb dX3_elementAt_13 (by decide) (fun c_13 => ?_) (fun c_13 => ?_)
    · rw [nI_leI (by omega) (by omega)] at c_13
      refine lv_iconst (v := (-1)) hx hb dX3_elementAt_53 (by decide) ?_
      exact W.iret (v := (-1)) hx hb hr (fun t9 ht9 hW9 => ⟨⟨_, (n, d, th, A_1), rfl, ⟨Or.inr ⟨fun j hj => hI j (by omega), rfl⟩, ⟨rfl, rfl, rfl, hsc⟩⟩, (hM.out ht9 hW9).1⟩, (hM.out ht9 hW9).2⟩) hM.S.2.2 dX3_elementAt_54
    · rw [nI_leI (by omega) (by omega)] at c_13
      refine lv_iload_n hx hb dX3_elementAt_16 rfl (lv_at hl 3 rfl) ?_
      refine lv_if_lt (tgt := 53) hx hb dX3_elementAt_17 (by decide) (fun c_17 => ?_) (fun c_17 => ?_)
      · refine lv_iconst (v := (-1)) hx hb dX3_elementAt_53 (by decide) ?_
        exact W.iret (v := (-1)) hx hb hr (fun t9 ht9 hW9 => ⟨⟨_, (n, d, th, A_1), rfl, ⟨Or.inr ⟨fun j hj _ e => nI_pos (n := vis G j) (by have := vis_le G j; omega) (by rw [e]; exact c_17), rfl⟩, ⟨rfl, rfl, rfl, hsc⟩⟩, (hM.out ht9 hW9).1⟩, (hM.out ht9 hW9).2⟩) hM.S.2.2 dX3_elementAt_54
      · refine lv_aload_n hx hb dX3_elementAt_20 rfl (lv_at hl 2 rfl) ?_
        refine lv_aload_n hx hb dX3_elementAt_21 rfl (lv_at hl 2 rfl) ?_
        refine rM_order S hM.rd dX3_elementAt_22 ?_
        refine lv_iload_n hx hb dX3_elementAt_25 rfl (lv_at hl 0 rfl) ?_
        refine rM_ald S hM.rd 8 (by decide) (by show _ < 512; omega) dX3_elementAt_26 ?_
        rw [hO k (by omega)]
        refine vp_callSi (va_Run.run (runV (As := [.int (L k)]) (rest := []) (Bh := RdM D y a n d th A_1) S (c_X3_isRemoved l (L k)) (gw_V wk_446 wk_448 wp_26 wk_4 wk_449) rfl rfl 1 rfl (by decide +kernel) (by decide) ⟨Nat.le_refl _, Nat.le_refl _⟩ (fun _ _ _ h q => RdM.mv h q) hM.recv hM.rd hl.1 (Nat.le_of_ble_eq_true rfl) dX3_elementAt_27)) (fun r hr => ?_)
        rw [hsc.rem] at hr
        rcases hr with ⟨h_27, rfl⟩ | ⟨h_27, rfl⟩
        · have g_27 : ¬ G k = 0 := fun z => by rw [(hCo.2.2 _ (by omega)).mp z] at h_27; cases h_27
          refine lv_if_ne (tgt := 47) hx hb dX3_elementAt_30 (by decide) (fun c_30 => ?_) (fun c_30 => ?_)
          · refine lv_iinc (v := nI (k + 1)) (lv' := [(3, .int (nI (k + 1))), (2, .int lf), (0, .ref y), (1, .int v1)]) hx hb dX3_elementAt_47 hl (k := 0) rfl (nI_1 _) (by decide) rfl (fun ls hl => ?_)
            refine lv_goto (tgt := 8) hx hb dX3_elementAt_50 (by decide) ?_
            exact ih (k + 1) _ (by omega) (by omega) (by rw [hlf, vis, if_neg g_27]; rfl) (lt_s hI (fun z => absurd z g_27))  ls (lv_sub hl [0, 1, 2, 3] rfl)
          · exact absurd (show _ from c_30) (by decide)
        · have g_27 : G k = 0 := (hCo.2.2 _ (by omega)).mpr h_27
          refine lv_if_ne (tgt := 47) hx hb dX3_elementAt_30 (by decide) (fun c_30 => ?_) (fun c_30 => ?_)
          · exact absurd (show _ from c_30) (by decide)
          · refine lv_iload_n hx hb dX3_elementAt_33 rfl (lv_at hl 1 rfl) ?_
            refine lv_if_ne (tgt := 44) hx hb dX3_elementAt_34 (by decide) (fun c_34 => ?_) (fun c_34 => ?_)
            · refine lv_iinc (v := (lf + (-1))) (lv' := [(2, .int (lf + (-1))), (3, .int (nI k)), (0, .ref y), (1, .int v1)]) hx hb dX3_elementAt_44 hl (k := 1) rfl (rfl) (by decide) rfl (fun ls hl => ?_)
              refine lv_iinc (v := nI (k + 1)) (lv' := [(3, .int (nI (k + 1))), (2, .int (lf + (-1))), (0, .ref y), (1, .int v1)]) hx hb dX3_elementAt_47 hl (k := 1) rfl (nI_1 _) (by decide) rfl (fun ls hl => ?_)
              refine lv_goto (tgt := 8) hx hb dX3_elementAt_50 (by decide) ?_
              exact ih (k + 1) _ (by omega) (by omega) (by rw [hlf, vis, if_pos g_27]; exact sub_dec _ _) (lt_s hI (fun _ => sub_n0 (by rw [← hlf]; exact c_34)))  ls (lv_sub hl [0, 1, 2, 3] rfl)
            · refine lv_aload_n hx hb dX3_elementAt_37 rfl (lv_at hl 2 rfl) ?_
              refine rM_order S hM.rd dX3_elementAt_38 ?_
              refine lv_iload_n hx hb dX3_elementAt_41 rfl (lv_at hl 0 rfl) ?_
              refine rM_ald S hM.rd 8 (by decide) (by show _ < 512; omega) dX3_elementAt_42 ?_
              rw [hO k (by omega)]
              exact W.iret (v := (L k)) hx hb hr (fun t9 ht9 hW9 => ⟨⟨_, (n, d, th, A_1), rfl, ⟨Or.inl ⟨k, by omega, g_27, sub_0 (by rw [← hlf]; exact c_34), rfl⟩, ⟨rfl, rfl, rfl, hsc⟩⟩, (hM.out ht9 hW9).1⟩, (hM.out ht9 hW9).2⟩) hM.S.2.2 dX3_elementAt_43
set_option maxHeartbeats 4000000 in
set_option maxRecDepth 100000 in
theorem c_X3_at (l : Launch) {D : va_G} {y : Nat} {a : Nat → Nat} {cI : ClassId} {n d : Nat} {th : Int32} {A : Nat → Nat → Int32} {sz : Nat} (v1 : Int32) (v2 : Int32) {L : Nat → Int32} {pp : Nat → Nat} {G : Nat → Int32} (hCo : Cor A n d L pp G) : Met l yX3_at (gws yX3_at cX3_at 4 (some .int)) { frames := 3, cells := 0, slots := 0, locals := 72 } (va_Pc [.ref y, .int v1, .int v2] (fun U => MPre D y a cI n d th A sz U U.heap)) (va_Qi (fun r (u : MS) => ((∃ k, k < n ∧ G k = 0 ∧ nI (vis G k) = v1 ∧ ((v2 = 0 ∧ r = L k) ∨ (v2 = 1 ∧ OfM A n d (L k) 2 6 r) ∨ (v2 = 2 ∧ OfM A n d (L k) 3 7 r) ∨ (v2 = 3 ∧ OfM A n d (L k) 0 4 r)) ∧ u.2.2.1 = 0) ∨ (((∀ k, k < n → G k = 0 → ¬ nI (vis G k) = v1) ∨ (¬ v2 = 0 ∧ ¬ v2 = 1 ∧ ¬ v2 = 2 ∧ ¬ v2 = 3)) ∧ u.2.2.1 = 1)) ∧ u.1 = n ∧ u.2.1 = d ∧ Scr A u.2.2.2) (MB D y a cI (va_A (wM y a cI n d th A) sz)) (va_A (wM y a cI n d th A) sz)) 0 0 (va_A (wM y a cI n d th A) sz) := by
  refine met_mm (QQ := fun AA => va_Qi (fun r (u : MS) => ((∃ k, k < n ∧ G k = 0 ∧ nI (vis G k) = v1 ∧ ((v2 = 0 ∧ r = L k) ∨ (v2 = 1 ∧ OfM A n d (L k) 2 6 r) ∨ (v2 = 2 ∧ OfM A n d (L k) 3 7 r) ∨ (v2 = 3 ∧ OfM A n d (L k) 0 4 r)) ∧ u.2.2.1 = 0) ∨ (((∀ k, k < n → G k = 0 → ¬ nI (vis G k) = v1) ∨ (¬ v2 = 0 ∧ ¬ v2 = 1 ∧ ¬ v2 = 2 ∧ ¬ v2 = 3)) ∧ u.2.2.1 = 1)) ∧ u.1 = n ∧ u.2.1 = d ∧ Scr A u.2.2.2) (MB D y a cI AA) AA) (by decide) (Nat.le_of_ble_eq_true rfl) ?_
  intro p e s m below meth c ls AA S hr hlocks hM hl
  obtain ⟨hx, hb, hml, hown, hg⟩ := id S
  have hl : lv_has ls 4 [(0, .ref y), (1, .int v1), (2, .int v2)] := hl
  have hn := hM.bd
  suffices key9 : ∀ (H : Heap) (locs : List Loc), MM D y a cI n d th A AA s.heap s H locs → W p l e { frames := 3, cells := 0, slots := 0, locals := 72 } s m [.ref y, .int v1, .int v2].toArray below meth c H locs 0 0 (MQ below ((fun AA : Nat → Prop => va_Qi (fun r (u : MS) => ((∃ k, k < n ∧ G k = 0 ∧ nI (vis G k) = v1 ∧ ((v2 = 0 ∧ r = L k) ∨ (v2 = 1 ∧ OfM A n d (L k) 2 6 r) ∨ (v2 = 2 ∧ OfM A n d (L k) 3 7 r) ∨ (v2 = 3 ∧ OfM A n d (L k) 0 4 r)) ∧ u.2.2.1 = 0) ∨ (((∀ k, k < n → G k = 0 → ¬ nI (vis G k) = v1) ∨ (¬ v2 = 0 ∧ ¬ v2 = 1 ∧ ¬ v2 = 2 ∧ ¬ v2 = 3)) ∧ u.2.2.1 = 1)) ∧ u.1 = n ∧ u.2.1 = d ∧ Scr A u.2.2.2) (MB D y a cI AA) AA) AA) [.ref y, .int v1, .int v2].toArray s 0 0 AA) (F0 m 0 ls []) from key9 _ _ hM
  clear hM
  intro H locs hM
  refine lv_aload_n hx hb dX3_at_0 rfl (lv_at hl 0 rfl) ?_
  refine lv_iload_n hx hb dX3_at_1 rfl (lv_at hl 1 rfl) ?_
  refine va_calli (runV (As := [.int v1]) (rest := []) (Bh := MPre D y a cI n d th A H.size) S (c_X3_elementAt l v1 hCo) (gw_V wk_454 wk_456 wp_27 wk_4 wk_457) rfl rfl 1 rfl (by decide +kernel) (by decide) ⟨Nat.le_refl _, Nat.le_refl _⟩ (fun _ _ _ h q => MPre.mv h q) hM.recv hM.pre hl.1 (Nat.le_of_ble_eq_true rfl) dX3_at_2) hM.S (fun q _ h => hM.free q h) hM.free (fun r_2 u8 t8 H1 locs1 ht8 hvm8 hp hB8 hz8 hk8 hS8 => ?_)
  obtain ⟨n_2, d_2, th_2, A_2⟩ := u8
  have hM := hM.back ht8 hB8 hS8
  generalize H1 = H at hM ⊢
  generalize locs1 = locs at hM ⊢
  dsimp only at hp hM
  obtain ⟨hp, hu1, hu2, hu3, hsc⟩ := hp
  obtain rfl := hu1.symm
  obtain rfl := hu2.symm
  obtain rfl := hu3.symm
  rcases hp with ⟨k_2, hk_2, hg_2, he_2, rfl⟩ | ⟨hn_2, rfl⟩
  · refine lv_istore_n (lv' := [(3, .int (L k_2)), (0, .ref y), (1, .int v1), (2, .int v2)]) hx hb dX3_at_5 rfl hl (by decide) rfl (fun ls hl => ?_)
    refine lv_aload_n hx hb dX3_at_6 rfl (lv_at hl 1 rfl) ?_
    refine lv_iload_n hx hb dX3_at_7 rfl (lv_at hl 0 rfl) ?_
    refine lv_if_lt (tgt := 20) hx hb dX3_at_8 (by decide) (fun c_8 => ?_) (fun c_8 => ?_)
    · exact absurd c_8 (hCo.2.1 _ hk_2)
    · refine lv_iload_n hx hb dX3_at_11 rfl (lv_at hl 3 rfl) ?_
      refine lv_if_lt (tgt := 20) hx hb dX3_at_12 (by decide) (fun c_12 => ?_) (fun c_12 => ?_)
      · refine lv_iconst (v := 1) hx hb dX3_at_20 (by decide) ?_
        refine lv_goto (tgt := 25) hx hb dX3_at_21 (by decide) ?_
        refine mw_thrown S hM dX3_at_25 (fun H locs hM => ?_)
        refine lv_aload_n hx hb dX3_at_28 rfl (lv_at hl 1 rfl) ?_
        refine rM_thrown S hM.rd dX3_at_29 ?_
        refine lv_if_le (tgt := 39) hx hb dX3_at_32 (by decide) (fun c_32 => ?_) (fun c_32 => ?_)
        · exact absurd (show _ from c_32) (by decide)
        · refine lv_iconst (v := 0) hx hb dX3_at_35 (by decide) ?_
          refine lv_goto (tgt := 78) hx hb dX3_at_36 (by decide) ?_
          exact W.iret (v := 0) hx hb hr (fun t9 ht9 hW9 => ⟨⟨_, (n, d, 1, A_2), rfl, ⟨Or.inr ⟨Or.inr (i32_not03 (Or.inl c_12)), rfl⟩, ⟨rfl, rfl, hsc⟩⟩, (hM.out ht9 hW9).1⟩, (hM.out ht9 hW9).2⟩) hM.S.2.2 dX3_at_78
      · refine lv_iload_n hx hb dX3_at_15 rfl (lv_at hl 3 rfl) ?_
        refine lv_iconst (v := 3) hx hb dX3_at_16 (by decide) ?_
        refine lv_icmp_le (tgt := 24) hx hb dX3_at_17 (by decide) (fun c_17 => ?_) (fun c_17 => ?_)
        · refine lv_iconst (v := 0) hx hb dX3_at_24 (by decide) ?_
          refine mw_thrown S hM dX3_at_25 (fun H locs hM => ?_)
          refine lv_aload_n hx hb dX3_at_28 rfl (lv_at hl 1 rfl) ?_
          refine rM_thrown S hM.rd dX3_at_29 ?_
          refine lv_if_le (tgt := 39) hx hb dX3_at_32 (by decide) (fun c_32 => ?_) (fun c_32 => ?_)
          · refine lv_iload_n hx hb dX3_at_39 rfl (lv_at hl 3 rfl) ?_
            refine lv_if_ne (tgt := 47) hx hb dX3_at_40 (by decide) (fun c_40 => ?_) (fun c_40 => ?_)
            · refine lv_iload_n hx hb dX3_at_47 rfl (lv_at hl 3 rfl) ?_
              refine lv_iconst (v := 1) hx hb dX3_at_48 (by decide) ?_
              refine lv_icmp_ne (tgt := 60) hx hb dX3_at_49 (by decide) (fun c_49 => ?_) (fun c_49 => ?_)
              · refine lv_iload_n hx hb dX3_at_60 rfl (lv_at hl 3 rfl) ?_
                refine lv_iconst (v := 2) hx hb dX3_at_61 (by decide) ?_
                refine lv_icmp_ne (tgt := 73) hx hb dX3_at_62 (by decide) (fun c_62 => ?_) (fun c_62 => ?_)
                · refine lv_aload_n hx hb dX3_at_73 rfl (lv_at hl 1 rfl) ?_
                  refine lv_iload_n hx hb dX3_at_74 rfl (lv_at hl 0 rfl) ?_
                  refine vp_callSi (va_Run.run (runV (As := [.int (L k_2)]) (rest := []) (Bh := RdM D y a n d 0 A_2) S (c_X3_idStanding l (L k_2) (by rw [hsc 0 (by decide)]; exact hCo.ex' hk_2)) (gw_V wk_478 wk_480 wp_33 wk_4 wk_481) rfl rfl 1 rfl (by decide +kernel) (by decide) ⟨Nat.le_refl _, Nat.le_refl _⟩ (fun _ _ _ h q => RdM.mv h q) hM.recv hM.rd hl.1 (Nat.le_of_ble_eq_true rfl) dX3_at_75)) (fun r_75 hr_75 => ?_)
                  exact W.iret (v := r_75) hx hb hr (fun t9 ht9 hW9 => ⟨⟨_, (n, d, 0, A_2), rfl, ⟨Or.inl ⟨k_2, hk_2, hg_2, he_2, Or.inr (Or.inr (Or.inr (⟨i32_3 c_12 c_17 c_40 c_49 c_62, hsc.of (by decide) (by decide) hr_75⟩))), rfl⟩, ⟨rfl, rfl, hsc⟩⟩, (hM.out ht9 hW9).1⟩, (hM.out ht9 hW9).2⟩) hM.S.2.2 dX3_at_78
                · refine lv_aload_n hx hb dX3_at_65 rfl (lv_at hl 1 rfl) ?_
                  refine lv_iload_n hx hb dX3_at_66 rfl (lv_at hl 0 rfl) ?_
                  refine vp_callSi (va_Run.run (runV (As := [.int (L k_2)]) (rest := []) (Bh := RdM D y a n d 0 A_2) S (c_X3_valueOf l (L k_2) (by rw [hsc 0 (by decide)]; exact hCo.ex' hk_2)) (gw_V wk_474 wk_476 wp_32 wk_4 wk_477) rfl rfl 1 rfl (by decide +kernel) (by decide) ⟨Nat.le_refl _, Nat.le_refl _⟩ (fun _ _ _ h q => RdM.mv h q) hM.recv hM.rd hl.1 (Nat.le_of_ble_eq_true rfl) dX3_at_67)) (fun r_67 hr_67 => ?_)
                  refine lv_goto (tgt := 78) hx hb dX3_at_70 (by decide) ?_
                  exact W.iret (v := r_67) hx hb hr (fun t9 ht9 hW9 => ⟨⟨_, (n, d, 0, A_2), rfl, ⟨Or.inl ⟨k_2, hk_2, hg_2, he_2, Or.inr (Or.inr (Or.inl (⟨c_62, hsc.of (by decide) (by decide) hr_67⟩))), rfl⟩, ⟨rfl, rfl, hsc⟩⟩, (hM.out ht9 hW9).1⟩, (hM.out ht9 hW9).2⟩) hM.S.2.2 dX3_at_78
              · refine lv_aload_n hx hb dX3_at_52 rfl (lv_at hl 1 rfl) ?_
                refine lv_iload_n hx hb dX3_at_53 rfl (lv_at hl 0 rfl) ?_
                refine vp_callSi (va_Run.run (runV (As := [.int (L k_2)]) (rest := []) (Bh := RdM D y a n d 0 A_2) S (c_X3_kindOf l (L k_2) (by rw [hsc 0 (by decide)]; exact hCo.ex' hk_2)) (gw_V wk_466 wk_468 wp_30 wk_4 wk_469) rfl rfl 1 rfl (by decide +kernel) (by decide) ⟨Nat.le_refl _, Nat.le_refl _⟩ (fun _ _ _ h q => RdM.mv h q) hM.recv hM.rd hl.1 (Nat.le_of_ble_eq_true rfl) dX3_at_54)) (fun r_54 hr_54 => ?_)
                refine lv_goto (tgt := 78) hx hb dX3_at_57 (by decide) ?_
                exact W.iret (v := r_54) hx hb hr (fun t9 ht9 hW9 => ⟨⟨_, (n, d, 0, A_2), rfl, ⟨Or.inl ⟨k_2, hk_2, hg_2, he_2, Or.inr (Or.inl (⟨c_49, hsc.of (by decide) (by decide) hr_54⟩)), rfl⟩, ⟨rfl, rfl, hsc⟩⟩, (hM.out ht9 hW9).1⟩, (hM.out ht9 hW9).2⟩) hM.S.2.2 dX3_at_78
            · refine lv_iload_n hx hb dX3_at_43 rfl (lv_at hl 0 rfl) ?_
              refine lv_goto (tgt := 78) hx hb dX3_at_44 (by decide) ?_
              exact W.iret (v := (L k_2)) hx hb hr (fun t9 ht9 hW9 => ⟨⟨_, (n, d, 0, A_2), rfl, ⟨Or.inl ⟨k_2, hk_2, hg_2, he_2, Or.inl (⟨c_40, rfl⟩), rfl⟩, ⟨rfl, rfl, hsc⟩⟩, (hM.out ht9 hW9).1⟩, (hM.out ht9 hW9).2⟩) hM.S.2.2 dX3_at_78
          · exact absurd (show _ from c_32) (by decide)
        · refine lv_iconst (v := 1) hx hb dX3_at_20 (by decide) ?_
          refine lv_goto (tgt := 25) hx hb dX3_at_21 (by decide) ?_
          refine mw_thrown S hM dX3_at_25 (fun H locs hM => ?_)
          refine lv_aload_n hx hb dX3_at_28 rfl (lv_at hl 1 rfl) ?_
          refine rM_thrown S hM.rd dX3_at_29 ?_
          refine lv_if_le (tgt := 39) hx hb dX3_at_32 (by decide) (fun c_32 => ?_) (fun c_32 => ?_)
          · exact absurd (show _ from c_32) (by decide)
          · refine lv_iconst (v := 0) hx hb dX3_at_35 (by decide) ?_
            refine lv_goto (tgt := 78) hx hb dX3_at_36 (by decide) ?_
            exact W.iret (v := 0) hx hb hr (fun t9 ht9 hW9 => ⟨⟨_, (n, d, 1, A_2), rfl, ⟨Or.inr ⟨Or.inr (i32_not03 (Or.inr c_17)), rfl⟩, ⟨rfl, rfl, hsc⟩⟩, (hM.out ht9 hW9).1⟩, (hM.out ht9 hW9).2⟩) hM.S.2.2 dX3_at_78
  · refine lv_istore_n (lv' := [(3, .int (-1)), (0, .ref y), (1, .int v1), (2, .int v2)]) hx hb dX3_at_5 rfl hl (by decide) rfl (fun ls hl => ?_)
    refine lv_aload_n hx hb dX3_at_6 rfl (lv_at hl 1 rfl) ?_
    refine lv_iload_n hx hb dX3_at_7 rfl (lv_at hl 0 rfl) ?_
    refine lv_if_lt (tgt := 20) hx hb dX3_at_8 (by decide) (fun c_8 => ?_) (fun c_8 => ?_)
    · refine lv_iconst (v := 1) hx hb dX3_at_20 (by decide) ?_
      refine lv_goto (tgt := 25) hx hb dX3_at_21 (by decide) ?_
      refine mw_thrown S hM dX3_at_25 (fun H locs hM => ?_)
      refine lv_aload_n hx hb dX3_at_28 rfl (lv_at hl 1 rfl) ?_
      refine rM_thrown S hM.rd dX3_at_29 ?_
      refine lv_if_le (tgt := 39) hx hb dX3_at_32 (by decide) (fun c_32 => ?_) (fun c_32 => ?_)
      · exact absurd (show _ from c_32) (by decide)
      · refine lv_iconst (v := 0) hx hb dX3_at_35 (by decide) ?_
        refine lv_goto (tgt := 78) hx hb dX3_at_36 (by decide) ?_
        exact W.iret (v := 0) hx hb hr (fun t9 ht9 hW9 => ⟨⟨_, (n, d, 1, A_2), rfl, ⟨Or.inr ⟨Or.inl hn_2, rfl⟩, ⟨rfl, rfl, hsc⟩⟩, (hM.out ht9 hW9).1⟩, (hM.out ht9 hW9).2⟩) hM.S.2.2 dX3_at_78
    · exact absurd (show _ from c_8) (by decide)
set_option maxHeartbeats 4000000 in
set_option maxRecDepth 100000 in
theorem c_X3_aheadOf (l : Launch) {D : va_G} {y : Nat} {a : Nat → Nat} {cI : ClassId} {n d : Nat} {th : Int32} {A : Nat → Nat → Int32} {sz : Nat} (v1 : Int32) {L : Nat → Int32} {pp : Nat → Nat} {G : Nat → Int32} (hCo : Cor A n d L pp G) (hex : ∃ k, k < n ∧ L k = v1) : Met l yX3_aheadOf (gws yX3_aheadOf cX3_aheadOf 4 (some .int)) { frames := 2, cells := 0, slots := 0, locals := 49 } (va_Pc [.ref y, .int v1] (fun U => MPre D y a cI n d th A sz U U.heap)) (va_Qi (fun r (u : MS) => (∃ k, k < n ∧ L k = v1 ∧ r = nI (vis G k)) ∧ u.1 = n ∧ u.2.1 = d ∧ u.2.2.1 = th ∧ Scr A u.2.2.2) (MB D y a cI (va_A (wM y a cI n d th A) sz)) (va_A (wM y a cI n d th A) sz)) 0 0 (va_A (wM y a cI n d th A) sz) := by
  refine met_mm (QQ := fun AA => va_Qi (fun r (u : MS) => (∃ k, k < n ∧ L k = v1 ∧ r = nI (vis G k)) ∧ u.1 = n ∧ u.2.1 = d ∧ u.2.2.1 = th ∧ Scr A u.2.2.2) (MB D y a cI AA) AA) (by decide) (Nat.le_of_ble_eq_true rfl) ?_
  intro p e s m below meth c ls AA S hr hlocks hM hl
  obtain ⟨hx, hb, hml, hown, hg⟩ := id S
  have hl : lv_has ls 4 [(0, .ref y), (1, .int v1)] := hl
  have hn := hM.bd
  suffices key9 : ∀ (H : Heap) (locs : List Loc), MM D y a cI n d th A AA s.heap s H locs → W p l e { frames := 2, cells := 0, slots := 0, locals := 49 } s m [.ref y, .int v1].toArray below meth c H locs 0 0 (MQ below ((fun AA : Nat → Prop => va_Qi (fun r (u : MS) => (∃ k, k < n ∧ L k = v1 ∧ r = nI (vis G k)) ∧ u.1 = n ∧ u.2.1 = d ∧ u.2.2.1 = th ∧ Scr A u.2.2.2) (MB D y a cI AA) AA) AA) [.ref y, .int v1].toArray s 0 0 AA) (F0 m 0 ls []) from key9 _ _ hM
  clear hM
  intro H locs hM
  refine lv_aload_n hx hb dX3_aheadOf_0 rfl (lv_at hl 0 rfl) ?_
  refine va_callv (runV (As := []) (rest := []) (Bh := MPre D y a cI n d th A H.size) S (c_X3_weave l hCo.1) (gw_V wk_458 wk_460 wp_28 wk_4 wk_461) rfl rfl 0 rfl (by decide +kernel) (by decide) ⟨Nat.le_refl _, Nat.le_refl _⟩ (fun _ _ _ h q => MPre.mv h q) hM.recv hM.pre hl.1 (Nat.le_of_ble_eq_true rfl) dX3_aheadOf_1) hM.S (fun q _ h => hM.free q h) hM.free (fun u8 t8 H1 locs1 ht8 hvm8 hp hB8 hz8 hk8 hS8 => ?_)
  obtain ⟨n_1, d_1, th_1, A_1⟩ := u8
  have hM := hM.back ht8 hB8 hS8
  generalize H1 = H at hM ⊢
  generalize locs1 = locs at hM ⊢
  dsimp only at hp hM
  obtain ⟨T_1, O_1, hu, hO⟩ := hp
  obtain ⟨rfl, rfl, rfl, hA9⟩ : n = n_1 ∧ d = d_1 ∧ th = th_1 ∧ A_1 = va_up (va_up A 9 T_1) 8 O_1 := by have z := hu; simp only [Prod.mk.injEq] at z; exact ⟨z.1.symm, z.2.1.symm, z.2.2.1.symm, z.2.2.2⟩
  have hsc : Scr A A_1 := by rw [hA9]; exact Scr.up A _ _
  have hO : ∀ i, i < n → A_1 8 i = L i := fun i h => by rw [hA9, va_up_self]; exact hO i h
  clear hA9 hu
  refine lv_iconst (v := nI 0) hx hb dX3_aheadOf_4 (by decide) ?_
  refine lv_istore_n (lv' := [(2, .int (nI 0)), (0, .ref y), (1, .int v1)]) hx hb dX3_aheadOf_5 rfl hl (by decide) rfl (fun ls hl => ?_)
  refine lv_iconst (v := nI 0) hx hb dX3_aheadOf_6 (by decide) ?_
  refine lv_istore_n (lv' := [(3, .int (nI 0)), (2, .int (nI 0)), (0, .ref y), (1, .int v1)]) hx hb dX3_aheadOf_7 rfl hl (by decide) rfl (fun ls hl => ?_)
  suffices hloop : ∀ (fuel : Nat) (k q : Nat), n - k < fuel → q = vis G k → (∀ j, j < k → ¬ L j = v1) → ∀ ls : Array Slot, lv_has ls 4 [(3, .int (nI k)), (2, .int (nI q)), (0, .ref y), (1, .int v1)] → W p l e { frames := 2, cells := 0, slots := 0, locals := 49 } s m [.ref y, .int v1].toArray below meth c H locs 0 0 (MQ below ((fun AA : Nat → Prop => va_Qi (fun r (u : MS) => (∃ k, k < n ∧ L k = v1 ∧ r = nI (vis G k)) ∧ u.1 = n ∧ u.2.1 = d ∧ u.2.2.1 = th ∧ Scr A u.2.2.2) (MB D y a cI AA) AA) AA) [.ref y, .int v1].toArray s 0 0 AA) (F0 m 8 ls []) from hloop (n + 1) 0 0 (by omega) rfl (fun _ h => absurd h (Nat.not_lt_zero _))  ls (lv_sub hl [0, 1, 2, 3] rfl)
  intro fuel
  induction fuel with
  | zero => intro k q hf hq hI; omega
  | succ fuel ih =>
    intro k q hf hq hI  ls hl
    have hkn : k < n := by
      obtain ⟨k0, h0, e0⟩ := hex
      rcases Nat.lt_or_ge k0 k with y9 | y9
      · exact absurd e0 (hI k0 y9)
      · omega
    refine lv_aload_n hx hb dX3_aheadOf_8 rfl (lv_at hl 2 rfl) ?_
    refine rM_order S hM.rd dX3_aheadOf_9 ?_
    refine lv_iload_n hx hb dX3_aheadOf_12 rfl (lv_at hl 0 rfl) ?_
    refine rM_ald S hM.rd 8 (by decide) (by show _ < 512; omega) dX3_aheadOf_13 ?_
    rw [hO k (by omega)]
    refine lv_iload_n hx hb dX3_aheadOf_14 rfl (lv_at hl 3 rfl) ?_
    refine lv_icmp_eq (tgt := 45) hx hb dX3_aheadOf_15 (by decide) (fun c_15 => ?_) (fun c_15 => ?_)
    · refine lv_iload_n hx hb dX3_aheadOf_45 rfl (lv_at hl 1 rfl) ?_
      exact W.iret (v := (nI q)) hx hb hr (fun t9 ht9 hW9 => ⟨⟨_, (n, d, th, A_1), rfl, ⟨⟨k, hkn, c_15, by rw [hq]⟩, ⟨rfl, rfl, rfl, hsc⟩⟩, (hM.out ht9 hW9).1⟩, (hM.out ht9 hW9).2⟩) hM.S.2.2 dX3_aheadOf_46
    · refine lv_iload_n hx hb dX3_aheadOf_18 rfl (lv_at hl 1 rfl) ?_
      refine lv_aload_n hx hb dX3_aheadOf_19 rfl (lv_at hl 2 rfl) ?_
      refine lv_aload_n hx hb dX3_aheadOf_20 rfl (lv_at hl 2 rfl) ?_
      refine rM_order S hM.rd dX3_aheadOf_21 ?_
      refine lv_iload_n hx hb dX3_aheadOf_24 rfl (lv_at hl 0 rfl) ?_
      refine rM_ald S hM.rd 8 (by decide) (by show _ < 512; omega) dX3_aheadOf_25 ?_
      rw [hO k (by omega)]
      refine vp_callSi (va_Run.run (runV (As := [.int (L k)]) (rest := [.int (nI q)]) (Bh := RdM D y a n d th A_1) S (c_X3_isRemoved l (L k)) (gw_V wk_446 wk_448 wp_26 wk_4 wk_449) rfl rfl 1 rfl (by decide +kernel) (by decide) ⟨Nat.le_refl _, Nat.le_refl _⟩ (fun _ _ _ h q => RdM.mv h q) hM.recv hM.rd hl.1 (Nat.le_of_ble_eq_true rfl) dX3_aheadOf_26)) (fun r hr => ?_)
      rw [hsc.rem] at hr
      rcases hr with ⟨h_26, rfl⟩ | ⟨h_26, rfl⟩
      · have g_26 : ¬ G k = 0 := fun z => by rw [(hCo.2.2 _ (by omega)).mp z] at h_26; cases h_26
        refine lv_if_eq (tgt := 36) hx hb dX3_aheadOf_29 (by decide) (fun c_29 => ?_) (fun c_29 => ?_)
        · exact absurd (show _ from c_29) (by decide)
        · refine lv_iconst (v := nI 0) hx hb dX3_aheadOf_32 (by decide) ?_
          refine lv_goto (tgt := 37) hx hb dX3_aheadOf_33 (by decide) ?_
          refine lv_iadd hx hb dX3_aheadOf_37 ?_
          rw [nI_add, Nat.add_zero]
          refine lv_istore_n (lv' := [(2, .int (nI q)), (3, .int (nI k)), (0, .ref y), (1, .int v1)]) hx hb dX3_aheadOf_38 rfl hl (by decide) rfl (fun ls hl => ?_)
          refine lv_iinc (v := nI (k + 1)) (lv' := [(3, .int (nI (k + 1))), (2, .int (nI q)), (0, .ref y), (1, .int v1)]) hx hb dX3_aheadOf_39 hl (k := 1) rfl (nI_1 _) (by decide) rfl (fun ls hl => ?_)
          refine lv_goto (tgt := 8) hx hb dX3_aheadOf_42 (by decide) ?_
          exact ih (k + 1) q (by omega) (vis_n hq g_26) (lt_s hI c_15)  ls (lv_sub hl [0, 1, 2, 3] rfl)
      · have g_26 : G k = 0 := (hCo.2.2 _ (by omega)).mpr h_26
        refine lv_if_eq (tgt := 36) hx hb dX3_aheadOf_29 (by decide) (fun c_29 => ?_) (fun c_29 => ?_)
        · refine lv_iconst (v := nI 1) hx hb dX3_aheadOf_36 (by decide) ?_
          refine lv_iadd hx hb dX3_aheadOf_37 ?_
          rw [nI_add]
          refine lv_istore_n (lv' := [(2, .int (nI (q + 1))), (3, .int (nI k)), (0, .ref y), (1, .int v1)]) hx hb dX3_aheadOf_38 rfl hl (by decide) rfl (fun ls hl => ?_)
          refine lv_iinc (v := nI (k + 1)) (lv' := [(3, .int (nI (k + 1))), (2, .int (nI (q + 1))), (0, .ref y), (1, .int v1)]) hx hb dX3_aheadOf_39 hl (k := 1) rfl (nI_1 _) (by decide) rfl (fun ls hl => ?_)
          refine lv_goto (tgt := 8) hx hb dX3_aheadOf_42 (by decide) ?_
          exact ih (k + 1) (q + 1) (by omega) (vis_s hq g_26) (lt_s hI c_15)  ls (lv_sub hl [0, 1, 2, 3] rfl)
        · exact absurd (show _ from c_29) (by decide)
set_option maxHeartbeats 4000000 in
set_option maxRecDepth 100000 in
theorem c_X3_place (l : Launch) {D : va_G} {y : Nat} {a : Nat → Nat} {cI : ClassId} {n d : Nat} {th : Int32} {A : Nat → Nat → Int32} {sz : Nat} (v1 : Int32) {L : Nat → Int32} {pp : Nat → Nat} {G : Nat → Int32} (hCo : Cor A n d L pp G) : Met l yX3_place (gws yX3_place cX3_place 2 (some .int)) { frames := 3, cells := 0, slots := 0, locals := 72 } (va_Pc [.ref y, .int v1] (fun U => MPre D y a cI n d th A sz U U.heap)) (va_Qi (fun r (u : MS) => ((∃ k, k < n ∧ L k = v1 ∧ remB A v1 d = false ∧ r = nI (vis G k)) ∨ (((∀ k, k < n → ¬ L k = v1) ∨ remB A v1 d = true) ∧ r = -1)) ∧ u.1 = n ∧ u.2.1 = d ∧ u.2.2.1 = 0 ∧ Scr A u.2.2.2) (MB D y a cI (va_A (wM y a cI n d th A) sz)) (va_A (wM y a cI n d th A) sz)) 0 0 (va_A (wM y a cI n d th A) sz) := by
  refine met_mm (QQ := fun AA => va_Qi (fun r (u : MS) => ((∃ k, k < n ∧ L k = v1 ∧ remB A v1 d = false ∧ r = nI (vis G k)) ∨ (((∀ k, k < n → ¬ L k = v1) ∨ remB A v1 d = true) ∧ r = -1)) ∧ u.1 = n ∧ u.2.1 = d ∧ u.2.2.1 = 0 ∧ Scr A u.2.2.2) (MB D y a cI AA) AA) (by decide) (Nat.le_of_ble_eq_true rfl) ?_
  intro p e s m below meth c ls AA S hr hlocks hM hl
  obtain ⟨hx, hb, hml, hown, hg⟩ := id S
  have hl : lv_has ls 2 [(0, .ref y), (1, .int v1)] := hl
  have hn := hM.bd
  suffices key9 : ∀ (H : Heap) (locs : List Loc), MM D y a cI n d th A AA s.heap s H locs → W p l e { frames := 3, cells := 0, slots := 0, locals := 72 } s m [.ref y, .int v1].toArray below meth c H locs 0 0 (MQ below ((fun AA : Nat → Prop => va_Qi (fun r (u : MS) => ((∃ k, k < n ∧ L k = v1 ∧ remB A v1 d = false ∧ r = nI (vis G k)) ∨ (((∀ k, k < n → ¬ L k = v1) ∨ remB A v1 d = true) ∧ r = -1)) ∧ u.1 = n ∧ u.2.1 = d ∧ u.2.2.1 = 0 ∧ Scr A u.2.2.2) (MB D y a cI AA) AA) AA) [.ref y, .int v1].toArray s 0 0 AA) (F0 m 0 ls []) from key9 _ _ hM
  clear hM
  intro H locs hM
  refine lv_aload_n hx hb dX3_place_0 rfl (lv_at hl 0 rfl) ?_
  refine lv_iconst (v := 0) hx hb dX3_place_1 (by decide) ?_
  refine mw_thrown S hM dX3_place_2 (fun H locs hM => ?_)
  refine lv_aload_n hx hb dX3_place_5 rfl (lv_at hl 0 rfl) ?_
  refine lv_iload_n hx hb dX3_place_6 rfl (lv_at hl 1 rfl) ?_
  refine vp_callSi (va_Run.run (runV (As := [.int v1]) (rest := []) (Bh := RdM D y a n d 0 A) S (c_X3_placeOf l v1) (gw_V wk_410 wk_412 wp_22 wk_4 wk_413) rfl rfl 1 rfl (by decide +kernel) (by decide) ⟨Nat.le_refl _, Nat.le_refl _⟩ (fun _ _ _ h q => RdM.mv h q) hM.recv hM.rd hl.1 (Nat.le_of_ble_eq_true rfl) dX3_place_7)) (fun r hr => ?_)
  rcases hr with ⟨k_7, hk_7, he_7, hf_7, rfl⟩ | ⟨hn_7, rfl⟩
  · refine lv_if_lt (tgt := 21) hx hb dX3_place_10 (by decide) (fun c_10 => ?_) (fun c_10 => ?_)
    · exact absurd c_10 (nI_pos (by omega))
    · refine lv_aload_n hx hb dX3_place_13 rfl (lv_at hl 0 rfl) ?_
      refine lv_iload_n hx hb dX3_place_14 rfl (lv_at hl 1 rfl) ?_
      refine vp_callSi (va_Run.run (runV (As := [.int v1]) (rest := []) (Bh := RdM D y a n d 0 A) S (c_X3_isRemoved l v1) (gw_V wk_446 wk_448 wp_26 wk_4 wk_449) rfl rfl 1 rfl (by decide +kernel) (by decide) ⟨Nat.le_refl _, Nat.le_refl _⟩ (fun _ _ _ h q => RdM.mv h q) hM.recv hM.rd hl.1 (Nat.le_of_ble_eq_true rfl) dX3_place_15)) (fun r hr => ?_)
      rcases hr with ⟨h_15, rfl⟩ | ⟨h_15, rfl⟩
      · refine lv_if_eq (tgt := 25) hx hb dX3_place_18 (by decide) (fun c_18 => ?_) (fun c_18 => ?_)
        · exact absurd (show _ from c_18) (by decide)
        · refine lv_iconst (v := (-1)) hx hb dX3_place_21 (by decide) ?_
          refine lv_goto (tgt := 30) hx hb dX3_place_22 (by decide) ?_
          exact W.iret (v := (-1)) hx hb hr (fun t9 ht9 hW9 => ⟨⟨_, (n, d, 0, A), rfl, ⟨Or.inr ⟨Or.inr h_15, rfl⟩, rfl, rfl, rfl, (fun _ _ => rfl)⟩, (hM.out ht9 hW9).1⟩, (hM.out ht9 hW9).2⟩) hM.S.2.2 dX3_place_30
      · refine lv_if_eq (tgt := 25) hx hb dX3_place_18 (by decide) (fun c_18 => ?_) (fun c_18 => ?_)
        · refine lv_aload_n hx hb dX3_place_25 rfl (lv_at hl 0 rfl) ?_
          refine lv_iload_n hx hb dX3_place_26 rfl (lv_at hl 1 rfl) ?_
          refine va_calli (runV (As := [.int v1]) (rest := []) (Bh := MPre D y a cI n d 0 A H.size) S (c_X3_aheadOf l v1 hCo (hCo.ex hk_7 he_7)) (gw_V wk_486 wk_488 wp_34 wk_4 wk_489) rfl rfl 1 rfl (by decide +kernel) (by decide) ⟨Nat.le_refl _, Nat.le_refl _⟩ (fun _ _ _ h q => MPre.mv h q) hM.recv hM.pre hl.1 (Nat.le_of_ble_eq_true rfl) dX3_place_27) hM.S (fun q _ h => hM.free q h) hM.free (fun r_27 u8 t8 H1 locs1 ht8 hvm8 hp hB8 hz8 hk8 hS8 => ?_)
          obtain ⟨n_27, d_27, th_27, A_27⟩ := u8
          have hM := hM.back ht8 hB8 hS8
          generalize H1 = H at hM ⊢
          generalize locs1 = locs at hM ⊢
          dsimp only at hp hM
          obtain ⟨hp, hu1, hu2, hu3, hsc⟩ := hp
          obtain rfl := hu1.symm
          obtain rfl := hu2.symm
          obtain rfl := hu3.symm
          obtain ⟨k_27, hk_27, he_27, rfl⟩ := hp
          exact W.iret (v := (nI (vis G k_27))) hx hb hr (fun t9 ht9 hW9 => ⟨⟨_, (n, d, 0, A_27), rfl, ⟨Or.inl ⟨k_27, hk_27, he_27, h_15, rfl⟩, ⟨rfl, rfl, rfl, hsc⟩⟩, (hM.out ht9 hW9).1⟩, (hM.out ht9 hW9).2⟩) hM.S.2.2 dX3_place_30
        · exact absurd (show _ from c_18) (by decide)
  · refine lv_if_lt (tgt := 21) hx hb dX3_place_10 (by decide) (fun c_10 => ?_) (fun c_10 => ?_)
    · refine lv_iconst (v := (-1)) hx hb dX3_place_21 (by decide) ?_
      refine lv_goto (tgt := 30) hx hb dX3_place_22 (by decide) ?_
      exact W.iret (v := (-1)) hx hb hr (fun t9 ht9 hW9 => ⟨⟨_, (n, d, 0, A), rfl, ⟨Or.inr ⟨Or.inl (hCo.no hn_7), rfl⟩, rfl, rfl, rfl, (fun _ _ => rfl)⟩, (hM.out ht9 hW9).1⟩, (hM.out ht9 hW9).2⟩) hM.S.2.2 dX3_place_30
    · exact absurd (show _ from c_10) (by decide)
set_option maxHeartbeats 4000000 in
set_option maxRecDepth 100000 in
theorem c_X3_ahead (l : Launch) {D : va_G} {y : Nat} {a : Nat → Nat} {cI : ClassId} {n d : Nat} {th : Int32} {A : Nat → Nat → Int32} {sz : Nat} (v1 : Int32) {L : Nat → Int32} {pp : Nat → Nat} {G : Nat → Int32} (hCo : Cor A n d L pp G) : Met l yX3_ahead (gws yX3_ahead cX3_ahead 2 (some .int)) { frames := 3, cells := 0, slots := 0, locals := 72 } (va_Pc [.ref y, .int v1] (fun U => MPre D y a cI n d th A sz U U.heap)) (va_Qi (fun r (u : MS) => ((∃ k, k < n ∧ L k = v1 ∧ r = nI (vis G k) ∧ u.2.2.1 = 0) ∨ ((∀ k, k < n → ¬ L k = v1) ∧ u.2.2.1 = 1)) ∧ u.1 = n ∧ u.2.1 = d ∧ Scr A u.2.2.2) (MB D y a cI (va_A (wM y a cI n d th A) sz)) (va_A (wM y a cI n d th A) sz)) 0 0 (va_A (wM y a cI n d th A) sz) := by
  refine met_mm (QQ := fun AA => va_Qi (fun r (u : MS) => ((∃ k, k < n ∧ L k = v1 ∧ r = nI (vis G k) ∧ u.2.2.1 = 0) ∨ ((∀ k, k < n → ¬ L k = v1) ∧ u.2.2.1 = 1)) ∧ u.1 = n ∧ u.2.1 = d ∧ Scr A u.2.2.2) (MB D y a cI AA) AA) (by decide) (Nat.le_of_ble_eq_true rfl) ?_
  intro p e s m below meth c ls AA S hr hlocks hM hl
  obtain ⟨hx, hb, hml, hown, hg⟩ := id S
  have hl : lv_has ls 2 [(0, .ref y), (1, .int v1)] := hl
  have hn := hM.bd
  suffices key9 : ∀ (H : Heap) (locs : List Loc), MM D y a cI n d th A AA s.heap s H locs → W p l e { frames := 3, cells := 0, slots := 0, locals := 72 } s m [.ref y, .int v1].toArray below meth c H locs 0 0 (MQ below ((fun AA : Nat → Prop => va_Qi (fun r (u : MS) => ((∃ k, k < n ∧ L k = v1 ∧ r = nI (vis G k) ∧ u.2.2.1 = 0) ∨ ((∀ k, k < n → ¬ L k = v1) ∧ u.2.2.1 = 1)) ∧ u.1 = n ∧ u.2.1 = d ∧ Scr A u.2.2.2) (MB D y a cI AA) AA) AA) [.ref y, .int v1].toArray s 0 0 AA) (F0 m 0 ls []) from key9 _ _ hM
  clear hM
  intro H locs hM
  refine lv_aload_n hx hb dX3_ahead_0 rfl (lv_at hl 0 rfl) ?_
  refine lv_aload_n hx hb dX3_ahead_1 rfl (lv_at hl 0 rfl) ?_
  refine lv_iload_n hx hb dX3_ahead_2 rfl (lv_at hl 1 rfl) ?_
  refine vp_callSi (va_Run.run (runV (As := [.int v1]) (rest := [.ref y]) (Bh := RdM D y a n d th A) S (c_X3_placeOf l v1) (gw_V wk_410 wk_412 wp_22 wk_4 wk_413) rfl rfl 1 rfl (by decide +kernel) (by decide) ⟨Nat.le_refl _, Nat.le_refl _⟩ (fun _ _ _ h q => RdM.mv h q) hM.recv hM.rd hl.1 (Nat.le_of_ble_eq_true rfl) dX3_ahead_3)) (fun r hr => ?_)
  rcases hr with ⟨k_3, hk_3, he_3, hf_3, rfl⟩ | ⟨hn_3, rfl⟩
  · refine lv_if_ge (tgt := 13) hx hb dX3_ahead_6 (by decide) (fun c_6 => ?_) (fun c_6 => ?_)
    · refine lv_iconst (v := 0) hx hb dX3_ahead_13 (by decide) ?_
      refine mw_thrown S hM dX3_ahead_14 (fun H locs hM => ?_)
      refine lv_aload_n hx hb dX3_ahead_17 rfl (lv_at hl 0 rfl) ?_
      refine rM_thrown S hM.rd dX3_ahead_18 ?_
      refine lv_if_le (tgt := 28) hx hb dX3_ahead_21 (by decide) (fun c_21 => ?_) (fun c_21 => ?_)
      · refine lv_aload_n hx hb dX3_ahead_28 rfl (lv_at hl 0 rfl) ?_
        refine lv_iload_n hx hb dX3_ahead_29 rfl (lv_at hl 1 rfl) ?_
        refine va_calli (runV (As := [.int v1]) (rest := []) (Bh := MPre D y a cI n d 0 A H.size) S (c_X3_aheadOf l v1 hCo (hCo.ex hk_3 he_3)) (gw_V wk_486 wk_488 wp_34 wk_4 wk_489) rfl rfl 1 rfl (by decide +kernel) (by decide) ⟨Nat.le_refl _, Nat.le_refl _⟩ (fun _ _ _ h q => MPre.mv h q) hM.recv hM.pre hl.1 (Nat.le_of_ble_eq_true rfl) dX3_ahead_30) hM.S (fun q _ h => hM.free q h) hM.free (fun r_30 u8 t8 H1 locs1 ht8 hvm8 hp hB8 hz8 hk8 hS8 => ?_)
        obtain ⟨n_30, d_30, th_30, A_30⟩ := u8
        have hM := hM.back ht8 hB8 hS8
        generalize H1 = H at hM ⊢
        generalize locs1 = locs at hM ⊢
        dsimp only at hp hM
        obtain ⟨hp, hu1, hu2, hu3, hsc⟩ := hp
        obtain rfl := hu1.symm
        obtain rfl := hu2.symm
        obtain rfl := hu3.symm
        obtain ⟨k_30, hk_30, he_30, rfl⟩ := hp
        exact W.iret (v := (nI (vis G k_30))) hx hb hr (fun t9 ht9 hW9 => ⟨⟨_, (n, d, 0, A_30), rfl, ⟨Or.inl ⟨k_30, hk_30, he_30, rfl, rfl⟩, ⟨rfl, rfl, hsc⟩⟩, (hM.out ht9 hW9).1⟩, (hM.out ht9 hW9).2⟩) hM.S.2.2 dX3_ahead_33
      · exact absurd (show _ from c_21) (by decide)
    · exact absurd (nI_pos' (by omega)) c_6
  · refine lv_if_ge (tgt := 13) hx hb dX3_ahead_6 (by decide) (fun c_6 => ?_) (fun c_6 => ?_)
    · exact absurd (show _ from c_6) (by decide)
    · refine lv_iconst (v := 1) hx hb dX3_ahead_9 (by decide) ?_
      refine lv_goto (tgt := 14) hx hb dX3_ahead_10 (by decide) ?_
      refine mw_thrown S hM dX3_ahead_14 (fun H locs hM => ?_)
      refine lv_aload_n hx hb dX3_ahead_17 rfl (lv_at hl 0 rfl) ?_
      refine rM_thrown S hM.rd dX3_ahead_18 ?_
      refine lv_if_le (tgt := 28) hx hb dX3_ahead_21 (by decide) (fun c_21 => ?_) (fun c_21 => ?_)
      · exact absurd (show _ from c_21) (by decide)
      · refine lv_iconst (v := 0) hx hb dX3_ahead_24 (by decide) ?_
        refine lv_goto (tgt := 33) hx hb dX3_ahead_25 (by decide) ?_
        exact W.iret (v := 0) hx hb hr (fun t9 ht9 hW9 => ⟨⟨_, (n, d, 1, A), rfl, ⟨Or.inr ⟨hCo.no hn_3, rfl⟩, rfl, rfl, (fun _ _ => rfl)⟩, (hM.out ht9 hW9).1⟩, (hM.out ht9 hW9).2⟩) hM.S.2.2 dX3_ahead_33
set_option maxHeartbeats 4000000 in
set_option maxRecDepth 100000 in
theorem c_X3_before (l : Launch) {D : va_G} {y : Nat} {a : Nat → Nat} {cI : ClassId} {n d : Nat} {th : Int32} {A : Nat → Nat → Int32} {sz : Nat} (v1 : Int32) (v2 : Int32) {L : Nat → Int32} {pp : Nat → Nat} {G : Nat → Int32} (hCo : Cor A n d L pp G) : Met l yX3_before (gws yX3_before cX3_before 3 (some .boolean)) { frames := 2, cells := 0, slots := 0, locals := 49 } (va_Pc [.ref y, .int v1, .int v2] (fun U => MPre D y a cI n d th A sz U U.heap)) (va_Qi (fun r (u : MS) => ((∃ a b, a < n ∧ b < n ∧ L a = v1 ∧ L b = v2 ∧ ((a < b ∧ r = 1) ∨ (¬ a < b ∧ r = 0)) ∧ u.2.2.1 = 0) ∨ (((∀ k, k < n → ¬ L k = v1) ∨ (∀ k, k < n → ¬ L k = v2)) ∧ u.2.2.1 = 1)) ∧ u.1 = n ∧ u.2.1 = d ∧ Scr A u.2.2.2) (MB D y a cI (va_A (wM y a cI n d th A) sz)) (va_A (wM y a cI n d th A) sz)) 0 0 (va_A (wM y a cI n d th A) sz) := by
  refine met_mm (QQ := fun AA => va_Qi (fun r (u : MS) => ((∃ a b, a < n ∧ b < n ∧ L a = v1 ∧ L b = v2 ∧ ((a < b ∧ r = 1) ∨ (¬ a < b ∧ r = 0)) ∧ u.2.2.1 = 0) ∨ (((∀ k, k < n → ¬ L k = v1) ∨ (∀ k, k < n → ¬ L k = v2)) ∧ u.2.2.1 = 1)) ∧ u.1 = n ∧ u.2.1 = d ∧ Scr A u.2.2.2) (MB D y a cI AA) AA) (by decide) (Nat.le_of_ble_eq_true rfl) ?_
  intro p e s m below meth c ls AA S hr hlocks hM hl
  obtain ⟨hx, hb, hml, hown, hg⟩ := id S
  have hl : lv_has ls 3 [(0, .ref y), (1, .int v1), (2, .int v2)] := hl
  have hn := hM.bd
  suffices key9 : ∀ (H : Heap) (locs : List Loc), MM D y a cI n d th A AA s.heap s H locs → W p l e { frames := 2, cells := 0, slots := 0, locals := 49 } s m [.ref y, .int v1, .int v2].toArray below meth c H locs 0 0 (MQ below ((fun AA : Nat → Prop => va_Qi (fun r (u : MS) => ((∃ a b, a < n ∧ b < n ∧ L a = v1 ∧ L b = v2 ∧ ((a < b ∧ r = 1) ∨ (¬ a < b ∧ r = 0)) ∧ u.2.2.1 = 0) ∨ (((∀ k, k < n → ¬ L k = v1) ∨ (∀ k, k < n → ¬ L k = v2)) ∧ u.2.2.1 = 1)) ∧ u.1 = n ∧ u.2.1 = d ∧ Scr A u.2.2.2) (MB D y a cI AA) AA) AA) [.ref y, .int v1, .int v2].toArray s 0 0 AA) (F0 m 0 ls []) from key9 _ _ hM
  clear hM
  intro H locs hM
  refine lv_aload_n hx hb dX3_before_0 rfl (lv_at hl 0 rfl) ?_
  refine lv_aload_n hx hb dX3_before_1 rfl (lv_at hl 0 rfl) ?_
  refine lv_iload_n hx hb dX3_before_2 rfl (lv_at hl 1 rfl) ?_
  refine vp_callSi (va_Run.run (runV (As := [.int v1]) (rest := [.ref y]) (Bh := RdM D y a n d th A) S (c_X3_placeOf l v1) (gw_V wk_410 wk_412 wp_22 wk_4 wk_413) rfl rfl 1 rfl (by decide +kernel) (by decide) ⟨Nat.le_refl _, Nat.le_refl _⟩ (fun _ _ _ h q => RdM.mv h q) hM.recv hM.rd hl.1 (Nat.le_of_ble_eq_true rfl) dX3_before_3)) (fun r hr => ?_)
  rcases hr with ⟨k_3, hk_3, he_3, hf_3, rfl⟩ | ⟨hn_3, rfl⟩
  · refine lv_if_lt (tgt := 17) hx hb dX3_before_6 (by decide) (fun c_6 => ?_) (fun c_6 => ?_)
    · exact absurd c_6 (nI_pos (by omega))
    · refine lv_aload_n hx hb dX3_before_9 rfl (lv_at hl 0 rfl) ?_
      refine lv_iload_n hx hb dX3_before_10 rfl (lv_at hl 2 rfl) ?_
      refine vp_callSi (va_Run.run (runV (As := [.int v2]) (rest := [.ref y]) (Bh := RdM D y a n d th A) S (c_X3_placeOf l v2) (gw_V wk_410 wk_412 wp_22 wk_4 wk_413) rfl rfl 1 rfl (by decide +kernel) (by decide) ⟨Nat.le_refl _, Nat.le_refl _⟩ (fun _ _ _ h q => RdM.mv h q) hM.recv hM.rd hl.1 (Nat.le_of_ble_eq_true rfl) dX3_before_11)) (fun r hr => ?_)
      rcases hr with ⟨k_11, hk_11, he_11, hf_11, rfl⟩ | ⟨hn_11, rfl⟩
      · refine lv_if_ge (tgt := 21) hx hb dX3_before_14 (by decide) (fun c_14 => ?_) (fun c_14 => ?_)
        · refine lv_iconst (v := 0) hx hb dX3_before_21 (by decide) ?_
          refine mw_thrown S hM dX3_before_22 (fun H locs hM => ?_)
          refine lv_aload_n hx hb dX3_before_25 rfl (lv_at hl 0 rfl) ?_
          refine rM_thrown S hM.rd dX3_before_26 ?_
          refine lv_if_le (tgt := 34) hx hb dX3_before_29 (by decide) (fun c_29 => ?_) (fun c_29 => ?_)
          · refine lv_aload_n hx hb dX3_before_34 rfl (lv_at hl 0 rfl) ?_
            refine va_callv (runV (As := []) (rest := []) (Bh := MPre D y a cI n d 0 A H.size) S (c_X3_weave l hCo.1) (gw_V wk_458 wk_460 wp_28 wk_4 wk_461) rfl rfl 0 rfl (by decide +kernel) (by decide) ⟨Nat.le_refl _, Nat.le_refl _⟩ (fun _ _ _ h q => MPre.mv h q) hM.recv hM.pre hl.1 (Nat.le_of_ble_eq_true rfl) dX3_before_35) hM.S (fun q _ h => hM.free q h) hM.free (fun u8 t8 H1 locs1 ht8 hvm8 hp hB8 hz8 hk8 hS8 => ?_)
            obtain ⟨n_35, d_35, th_35, A_35⟩ := u8
            have hM := hM.back ht8 hB8 hS8
            generalize H1 = H at hM ⊢
            generalize locs1 = locs at hM ⊢
            dsimp only at hp hM
            obtain ⟨T_35, O_35, hu, hO⟩ := hp
            obtain ⟨rfl, rfl, rfl, hA9⟩ : n = n_35 ∧ d = d_35 ∧ 0 = th_35 ∧ A_35 = va_up (va_up A 9 T_35) 8 O_35 := by have z := hu; simp only [Prod.mk.injEq] at z; exact ⟨z.1.symm, z.2.1.symm, z.2.2.1.symm, z.2.2.2⟩
            have hsc : Scr A A_35 := by rw [hA9]; exact Scr.up A _ _
            have hO : ∀ i, i < n → A_35 8 i = L i := fun i h => by rw [hA9, va_up_self]; exact hO i h
            clear hA9 hu
            refine lv_aload_n hx hb dX3_before_38 rfl (lv_at hl 0 rfl) ?_
            refine lv_iload_n hx hb dX3_before_39 rfl (lv_at hl 1 rfl) ?_
            refine vp_callSi (va_Run.run (runV (As := [.int v1]) (rest := []) (Bh := RdM D y a n d 0 A_35) S (c_X3_rowOf l v1) (gw_V wk_498 wk_500 wp_35 wk_4 wk_501) rfl rfl 1 rfl (by decide +kernel) (by decide) ⟨Nat.le_refl _, Nat.le_refl _⟩ (fun _ _ _ h q => RdM.mv h q) hM.recv hM.rd hl.1 (Nat.le_of_ble_eq_true rfl) dX3_before_40)) (fun r8 hr8 => ?_)
            have hr8 : ∃ k, k < n ∧ L k = v1 ∧ r8 = nI k := by
              obtain ⟨k9, h9, e9⟩ := hCo.ex hk_3 he_3
              rcases hr8 with ⟨k8, a1, a2, a3, a4⟩ | ⟨a1, a2⟩
              · exact ⟨k8, a1, by rw [← hO k8 a1]; exact a2, a4⟩
              · exact absurd (by rw [hO k9 h9]; exact e9) (a1 k9 h9)
            obtain ⟨k_40, hk_40, he_40, rfl⟩ := hr8
            refine lv_aload_n hx hb dX3_before_43 rfl (lv_at hl 0 rfl) ?_
            refine lv_iload_n hx hb dX3_before_44 rfl (lv_at hl 2 rfl) ?_
            refine vp_callSi (va_Run.run (runV (As := [.int v2]) (rest := [.int (nI k_40)]) (Bh := RdM D y a n d 0 A_35) S (c_X3_rowOf l v2) (gw_V wk_498 wk_500 wp_35 wk_4 wk_501) rfl rfl 1 rfl (by decide +kernel) (by decide) ⟨Nat.le_refl _, Nat.le_refl _⟩ (fun _ _ _ h q => RdM.mv h q) hM.recv hM.rd hl.1 (Nat.le_of_ble_eq_true rfl) dX3_before_45)) (fun r8 hr8 => ?_)
            have hr8 : ∃ k, k < n ∧ L k = v2 ∧ r8 = nI k := by
              obtain ⟨k9, h9, e9⟩ := hCo.ex hk_11 he_11
              rcases hr8 with ⟨k8, a1, a2, a3, a4⟩ | ⟨a1, a2⟩
              · exact ⟨k8, a1, by rw [← hO k8 a1]; exact a2, a4⟩
              · exact absurd (by rw [hO k9 h9]; exact e9) (a1 k9 h9)
            obtain ⟨k_45, hk_45, he_45, rfl⟩ := hr8
            refine lv_icmp_ge (tgt := 55) hx hb dX3_before_48 (by decide) (fun c_48 => ?_) (fun c_48 => ?_)
            · rw [nI_leI (by omega) (by omega)] at c_48
              refine lv_iconst (v := 0) hx hb dX3_before_55 (by decide) ?_
              exact W.zret (v := 0) hx hb hr rfl (fun t9 ht9 hW9 => ⟨⟨_, (n, d, 0, A_35), rfl, ⟨Or.inl ⟨k_40, k_45, hk_40, hk_45, he_40, he_45, Or.inr ⟨by omega, rfl⟩, rfl⟩, ⟨rfl, rfl, hsc⟩⟩, (hM.out ht9 hW9).1⟩, (hM.out ht9 hW9).2⟩) hM.S.2.2 dX3_before_56
            · rw [nI_leI (by omega) (by omega)] at c_48
              refine lv_iconst (v := 1) hx hb dX3_before_51 (by decide) ?_
              refine lv_goto (tgt := 56) hx hb dX3_before_52 (by decide) ?_
              exact W.zret (v := 1) hx hb hr rfl (fun t9 ht9 hW9 => ⟨⟨_, (n, d, 0, A_35), rfl, ⟨Or.inl ⟨k_40, k_45, hk_40, hk_45, he_40, he_45, Or.inl ⟨by omega, rfl⟩, rfl⟩, ⟨rfl, rfl, hsc⟩⟩, (hM.out ht9 hW9).1⟩, (hM.out ht9 hW9).2⟩) hM.S.2.2 dX3_before_56
          · exact absurd (show _ from c_29) (by decide)
        · exact absurd (nI_pos' (by omega)) c_14
      · refine lv_if_ge (tgt := 21) hx hb dX3_before_14 (by decide) (fun c_14 => ?_) (fun c_14 => ?_)
        · exact absurd (show _ from c_14) (by decide)
        · refine lv_iconst (v := 1) hx hb dX3_before_17 (by decide) ?_
          refine lv_goto (tgt := 22) hx hb dX3_before_18 (by decide) ?_
          refine mw_thrown S hM dX3_before_22 (fun H locs hM => ?_)
          refine lv_aload_n hx hb dX3_before_25 rfl (lv_at hl 0 rfl) ?_
          refine rM_thrown S hM.rd dX3_before_26 ?_
          refine lv_if_le (tgt := 34) hx hb dX3_before_29 (by decide) (fun c_29 => ?_) (fun c_29 => ?_)
          · exact absurd (show _ from c_29) (by decide)
          · refine lv_iconst (v := 0) hx hb dX3_before_32 (by decide) ?_
            exact W.zret (v := 0) hx hb hr rfl (fun t9 ht9 hW9 => ⟨⟨_, (n, d, 1, A), rfl, ⟨Or.inr ⟨Or.inr (hCo.no hn_11), rfl⟩, rfl, rfl, (fun _ _ => rfl)⟩, (hM.out ht9 hW9).1⟩, (hM.out ht9 hW9).2⟩) hM.S.2.2 dX3_before_33
  · refine lv_if_lt (tgt := 17) hx hb dX3_before_6 (by decide) (fun c_6 => ?_) (fun c_6 => ?_)
    · refine lv_iconst (v := 1) hx hb dX3_before_17 (by decide) ?_
      refine lv_goto (tgt := 22) hx hb dX3_before_18 (by decide) ?_
      refine mw_thrown S hM dX3_before_22 (fun H locs hM => ?_)
      refine lv_aload_n hx hb dX3_before_25 rfl (lv_at hl 0 rfl) ?_
      refine rM_thrown S hM.rd dX3_before_26 ?_
      refine lv_if_le (tgt := 34) hx hb dX3_before_29 (by decide) (fun c_29 => ?_) (fun c_29 => ?_)
      · exact absurd (show _ from c_29) (by decide)
      · refine lv_iconst (v := 0) hx hb dX3_before_32 (by decide) ?_
        exact W.zret (v := 0) hx hb hr rfl (fun t9 ht9 hW9 => ⟨⟨_, (n, d, 1, A), rfl, ⟨Or.inr ⟨Or.inl (hCo.no hn_3), rfl⟩, rfl, rfl, (fun _ _ => rfl)⟩, (hM.out ht9 hW9).1⟩, (hM.out ht9 hW9).2⟩) hM.S.2.2 dX3_before_33
    · exact absurd (show _ from c_6) (by decide)
set_option maxHeartbeats 4000000 in
set_option maxRecDepth 100000 in
theorem c_X3_row (l : Launch) {D : va_G} {y : Nat} {a : Nat → Nat} {cI : ClassId} {n d : Nat} {th : Int32} {A : Nat → Nat → Int32} {sz : Nat} (v1 : Int32) {L : Nat → Int32} {pp : Nat → Nat} {G : Nat → Int32} (hCo : Cor A n d L pp G) : Met l yX3_row (gws yX3_row cX3_row 2 (some .int)) { frames := 2, cells := 0, slots := 0, locals := 49 } (va_Pc [.ref y, .int v1] (fun U => MPre D y a cI n d th A sz U U.heap)) (va_Qi (fun r (u : MS) => ((∃ k, k < n ∧ v1 = nI k ∧ ((G k = 0 ∧ r = L k) ∨ (¬ G k = 0 ∧ r = -L k)) ∧ u.2.2.1 = 0) ∨ ((v1 < 0 ∨ nI n ≤ v1) ∧ u.2.2.1 = 1)) ∧ u.1 = n ∧ u.2.1 = d ∧ Scr A u.2.2.2) (MB D y a cI (va_A (wM y a cI n d th A) sz)) (va_A (wM y a cI n d th A) sz)) 0 0 (va_A (wM y a cI n d th A) sz) := by
  refine met_mm (QQ := fun AA => va_Qi (fun r (u : MS) => ((∃ k, k < n ∧ v1 = nI k ∧ ((G k = 0 ∧ r = L k) ∨ (¬ G k = 0 ∧ r = -L k)) ∧ u.2.2.1 = 0) ∨ ((v1 < 0 ∨ nI n ≤ v1) ∧ u.2.2.1 = 1)) ∧ u.1 = n ∧ u.2.1 = d ∧ Scr A u.2.2.2) (MB D y a cI AA) AA) (by decide) (Nat.le_of_ble_eq_true rfl) ?_
  intro p e s m below meth c ls AA S hr hlocks hM hl
  obtain ⟨hx, hb, hml, hown, hg⟩ := id S
  have hl : lv_has ls 2 [(0, .ref y), (1, .int v1)] := hl
  have hn := hM.bd
  suffices key9 : ∀ (H : Heap) (locs : List Loc), MM D y a cI n d th A AA s.heap s H locs → W p l e { frames := 2, cells := 0, slots := 0, locals := 49 } s m [.ref y, .int v1].toArray below meth c H locs 0 0 (MQ below ((fun AA : Nat → Prop => va_Qi (fun r (u : MS) => ((∃ k, k < n ∧ v1 = nI k ∧ ((G k = 0 ∧ r = L k) ∨ (¬ G k = 0 ∧ r = -L k)) ∧ u.2.2.1 = 0) ∨ ((v1 < 0 ∨ nI n ≤ v1) ∧ u.2.2.1 = 1)) ∧ u.1 = n ∧ u.2.1 = d ∧ Scr A u.2.2.2) (MB D y a cI AA) AA) AA) [.ref y, .int v1].toArray s 0 0 AA) (F0 m 0 ls []) from key9 _ _ hM
  clear hM
  intro H locs hM
  refine lv_aload_n hx hb dX3_row_0 rfl (lv_at hl 0 rfl) ?_
  refine lv_iload_n hx hb dX3_row_1 rfl (lv_at hl 1 rfl) ?_
  refine lv_if_lt (tgt := 13) hx hb dX3_row_2 (by decide) (fun c_2 => ?_) (fun c_2 => ?_)
  · refine lv_iconst (v := 1) hx hb dX3_row_13 (by decide) ?_
    refine lv_goto (tgt := 18) hx hb dX3_row_14 (by decide) ?_
    refine mw_thrown S hM dX3_row_18 (fun H locs hM => ?_)
    refine lv_aload_n hx hb dX3_row_21 rfl (lv_at hl 0 rfl) ?_
    refine rM_thrown S hM.rd dX3_row_22 ?_
    refine lv_if_le (tgt := 30) hx hb dX3_row_25 (by decide) (fun c_25 => ?_) (fun c_25 => ?_)
    · exact absurd (show _ from c_25) (by decide)
    · refine lv_iconst (v := 0) hx hb dX3_row_28 (by decide) ?_
      exact W.iret (v := 0) hx hb hr (fun t9 ht9 hW9 => ⟨⟨_, (n, d, 1, A), rfl, ⟨Or.inr ⟨Or.inl c_2, rfl⟩, rfl, rfl, (fun _ _ => rfl)⟩, (hM.out ht9 hW9).1⟩, (hM.out ht9 hW9).2⟩) hM.S.2.2 dX3_row_29
  · refine lv_iload_n hx hb dX3_row_5 rfl (lv_at hl 1 rfl) ?_
    refine lv_aload_n hx hb dX3_row_6 rfl (lv_at hl 0 rfl) ?_
    refine rM_many S hM.rd dX3_row_7 ?_
    refine lv_icmp_lt (tgt := 17) hx hb dX3_row_10 (by decide) (fun c_10 => ?_) (fun c_10 => ?_)
    · obtain ⟨k, hk31, rfl⟩ := nI_of c_2
      rw [nI_ltI hk31 (by omega)] at c_10
      refine lv_iconst (v := 0) hx hb dX3_row_17 (by decide) ?_
      refine mw_thrown S hM dX3_row_18 (fun H locs hM => ?_)
      refine lv_aload_n hx hb dX3_row_21 rfl (lv_at hl 0 rfl) ?_
      refine rM_thrown S hM.rd dX3_row_22 ?_
      refine lv_if_le (tgt := 30) hx hb dX3_row_25 (by decide) (fun c_25 => ?_) (fun c_25 => ?_)
      · refine lv_aload_n hx hb dX3_row_30 rfl (lv_at hl 0 rfl) ?_
        refine va_callv (runV (As := []) (rest := []) (Bh := MPre D y a cI n d 0 A H.size) S (c_X3_weave l hCo.1) (gw_V wk_458 wk_460 wp_28 wk_4 wk_461) rfl rfl 0 rfl (by decide +kernel) (by decide) ⟨Nat.le_refl _, Nat.le_refl _⟩ (fun _ _ _ h q => MPre.mv h q) hM.recv hM.pre hl.1 (Nat.le_of_ble_eq_true rfl) dX3_row_31) hM.S (fun q _ h => hM.free q h) hM.free (fun u8 t8 H1 locs1 ht8 hvm8 hp hB8 hz8 hk8 hS8 => ?_)
        obtain ⟨n_31, d_31, th_31, A_31⟩ := u8
        have hM := hM.back ht8 hB8 hS8
        generalize H1 = H at hM ⊢
        generalize locs1 = locs at hM ⊢
        dsimp only at hp hM
        obtain ⟨T_31, O_31, hu, hO⟩ := hp
        obtain ⟨rfl, rfl, rfl, hA9⟩ : n = n_31 ∧ d = d_31 ∧ 0 = th_31 ∧ A_31 = va_up (va_up A 9 T_31) 8 O_31 := by have z := hu; simp only [Prod.mk.injEq] at z; exact ⟨z.1.symm, z.2.1.symm, z.2.2.1.symm, z.2.2.2⟩
        have hsc : Scr A A_31 := by rw [hA9]; exact Scr.up A _ _
        have hO : ∀ i, i < n → A_31 8 i = L i := fun i h => by rw [hA9, va_up_self]; exact hO i h
        clear hA9 hu
        refine lv_aload_n hx hb dX3_row_34 rfl (lv_at hl 0 rfl) ?_
        refine lv_aload_n hx hb dX3_row_35 rfl (lv_at hl 0 rfl) ?_
        refine rM_order S hM.rd dX3_row_36 ?_
        refine lv_iload_n hx hb dX3_row_39 rfl (lv_at hl 1 rfl) ?_
        refine rM_ald S hM.rd 8 (by decide) (by show _ < 512; omega) dX3_row_40 ?_
        rw [hO k c_10]
        refine vp_callSi (va_Run.run (runV (As := [.int (L k)]) (rest := []) (Bh := RdM D y a n d 0 A_31) S (c_X3_isRemoved l (L k)) (gw_V wk_446 wk_448 wp_26 wk_4 wk_449) rfl rfl 1 rfl (by decide +kernel) (by decide) ⟨Nat.le_refl _, Nat.le_refl _⟩ (fun _ _ _ h q => RdM.mv h q) hM.recv hM.rd hl.1 (Nat.le_of_ble_eq_true rfl) dX3_row_41)) (fun r hr => ?_)
        rw [hsc.rem] at hr
        rcases hr with ⟨h_41, rfl⟩ | ⟨h_41, rfl⟩
        · have g_41 : ¬ G k = 0 := fun z => by rw [(hCo.2.2 _ c_10).mp z] at h_41; cases h_41
          refine lv_if_eq (tgt := 57) hx hb dX3_row_44 (by decide) (fun c_44 => ?_) (fun c_44 => ?_)
          · exact absurd (show _ from c_44) (by decide)
          · refine lv_aload_n hx hb dX3_row_47 rfl (lv_at hl 0 rfl) ?_
            refine rM_order S hM.rd dX3_row_48 ?_
            refine lv_iload_n hx hb dX3_row_51 rfl (lv_at hl 1 rfl) ?_
            refine rM_ald S hM.rd 8 (by decide) (by show _ < 512; omega) dX3_row_52 ?_
            rw [hO k c_10]
            refine lv_ineg hx hb dX3_row_53 ?_
            refine lv_goto (tgt := 63) hx hb dX3_row_54 (by decide) ?_
            exact W.iret (v := (-(L k))) hx hb hr (fun t9 ht9 hW9 => ⟨⟨_, (n, d, 0, A_31), rfl, ⟨Or.inl ⟨k, c_10, rfl, Or.inr ⟨g_41, rfl⟩, rfl⟩, ⟨rfl, rfl, hsc⟩⟩, (hM.out ht9 hW9).1⟩, (hM.out ht9 hW9).2⟩) hM.S.2.2 dX3_row_63
        · have g_41 : G k = 0 := (hCo.2.2 _ c_10).mpr h_41
          refine lv_if_eq (tgt := 57) hx hb dX3_row_44 (by decide) (fun c_44 => ?_) (fun c_44 => ?_)
          · refine lv_aload_n hx hb dX3_row_57 rfl (lv_at hl 0 rfl) ?_
            refine rM_order S hM.rd dX3_row_58 ?_
            refine lv_iload_n hx hb dX3_row_61 rfl (lv_at hl 1 rfl) ?_
            refine rM_ald S hM.rd 8 (by decide) (by show _ < 512; omega) dX3_row_62 ?_
            rw [hO k c_10]
            exact W.iret (v := (L k)) hx hb hr (fun t9 ht9 hW9 => ⟨⟨_, (n, d, 0, A_31), rfl, ⟨Or.inl ⟨k, c_10, rfl, Or.inl ⟨g_41, rfl⟩, rfl⟩, ⟨rfl, rfl, hsc⟩⟩, (hM.out ht9 hW9).1⟩, (hM.out ht9 hW9).2⟩) hM.S.2.2 dX3_row_63
          · exact absurd (show _ from c_44) (by decide)
      · exact absurd (show _ from c_25) (by decide)
    · refine lv_iconst (v := 1) hx hb dX3_row_13 (by decide) ?_
      refine lv_goto (tgt := 18) hx hb dX3_row_14 (by decide) ?_
      refine mw_thrown S hM dX3_row_18 (fun H locs hM => ?_)
      refine lv_aload_n hx hb dX3_row_21 rfl (lv_at hl 0 rfl) ?_
      refine rM_thrown S hM.rd dX3_row_22 ?_
      refine lv_if_le (tgt := 30) hx hb dX3_row_25 (by decide) (fun c_25 => ?_) (fun c_25 => ?_)
      · exact absurd (show _ from c_25) (by decide)
      · refine lv_iconst (v := 0) hx hb dX3_row_28 (by decide) ?_
        exact W.iret (v := 0) hx hb hr (fun t9 ht9 hW9 => ⟨⟨_, (n, d, 1, A), rfl, ⟨Or.inr ⟨Or.inr (i32_nlt.mp c_10), rfl⟩, rfl, rfl, (fun _ _ => rfl)⟩, (hM.out ht9 hW9).1⟩, (hM.out ht9 hW9).2⟩) hM.S.2.2 dX3_row_29
end
section
theorem i32_6 {v : Int32} (h0 : ¬ v < 0) (h1 : ¬ 6 < v) (n0 : ¬ v = 0) (n1 : ¬ v = 1) (n2 : ¬ v = 2) (n3 : ¬ v = 3) (n4 : ¬ v = 4) (n5 : ¬ v = 5) : v = 6 := by
  have e0 : (0 : Int32).toInt = 0 := by decide
  have e6 : (6 : Int32).toInt = 6 := by decide
  rw [Int32.lt_iff_toInt_lt, e0] at h0
  rw [Int32.lt_iff_toInt_lt, e6] at h1
  have m0 := lv_neT n0 (show (0 : Int32).toInt = 0 by decide)
  have m1 := lv_neT n1 (show (1 : Int32).toInt = 1 by decide)
  have m2 := lv_neT n2 (show (2 : Int32).toInt = 2 by decide)
  have m3 := lv_neT n3 (show (3 : Int32).toInt = 3 by decide)
  have m4 := lv_neT n4 (show (4 : Int32).toInt = 4 by decide)
  have m5 := lv_neT n5 (show (5 : Int32).toInt = 5 by decide)
  exact Int32.toInt_inj.mp (by rw [e6]; omega)
theorem i32_not06 {v : Int32} (h : v < 0 ∨ 6 < v) : ¬ v = 0 ∧ ¬ v = 1 ∧ ¬ v = 2 ∧ ¬ v = 3 ∧ ¬ v = 4 ∧ ¬ v = 5 ∧ ¬ v = 6 := by
  refine ⟨fun e => ?_, fun e => ?_, fun e => ?_, fun e => ?_, fun e => ?_, fun e => ?_, fun e => ?_⟩ <;> (subst e; revert h; decide)
theorem i32_2le {v : Int32} (h : 2 ≤ v) : 1 < v := by
  have e1 : (1 : Int32).toInt = 1 := by decide
  have e2 : (2 : Int32).toInt = 2 := by decide
  rw [Int32.le_iff_toInt_le, e2] at h
  rw [Int32.lt_iff_toInt_lt, e1]
  omega
set_option maxHeartbeats 4000000 in
set_option maxRecDepth 100000 in
theorem c_X3_sum (l : Launch) {D : va_G} {y : Nat} {a : Nat → Nat} {cI : ClassId} {n d : Nat} {th : Int32} {A : Nat → Nat → Int32} {sz : Nat} (v1 : Int32) (v2 : Int32) {L : Nat → Int32} {pp : Nat → Nat} {G : Nat → Int32} (hCo : Cor A n d L pp G) {KD VL : Nat → Int32} (hKD : ∀ k, k < n → ∀ r, OfM A n d (L k) 2 6 r → r = KD k) (hVL : ∀ k, k < n → ∀ r, OfM A n d (L k) 3 7 r → r = VL k) : Met l yX3_sum (gws yX3_sum cX3_sum 7 (some .long)) { frames := 2, cells := 0, slots := 0, locals := 49 } (va_Pc [.ref y, .int v1, .int v2] (fun U => MPre D y a cI n d th A sz U U.heap)) (va_Ql (fun r (u : MS) => r = smt G KD VL v1 v2 n ∧ u.1 = n ∧ u.2.1 = d ∧ u.2.2.1 = 0 ∧ Scr A u.2.2.2) (MB D y a cI (va_A (wM y a cI n d th A) sz)) (va_A (wM y a cI n d th A) sz)) 0 0 (va_A (wM y a cI n d th A) sz) := by
  refine met_mm (QQ := fun AA => va_Ql (fun r (u : MS) => r = smt G KD VL v1 v2 n ∧ u.1 = n ∧ u.2.1 = d ∧ u.2.2.1 = 0 ∧ Scr A u.2.2.2) (MB D y a cI AA) AA) (by decide) (Nat.le_of_ble_eq_true rfl) ?_
  intro p e s m below meth c ls AA S hr hlocks hM hl
  obtain ⟨hx, hb, hml, hown, hg⟩ := id S
  have hl : lv_has ls 7 [(0, .ref y), (1, .int v1), (2, .int v2)] := hl
  have hn := hM.bd
  suffices key9 : ∀ (H : Heap) (locs : List Loc), MM D y a cI n d th A AA s.heap s H locs → W p l e { frames := 2, cells := 0, slots := 0, locals := 49 } s m [.ref y, .int v1, .int v2].toArray below meth c H locs 0 0 (MQ below ((fun AA : Nat → Prop => va_Ql (fun r (u : MS) => r = smt G KD VL v1 v2 n ∧ u.1 = n ∧ u.2.1 = d ∧ u.2.2.1 = 0 ∧ Scr A u.2.2.2) (MB D y a cI AA) AA) AA) [.ref y, .int v1, .int v2].toArray s 0 0 AA) (F0 m 0 ls []) from key9 _ _ hM
  clear hM
  intro H locs hM
  refine lv_aload_n hx hb dX3_sum_0 rfl (lv_at hl 0 rfl) ?_
  refine lv_iconst (v := 0) hx hb dX3_sum_1 (by decide) ?_
  refine mw_thrown S hM dX3_sum_2 (fun H locs hM => ?_)
  refine lv_aload_n hx hb dX3_sum_5 rfl (lv_at hl 0 rfl) ?_
  refine va_callv (runV (As := []) (rest := []) (Bh := MPre D y a cI n d 0 A H.size) S (c_X3_weave l hCo.1) (gw_V wk_458 wk_460 wp_28 wk_4 wk_461) rfl rfl 0 rfl (by decide +kernel) (by decide) ⟨Nat.le_refl _, Nat.le_refl _⟩ (fun _ _ _ h q => MPre.mv h q) hM.recv hM.pre hl.1 (Nat.le_of_ble_eq_true rfl) dX3_sum_6) hM.S (fun q _ h => hM.free q h) hM.free (fun u8 t8 H1 locs1 ht8 hvm8 hp hB8 hz8 hk8 hS8 => ?_)
  obtain ⟨n_6, d_6, th_6, A_6⟩ := u8
  have hM := hM.back ht8 hB8 hS8
  generalize H1 = H at hM ⊢
  generalize locs1 = locs at hM ⊢
  dsimp only at hp hM
  obtain ⟨T_6, O_6, hu, hO⟩ := hp
  obtain ⟨rfl, rfl, rfl, hA9⟩ : n = n_6 ∧ d = d_6 ∧ 0 = th_6 ∧ A_6 = va_up (va_up A 9 T_6) 8 O_6 := by have z := hu; simp only [Prod.mk.injEq] at z; exact ⟨z.1.symm, z.2.1.symm, z.2.2.1.symm, z.2.2.2⟩
  have hsc : Scr A A_6 := by rw [hA9]; exact Scr.up A _ _
  have hO : ∀ i, i < n → A_6 8 i = L i := fun i h => by rw [hA9, va_up_self]; exact hO i h
  clear hA9 hu
  refine lv_lconst (v := 0) hx hb dX3_sum_9 (by decide) ?_
  refine lv_lstore_n (lv' := [(3, .long 0), (0, .ref y), (1, .int v1), (2, .int v2)]) hx hb dX3_sum_10 rfl hl (by decide) rfl (fun ls hl => ?_)
  refine lv_iconst (v := nI 0) hx hb dX3_sum_11 (by decide) ?_
  refine lv_istore (lv' := [(5, .int (nI 0)), (3, .long 0), (0, .ref y), (1, .int v1), (2, .int v2)]) hx hb dX3_sum_12 hl (by decide) rfl (fun ls hl => ?_)
  refine lv_iconst (v := nI 0) hx hb dX3_sum_14 (by decide) ?_
  refine lv_istore (lv' := [(6, .int (nI 0)), (5, .int (nI 0)), (3, .long 0), (0, .ref y), (1, .int v1), (2, .int v2)]) hx hb dX3_sum_15 hl (by decide) rfl (fun ls hl => ?_)
  suffices hloop : ∀ (fuel : Nat) (k q : Nat) (t : Int64), k ≤ n → n - k < fuel → q = vis G k → t = smt G KD VL v1 v2 k → ∀ ls : Array Slot, lv_has ls 7 [(6, .int (nI k)), (5, .int (nI q)), (3, .long t), (0, .ref y), (1, .int v1), (2, .int v2)] → W p l e { frames := 2, cells := 0, slots := 0, locals := 49 } s m [.ref y, .int v1, .int v2].toArray below meth c H locs 0 0 (MQ below ((fun AA : Nat → Prop => va_Ql (fun r (u : MS) => r = smt G KD VL v1 v2 n ∧ u.1 = n ∧ u.2.1 = d ∧ u.2.2.1 = 0 ∧ Scr A u.2.2.2) (MB D y a cI AA) AA) AA) [.ref y, .int v1, .int v2].toArray s 0 0 AA) (F0 m 17 ls []) from hloop (n + 1) 0 0 0 (by omega) (by omega) rfl rfl  ls (lv_sub hl [0, 1, 2, 3, 4, 5] rfl)
  intro fuel
  induction fuel with
  | zero => intro k q t hk hf hq ht; omega
  | succ fuel ih =>
    intro k q t hk hf hq ht  ls hl
    refine lv_iload hx hb dX3_sum_17 (lv_at hl 0 rfl) ?_
    refine lv_aload_n hx hb dX3_sum_19 rfl (lv_at hl 3 rfl) ?_
    refine rM_many S hM.rd dX3_sum_20 ?_
    refine lv_icmp_ge (tgt := 95) hx hb dX3_sum_23 (by decide) (fun c_23 => ?_) (fun c_23 => ?_)
    · rw [nI_leI (by omega) (by omega)] at c_23
      refine lv_lload_n hx hb dX3_sum_95 rfl (lv_at hl 2 rfl) ?_
      exact W.lret (v := t) hx hb hr (fun t9 ht9 hW9 => ⟨⟨_, (n, d, 0, A_6), rfl, ⟨by rw [ht, show k = n by omega], ⟨rfl, rfl, rfl, hsc⟩⟩, (hM.out ht9 hW9).1⟩, (hM.out ht9 hW9).2⟩) hM.S.2.2 dX3_sum_96
    · rw [nI_leI (by omega) (by omega)] at c_23
      refine lv_aload_n hx hb dX3_sum_26 rfl (lv_at hl 3 rfl) ?_
      refine lv_aload_n hx hb dX3_sum_27 rfl (lv_at hl 3 rfl) ?_
      refine rM_order S hM.rd dX3_sum_28 ?_
      refine lv_iload hx hb dX3_sum_31 (lv_at hl 0 rfl) ?_
      refine rM_ald S hM.rd 8 (by decide) (by show _ < 512; omega) dX3_sum_33 ?_
      rw [hO k (by omega)]
      refine vp_callSi (va_Run.run (runV (As := [.int (L k)]) (rest := []) (Bh := RdM D y a n d 0 A_6) S (c_X3_isRemoved l (L k)) (gw_V wk_446 wk_448 wp_26 wk_4 wk_449) rfl rfl 1 rfl (by decide +kernel) (by decide) ⟨Nat.le_refl _, Nat.le_refl _⟩ (fun _ _ _ h q => RdM.mv h q) hM.recv hM.rd hl.1 (Nat.le_of_ble_eq_true rfl) dX3_sum_34)) (fun r hr => ?_)
      rw [hsc.rem] at hr
      rcases hr with ⟨h_34, rfl⟩ | ⟨h_34, rfl⟩
      · have g_34 : ¬ G k = 0 := fun z => by rw [(hCo.2.2 _ (by omega)).mp z] at h_34; cases h_34
        refine lv_if_ne (tgt := 89) hx hb dX3_sum_37 (by decide) (fun c_37 => ?_) (fun c_37 => ?_)
        · refine lv_iinc (v := nI (k + 1)) (lv' := [(6, .int (nI (k + 1))), (5, .int (nI q)), (3, .long t), (0, .ref y), (1, .int v1), (2, .int v2)]) hx hb dX3_sum_89 hl (k := 0) rfl (nI_1 _) (by decide) rfl (fun ls hl => ?_)
          refine lv_goto (tgt := 17) hx hb dX3_sum_92 (by decide) ?_
          exact ih (k + 1) q t (by omega) (by omega) (vis_n hq g_34) (smt_n hq ht (fun z => g_34 z.1))  ls (lv_sub hl [0, 1, 2, 3, 4, 5] rfl)
        · exact absurd (show _ from c_37) (by decide)
      · have g_34 : G k = 0 := (hCo.2.2 _ (by omega)).mpr h_34
        refine lv_if_ne (tgt := 89) hx hb dX3_sum_37 (by decide) (fun c_37 => ?_) (fun c_37 => ?_)
        · exact absurd (show _ from c_37) (by decide)
        · refine lv_lload_n hx hb dX3_sum_40 rfl (lv_at hl 2 rfl) ?_
          refine lv_iload hx hb dX3_sum_41 (lv_at hl 1 rfl) ?_
          refine lv_iload_n hx hb dX3_sum_43 rfl (lv_at hl 4 rfl) ?_
          refine lv_icmp_lt (tgt := 83) hx hb dX3_sum_44 (by decide) (fun c_44 => ?_) (fun c_44 => ?_)
          · refine lv_lconst (v := 0) hx hb dX3_sum_83 (by decide) ?_
            refine lv_ladd hx hb dX3_sum_84 ?_
            refine lv_lstore_n (lv' := [(3, .long (t + 0)), (6, .int (nI k)), (5, .int (nI q)), (0, .ref y), (1, .int v1), (2, .int v2)]) hx hb dX3_sum_85 rfl hl (by decide) rfl (fun ls hl => ?_)
            refine lv_iinc (v := nI (q + 1)) (lv' := [(5, .int (nI (q + 1))), (3, .long (t + 0)), (6, .int (nI k)), (0, .ref y), (1, .int v1), (2, .int v2)]) hx hb dX3_sum_86 hl (k := 2) rfl (nI_1 _) (by decide) rfl (fun ls hl => ?_)
            refine lv_iinc (v := nI (k + 1)) (lv' := [(6, .int (nI (k + 1))), (5, .int (nI (q + 1))), (3, .long (t + 0)), (0, .ref y), (1, .int v1), (2, .int v2)]) hx hb dX3_sum_89 hl (k := 2) rfl (nI_1 _) (by decide) rfl (fun ls hl => ?_)
            refine lv_goto (tgt := 17) hx hb dX3_sum_92 (by decide) ?_
            exact ih (k + 1) (q + 1) _ (by omega) (by omega) (vis_s hq g_34) (by rw [i64_z]; exact smt_n hq ht (fun z => absurd z.2.1 (i32_nle.mpr c_44)))  ls (lv_sub hl [0, 1, 2, 3, 4, 5] rfl)
          · refine lv_iload hx hb dX3_sum_47 (lv_at hl 1 rfl) ?_
            refine lv_iload_n hx hb dX3_sum_49 rfl (lv_at hl 5 rfl) ?_
            refine lv_icmp_ge (tgt := 83) hx hb dX3_sum_50 (by decide) (fun c_50 => ?_) (fun c_50 => ?_)
            · refine lv_lconst (v := 0) hx hb dX3_sum_83 (by decide) ?_
              refine lv_ladd hx hb dX3_sum_84 ?_
              refine lv_lstore_n (lv' := [(3, .long (t + 0)), (6, .int (nI k)), (5, .int (nI q)), (0, .ref y), (1, .int v1), (2, .int v2)]) hx hb dX3_sum_85 rfl hl (by decide) rfl (fun ls hl => ?_)
              refine lv_iinc (v := nI (q + 1)) (lv' := [(5, .int (nI (q + 1))), (3, .long (t + 0)), (6, .int (nI k)), (0, .ref y), (1, .int v1), (2, .int v2)]) hx hb dX3_sum_86 hl (k := 2) rfl (nI_1 _) (by decide) rfl (fun ls hl => ?_)
              refine lv_iinc (v := nI (k + 1)) (lv' := [(6, .int (nI (k + 1))), (5, .int (nI (q + 1))), (3, .long (t + 0)), (0, .ref y), (1, .int v1), (2, .int v2)]) hx hb dX3_sum_89 hl (k := 2) rfl (nI_1 _) (by decide) rfl (fun ls hl => ?_)
              refine lv_goto (tgt := 17) hx hb dX3_sum_92 (by decide) ?_
              exact ih (k + 1) (q + 1) _ (by omega) (by omega) (vis_s hq g_34) (by rw [i64_z]; exact smt_n hq ht (fun z => absurd z.2.2.1 (i32_nlt.mpr c_50)))  ls (lv_sub hl [0, 1, 2, 3, 4, 5] rfl)
            · refine lv_aload_n hx hb dX3_sum_53 rfl (lv_at hl 3 rfl) ?_
              refine lv_aload_n hx hb dX3_sum_54 rfl (lv_at hl 3 rfl) ?_
              refine rM_order S hM.rd dX3_sum_55 ?_
              refine lv_iload hx hb dX3_sum_58 (lv_at hl 0 rfl) ?_
              refine rM_ald S hM.rd 8 (by decide) (by show _ < 512; omega) dX3_sum_60 ?_
              rw [hO k (by omega)]
              refine vp_callSi (va_Run.run (runV (As := [.int (L k)]) (rest := [.long t]) (Bh := RdM D y a n d 0 A_6) S (c_X3_kindOf l (L k) (by rw [hsc 0 (by decide)]; exact hCo.ex' (by omega))) (gw_V wk_466 wk_468 wp_30 wk_4 wk_469) rfl rfl 1 rfl (by decide +kernel) (by decide) ⟨Nat.le_refl _, Nat.le_refl _⟩ (fun _ _ _ h q => RdM.mv h q) hM.recv hM.rd hl.1 (Nat.le_of_ble_eq_true rfl) dX3_sum_61)) (fun r_61 hr_61 => ?_)
              refine lv_iconst (v := 2) hx hb dX3_sum_64 (by decide) ?_
              refine lv_icmp_ne (tgt := 83) hx hb dX3_sum_65 (by decide) (fun c_65 => ?_) (fun c_65 => ?_)
              · refine lv_lconst (v := 0) hx hb dX3_sum_83 (by decide) ?_
                refine lv_ladd hx hb dX3_sum_84 ?_
                refine lv_lstore_n (lv' := [(3, .long (t + 0)), (6, .int (nI k)), (5, .int (nI q)), (0, .ref y), (1, .int v1), (2, .int v2)]) hx hb dX3_sum_85 rfl hl (by decide) rfl (fun ls hl => ?_)
                refine lv_iinc (v := nI (q + 1)) (lv' := [(5, .int (nI (q + 1))), (3, .long (t + 0)), (6, .int (nI k)), (0, .ref y), (1, .int v1), (2, .int v2)]) hx hb dX3_sum_86 hl (k := 2) rfl (nI_1 _) (by decide) rfl (fun ls hl => ?_)
                refine lv_iinc (v := nI (k + 1)) (lv' := [(6, .int (nI (k + 1))), (5, .int (nI (q + 1))), (3, .long (t + 0)), (0, .ref y), (1, .int v1), (2, .int v2)]) hx hb dX3_sum_89 hl (k := 2) rfl (nI_1 _) (by decide) rfl (fun ls hl => ?_)
                refine lv_goto (tgt := 17) hx hb dX3_sum_92 (by decide) ?_
                exact ih (k + 1) (q + 1) _ (by omega) (by omega) (vis_s hq g_34) (by rw [i64_z]; exact smt_n hq ht (fun z => c_65 (by rw [hKD k (by omega) _ (hsc.of (by decide) (by decide) hr_61)]; exact z.2.2.2)))  ls (lv_sub hl [0, 1, 2, 3, 4, 5] rfl)
              · refine lv_aload_n hx hb dX3_sum_68 rfl (lv_at hl 3 rfl) ?_
                refine lv_aload_n hx hb dX3_sum_69 rfl (lv_at hl 3 rfl) ?_
                refine rM_order S hM.rd dX3_sum_70 ?_
                refine lv_iload hx hb dX3_sum_73 (lv_at hl 0 rfl) ?_
                refine rM_ald S hM.rd 8 (by decide) (by show _ < 512; omega) dX3_sum_75 ?_
                rw [hO k (by omega)]
                refine vp_callSi (va_Run.run (runV (As := [.int (L k)]) (rest := [.long t]) (Bh := RdM D y a n d 0 A_6) S (c_X3_valueOf l (L k) (by rw [hsc 0 (by decide)]; exact hCo.ex' (by omega))) (gw_V wk_474 wk_476 wp_32 wk_4 wk_477) rfl rfl 1 rfl (by decide +kernel) (by decide) ⟨Nat.le_refl _, Nat.le_refl _⟩ (fun _ _ _ h q => RdM.mv h q) hM.recv hM.rd hl.1 (Nat.le_of_ble_eq_true rfl) dX3_sum_76)) (fun r_76 hr_76 => ?_)
                refine lv_i2l (v := r_76.toInt64) hx hb dX3_sum_79 rfl ?_
                refine lv_goto (tgt := 84) hx hb dX3_sum_80 (by decide) ?_
                refine lv_ladd hx hb dX3_sum_84 ?_
                refine lv_lstore_n (lv' := [(3, .long (t + r_76.toInt64)), (6, .int (nI k)), (5, .int (nI q)), (0, .ref y), (1, .int v1), (2, .int v2)]) hx hb dX3_sum_85 rfl hl (by decide) rfl (fun ls hl => ?_)
                refine lv_iinc (v := nI (q + 1)) (lv' := [(5, .int (nI (q + 1))), (3, .long (t + r_76.toInt64)), (6, .int (nI k)), (0, .ref y), (1, .int v1), (2, .int v2)]) hx hb dX3_sum_86 hl (k := 2) rfl (nI_1 _) (by decide) rfl (fun ls hl => ?_)
                refine lv_iinc (v := nI (k + 1)) (lv' := [(6, .int (nI (k + 1))), (5, .int (nI (q + 1))), (3, .long (t + r_76.toInt64)), (0, .ref y), (1, .int v1), (2, .int v2)]) hx hb dX3_sum_89 hl (k := 2) rfl (nI_1 _) (by decide) rfl (fun ls hl => ?_)
                refine lv_goto (tgt := 17) hx hb dX3_sum_92 (by decide) ?_
                exact ih (k + 1) (q + 1) _ (by omega) (by omega) (vis_s hq g_34) (by rw [hVL k (by omega) _ (hsc.of (by decide) (by decide) hr_76)]; exact smt_s hq ht g_34 (i32_nlt.mp c_44) (i32_nle.mp c_50) (by rw [← hKD k (by omega) _ (hsc.of (by decide) (by decide) hr_61)]; exact c_65))  ls (lv_sub hl [0, 1, 2, 3, 4, 5] rfl)
set_option maxHeartbeats 4000000 in
set_option maxRecDepth 100000 in
theorem c_X3_of (l : Launch) {D : va_G} {y : Nat} {a : Nat → Nat} {cI : ClassId} {n d : Nat} {th : Int32} {A : Nat → Nat → Int32} {sz : Nat} (v1 : Int32) (v2 : Int32) (h0 : ∀ k, k < n → ¬ A 0 k = 0) : Met l yX3_of (gws yX3_of cX3_of 4 (some .int)) { frames := 2, cells := 0, slots := 0, locals := 46 } (va_Pc [.ref y, .int v1, .int v2] (fun U => MPre D y a cI n d th A sz U U.heap)) (va_Qi (fun r (u : MS) => ((u.2.2.1 = 0 ∧ ((v1 = 0 ∧ v2 = 0 ∧ r = 0) ∨ (v1 = 0 ∧ v2 = 1 ∧ r = nI (cntB (fun k => decide (A 1 k = v1)) n)) ∨ (¬ v1 = 0 ∧ ∃ k, k < n ∧ A 0 k = v1 ∧ ((v2 = 0 ∧ r = A 1 k) ∨ (v2 = 1 ∧ r = nI (cntB (fun k => decide (A 1 k = v1)) n)) ∨ (v2 = 2 ∧ r = nI (cntB (fun k => decide (A 5 k = v1) && !decide (A 6 k < 0)) d)) ∨ (v2 = 3 ∧ r = nI (cntB (fun k => decide (A 5 k = v1) && decide (A 6 k < 0)) d)) ∨ (v2 = 4 ∧ OfM A n d v1 0 4 r) ∨ (v2 = 5 ∧ OfM A n d v1 2 6 r) ∨ (v2 = 6 ∧ OfM A n d v1 3 7 r))))) ∨ (u.2.2.1 = 1 ∧ ((¬ v1 = 0 ∧ ∀ k, k < n → ¬ A 0 k = v1) ∨ (v1 = 0 ∧ 1 < v2) ∨ (¬ v2 = 0 ∧ ¬ v2 = 1 ∧ ¬ v2 = 2 ∧ ¬ v2 = 3 ∧ ¬ v2 = 4 ∧ ¬ v2 = 5 ∧ ¬ v2 = 6)))) ∧ u.1 = n ∧ u.2.1 = d ∧ u.2.2.2 = A) (MB D y a cI (va_A (wM y a cI n d th A) sz)) (va_A (wM y a cI n d th A) sz)) 0 0 (va_A (wM y a cI n d th A) sz) := by
  refine met_mm (QQ := fun AA => va_Qi (fun r (u : MS) => ((u.2.2.1 = 0 ∧ ((v1 = 0 ∧ v2 = 0 ∧ r = 0) ∨ (v1 = 0 ∧ v2 = 1 ∧ r = nI (cntB (fun k => decide (A 1 k = v1)) n)) ∨ (¬ v1 = 0 ∧ ∃ k, k < n ∧ A 0 k = v1 ∧ ((v2 = 0 ∧ r = A 1 k) ∨ (v2 = 1 ∧ r = nI (cntB (fun k => decide (A 1 k = v1)) n)) ∨ (v2 = 2 ∧ r = nI (cntB (fun k => decide (A 5 k = v1) && !decide (A 6 k < 0)) d)) ∨ (v2 = 3 ∧ r = nI (cntB (fun k => decide (A 5 k = v1) && decide (A 6 k < 0)) d)) ∨ (v2 = 4 ∧ OfM A n d v1 0 4 r) ∨ (v2 = 5 ∧ OfM A n d v1 2 6 r) ∨ (v2 = 6 ∧ OfM A n d v1 3 7 r))))) ∨ (u.2.2.1 = 1 ∧ ((¬ v1 = 0 ∧ ∀ k, k < n → ¬ A 0 k = v1) ∨ (v1 = 0 ∧ 1 < v2) ∨ (¬ v2 = 0 ∧ ¬ v2 = 1 ∧ ¬ v2 = 2 ∧ ¬ v2 = 3 ∧ ¬ v2 = 4 ∧ ¬ v2 = 5 ∧ ¬ v2 = 6)))) ∧ u.1 = n ∧ u.2.1 = d ∧ u.2.2.2 = A) (MB D y a cI AA) AA) (by decide) (Nat.le_of_ble_eq_true rfl) ?_
  intro p e s m below meth c ls AA S hr hlocks hM hl
  obtain ⟨hx, hb, hml, hown, hg⟩ := id S
  have hl : lv_has ls 4 [(0, .ref y), (1, .int v1), (2, .int v2)] := hl
  have hn := hM.bd
  suffices key9 : ∀ (H : Heap) (locs : List Loc), MM D y a cI n d th A AA s.heap s H locs → W p l e { frames := 2, cells := 0, slots := 0, locals := 46 } s m [.ref y, .int v1, .int v2].toArray below meth c H locs 0 0 (MQ below ((fun AA : Nat → Prop => va_Qi (fun r (u : MS) => ((u.2.2.1 = 0 ∧ ((v1 = 0 ∧ v2 = 0 ∧ r = 0) ∨ (v1 = 0 ∧ v2 = 1 ∧ r = nI (cntB (fun k => decide (A 1 k = v1)) n)) ∨ (¬ v1 = 0 ∧ ∃ k, k < n ∧ A 0 k = v1 ∧ ((v2 = 0 ∧ r = A 1 k) ∨ (v2 = 1 ∧ r = nI (cntB (fun k => decide (A 1 k = v1)) n)) ∨ (v2 = 2 ∧ r = nI (cntB (fun k => decide (A 5 k = v1) && !decide (A 6 k < 0)) d)) ∨ (v2 = 3 ∧ r = nI (cntB (fun k => decide (A 5 k = v1) && decide (A 6 k < 0)) d)) ∨ (v2 = 4 ∧ OfM A n d v1 0 4 r) ∨ (v2 = 5 ∧ OfM A n d v1 2 6 r) ∨ (v2 = 6 ∧ OfM A n d v1 3 7 r))))) ∨ (u.2.2.1 = 1 ∧ ((¬ v1 = 0 ∧ ∀ k, k < n → ¬ A 0 k = v1) ∨ (v1 = 0 ∧ 1 < v2) ∨ (¬ v2 = 0 ∧ ¬ v2 = 1 ∧ ¬ v2 = 2 ∧ ¬ v2 = 3 ∧ ¬ v2 = 4 ∧ ¬ v2 = 5 ∧ ¬ v2 = 6)))) ∧ u.1 = n ∧ u.2.1 = d ∧ u.2.2.2 = A) (MB D y a cI AA) AA) AA) [.ref y, .int v1, .int v2].toArray s 0 0 AA) (F0 m 0 ls []) from key9 _ _ hM
  clear hM
  intro H locs hM
  refine lv_aload_n hx hb dX3_of_0 rfl (lv_at hl 0 rfl) ?_
  refine lv_iload_n hx hb dX3_of_1 rfl (lv_at hl 1 rfl) ?_
  refine vp_callSi (va_Run.run (runV (As := [.int v1]) (rest := []) (Bh := RdM D y a n d th A) S (c_X3_placeOf l v1) (gw_V wk_410 wk_412 wp_22 wk_4 wk_413) rfl rfl 1 rfl (by decide +kernel) (by decide) ⟨Nat.le_refl _, Nat.le_refl _⟩ (fun _ _ _ h q => RdM.mv h q) hM.recv hM.rd hl.1 (Nat.le_of_ble_eq_true rfl) dX3_of_2)) (fun r hr => ?_)
  rcases hr with ⟨k_2, hk_2, he_2, hf_2, rfl⟩ | ⟨hn_2, rfl⟩
  · refine lv_istore_n (lv' := [(3, .int (nI k_2)), (0, .ref y), (1, .int v1), (2, .int v2)]) hx hb dX3_of_5 rfl hl (by decide) rfl (fun ls hl => ?_)
    refine lv_aload_n hx hb dX3_of_6 rfl (lv_at hl 1 rfl) ?_
    refine lv_iload_n hx hb dX3_of_7 rfl (lv_at hl 3 rfl) ?_
    refine lv_if_lt (tgt := 34) hx hb dX3_of_8 (by decide) (fun c_8 => ?_) (fun c_8 => ?_)
    · refine lv_iconst (v := 1) hx hb dX3_of_34 (by decide) ?_
      refine mw_thrown S hM dX3_of_35 (fun H locs hM => ?_)
      refine lv_aload_n hx hb dX3_of_38 rfl (lv_at hl 1 rfl) ?_
      refine rM_thrown S hM.rd dX3_of_39 ?_
      refine lv_if_le (tgt := 47) hx hb dX3_of_42 (by decide) (fun c_42 => ?_) (fun c_42 => ?_)
      · exact absurd (show _ from c_42) (by decide)
      · refine lv_iconst (v := 0) hx hb dX3_of_45 (by decide) ?_
        exact W.iret (v := 0) hx hb hr (fun t9 ht9 hW9 => ⟨⟨_, (n, d, 1, A), rfl, ⟨Or.inr ⟨rfl, Or.inr (Or.inr (i32_not06 (Or.inl c_8)))⟩, rfl, rfl, rfl⟩, (hM.out ht9 hW9).1⟩, (hM.out ht9 hW9).2⟩) hM.S.2.2 dX3_of_46
    · refine lv_iload_n hx hb dX3_of_11 rfl (lv_at hl 3 rfl) ?_
      refine lv_bipush (v := 6) hx hb dX3_of_12 (by decide) ?_
      refine lv_icmp_gt (tgt := 34) hx hb dX3_of_14 (by decide) (fun c_14 => ?_) (fun c_14 => ?_)
      · refine lv_iconst (v := 1) hx hb dX3_of_34 (by decide) ?_
        refine mw_thrown S hM dX3_of_35 (fun H locs hM => ?_)
        refine lv_aload_n hx hb dX3_of_38 rfl (lv_at hl 1 rfl) ?_
        refine rM_thrown S hM.rd dX3_of_39 ?_
        refine lv_if_le (tgt := 47) hx hb dX3_of_42 (by decide) (fun c_42 => ?_) (fun c_42 => ?_)
        · exact absurd (show _ from c_42) (by decide)
        · refine lv_iconst (v := 0) hx hb dX3_of_45 (by decide) ?_
          exact W.iret (v := 0) hx hb hr (fun t9 ht9 hW9 => ⟨⟨_, (n, d, 1, A), rfl, ⟨Or.inr ⟨rfl, Or.inr (Or.inr (i32_not06 (Or.inr c_14)))⟩, rfl, rfl, rfl⟩, (hM.out ht9 hW9).1⟩, (hM.out ht9 hW9).2⟩) hM.S.2.2 dX3_of_46
      · refine lv_iload_n hx hb dX3_of_17 rfl (lv_at hl 0 rfl) ?_
        refine lv_if_ge (tgt := 30) hx hb dX3_of_18 (by decide) (fun c_18 => ?_) (fun c_18 => ?_)
        · refine lv_iconst (v := 0) hx hb dX3_of_30 (by decide) ?_
          refine lv_goto (tgt := 35) hx hb dX3_of_31 (by decide) ?_
          refine mw_thrown S hM dX3_of_35 (fun H locs hM => ?_)
          refine lv_aload_n hx hb dX3_of_38 rfl (lv_at hl 1 rfl) ?_
          refine rM_thrown S hM.rd dX3_of_39 ?_
          refine lv_if_le (tgt := 47) hx hb dX3_of_42 (by decide) (fun c_42 => ?_) (fun c_42 => ?_)
          · refine lv_iload_n hx hb dX3_of_47 rfl (lv_at hl 3 rfl) ?_
            by_cases w_0 : v2 = 0
            · subst w_0
              refine lv_tableIn (off := 40) (tgt := 88) hx hb dX3_of_48 (by decide) (by decide) rfl (by decide) ?_
              refine lv_iload_n hx hb dX3_of_88 rfl (lv_at hl 2 rfl) ?_
              refine lv_if_ne (tgt := 96) hx hb dX3_of_89 (by decide) (fun c_89 => ?_) (fun c_89 => ?_)
              · refine lv_aload_n hx hb dX3_of_96 rfl (lv_at hl 1 rfl) ?_
                refine rM_behinds S hM.rd dX3_of_97 ?_
                refine lv_iload_n hx hb dX3_of_100 rfl (lv_at hl 0 rfl) ?_
                refine rM_ald S hM.rd 1 (by decide) (by show _ < 512; omega) dX3_of_101 ?_
                exact W.iret (v := (A 1 k_2)) hx hb hr (fun t9 ht9 hW9 => ⟨⟨_, (n, d, 0, A), rfl, ⟨Or.inl ⟨rfl, Or.inr (Or.inr ⟨fun z => h0 k_2 hk_2 (he_2.trans z), k_2, hk_2, he_2, Or.inl (⟨rfl, rfl⟩)⟩)⟩, rfl, rfl, rfl⟩, (hM.out ht9 hW9).1⟩, (hM.out ht9 hW9).2⟩) hM.S.2.2 dX3_of_102
              · exact absurd (he_2.trans c_89) (h0 k_2 hk_2)
            by_cases w_1 : v2 = 1
            · subst w_1
              refine lv_tableIn (off := 55) (tgt := 103) hx hb dX3_of_48 (by decide) (by decide) rfl (by decide) ?_
              refine lv_aload_n hx hb dX3_of_103 rfl (lv_at hl 1 rfl) ?_
              refine lv_iload_n hx hb dX3_of_104 rfl (lv_at hl 2 rfl) ?_
              refine lv_iload_n hx hb dX3_of_105 rfl (lv_at hl 3 rfl) ?_
              refine vp_callSi (va_Run.run (runV (As := [.int v1, .int 1]) (rest := []) (Bh := RdM D y a n d 0 A) S (c_X3_counted1 l v1) (gw_V wk_510 wk_512 wp_36 wk_4 wk_513) rfl rfl 2 rfl (by decide +kernel) (by decide) ⟨Nat.le_refl _, Nat.le_refl _⟩ (fun _ _ _ h q => RdM.mv h q) hM.recv hM.rd hl.1 (Nat.le_of_ble_eq_true rfl) dX3_of_106)) (fun r_106 hr_106 => ?_)
              exact W.iret (v := r_106) hx hb hr (fun t9 ht9 hW9 => ⟨⟨_, (n, d, 0, A), rfl, ⟨Or.inl ⟨rfl, Or.inr (Or.inr ⟨fun z => h0 k_2 hk_2 (he_2.trans z), k_2, hk_2, he_2, Or.inr (Or.inl (⟨rfl, hr_106⟩))⟩)⟩, rfl, rfl, rfl⟩, (hM.out ht9 hW9).1⟩, (hM.out ht9 hW9).2⟩) hM.S.2.2 dX3_of_109
            by_cases w_2 : v2 = 2
            · subst w_2
              refine lv_tableIn (off := 55) (tgt := 103) hx hb dX3_of_48 (by decide) (by decide) rfl (by decide) ?_
              refine lv_aload_n hx hb dX3_of_103 rfl (lv_at hl 1 rfl) ?_
              refine lv_iload_n hx hb dX3_of_104 rfl (lv_at hl 2 rfl) ?_
              refine lv_iload_n hx hb dX3_of_105 rfl (lv_at hl 3 rfl) ?_
              refine vp_callSi (va_Run.run (runV (As := [.int v1, .int 2]) (rest := []) (Bh := RdM D y a n d 0 A) S (c_X3_counted2 l v1) (gw_V wk_510 wk_512 wp_36 wk_4 wk_513) rfl rfl 2 rfl (by decide +kernel) (by decide) ⟨Nat.le_refl _, Nat.le_refl _⟩ (fun _ _ _ h q => RdM.mv h q) hM.recv hM.rd hl.1 (Nat.le_of_ble_eq_true rfl) dX3_of_106)) (fun r_106 hr_106 => ?_)
              exact W.iret (v := r_106) hx hb hr (fun t9 ht9 hW9 => ⟨⟨_, (n, d, 0, A), rfl, ⟨Or.inl ⟨rfl, Or.inr (Or.inr ⟨fun z => h0 k_2 hk_2 (he_2.trans z), k_2, hk_2, he_2, Or.inr (Or.inr (Or.inl (⟨rfl, hr_106⟩)))⟩)⟩, rfl, rfl, rfl⟩, (hM.out ht9 hW9).1⟩, (hM.out ht9 hW9).2⟩) hM.S.2.2 dX3_of_109
            by_cases w_3 : v2 = 3
            · subst w_3
              refine lv_tableIn (off := 55) (tgt := 103) hx hb dX3_of_48 (by decide) (by decide) rfl (by decide) ?_
              refine lv_aload_n hx hb dX3_of_103 rfl (lv_at hl 1 rfl) ?_
              refine lv_iload_n hx hb dX3_of_104 rfl (lv_at hl 2 rfl) ?_
              refine lv_iload_n hx hb dX3_of_105 rfl (lv_at hl 3 rfl) ?_
              refine vp_callSi (va_Run.run (runV (As := [.int v1, .int 3]) (rest := []) (Bh := RdM D y a n d 0 A) S (c_X3_counted3 l v1) (gw_V wk_510 wk_512 wp_36 wk_4 wk_513) rfl rfl 2 rfl (by decide +kernel) (by decide) ⟨Nat.le_refl _, Nat.le_refl _⟩ (fun _ _ _ h q => RdM.mv h q) hM.recv hM.rd hl.1 (Nat.le_of_ble_eq_true rfl) dX3_of_106)) (fun r_106 hr_106 => ?_)
              exact W.iret (v := r_106) hx hb hr (fun t9 ht9 hW9 => ⟨⟨_, (n, d, 0, A), rfl, ⟨Or.inl ⟨rfl, Or.inr (Or.inr ⟨fun z => h0 k_2 hk_2 (he_2.trans z), k_2, hk_2, he_2, Or.inr (Or.inr (Or.inr (Or.inl (⟨rfl, hr_106⟩))))⟩)⟩, rfl, rfl, rfl⟩, (hM.out ht9 hW9).1⟩, (hM.out ht9 hW9).2⟩) hM.S.2.2 dX3_of_109
            by_cases w_4 : v2 = 4
            · subst w_4
              refine lv_tableIn (off := 62) (tgt := 110) hx hb dX3_of_48 (by decide) (by decide) rfl (by decide) ?_
              refine lv_aload_n hx hb dX3_of_110 rfl (lv_at hl 1 rfl) ?_
              refine lv_iload_n hx hb dX3_of_111 rfl (lv_at hl 2 rfl) ?_
              refine vp_callSi (va_Run.run (runV (As := [.int v1]) (rest := []) (Bh := RdM D y a n d 0 A) S (c_X3_idStanding l v1 ⟨k_2, hk_2, he_2⟩) (gw_V wk_478 wk_480 wp_33 wk_4 wk_481) rfl rfl 1 rfl (by decide +kernel) (by decide) ⟨Nat.le_refl _, Nat.le_refl _⟩ (fun _ _ _ h q => RdM.mv h q) hM.recv hM.rd hl.1 (Nat.le_of_ble_eq_true rfl) dX3_of_112)) (fun r_112 hr_112 => ?_)
              exact W.iret (v := r_112) hx hb hr (fun t9 ht9 hW9 => ⟨⟨_, (n, d, 0, A), rfl, ⟨Or.inl ⟨rfl, Or.inr (Or.inr ⟨fun z => h0 k_2 hk_2 (he_2.trans z), k_2, hk_2, he_2, Or.inr (Or.inr (Or.inr (Or.inr (Or.inl (⟨rfl, hr_112⟩)))))⟩)⟩, rfl, rfl, rfl⟩, (hM.out ht9 hW9).1⟩, (hM.out ht9 hW9).2⟩) hM.S.2.2 dX3_of_115
            by_cases w_5 : v2 = 5
            · subst w_5
              refine lv_tableIn (off := 68) (tgt := 116) hx hb dX3_of_48 (by decide) (by decide) rfl (by decide) ?_
              refine lv_aload_n hx hb dX3_of_116 rfl (lv_at hl 1 rfl) ?_
              refine lv_iload_n hx hb dX3_of_117 rfl (lv_at hl 2 rfl) ?_
              refine vp_callSi (va_Run.run (runV (As := [.int v1]) (rest := []) (Bh := RdM D y a n d 0 A) S (c_X3_kindOf l v1 ⟨k_2, hk_2, he_2⟩) (gw_V wk_466 wk_468 wp_30 wk_4 wk_469) rfl rfl 1 rfl (by decide +kernel) (by decide) ⟨Nat.le_refl _, Nat.le_refl _⟩ (fun _ _ _ h q => RdM.mv h q) hM.recv hM.rd hl.1 (Nat.le_of_ble_eq_true rfl) dX3_of_118)) (fun r_118 hr_118 => ?_)
              exact W.iret (v := r_118) hx hb hr (fun t9 ht9 hW9 => ⟨⟨_, (n, d, 0, A), rfl, ⟨Or.inl ⟨rfl, Or.inr (Or.inr ⟨fun z => h0 k_2 hk_2 (he_2.trans z), k_2, hk_2, he_2, Or.inr (Or.inr (Or.inr (Or.inr (Or.inr (Or.inl (⟨rfl, hr_118⟩))))))⟩)⟩, rfl, rfl, rfl⟩, (hM.out ht9 hW9).1⟩, (hM.out ht9 hW9).2⟩) hM.S.2.2 dX3_of_121
            have w_6 := i32_6 c_8 c_14 w_0 w_1 w_2 w_3 w_4 w_5
            subst w_6
            refine lv_tableOut (tgt := 122) hx hb dX3_of_48 (by decide) (by decide) ?_
            refine lv_aload_n hx hb dX3_of_122 rfl (lv_at hl 1 rfl) ?_
            refine lv_iload_n hx hb dX3_of_123 rfl (lv_at hl 2 rfl) ?_
            refine vp_callSi (va_Run.run (runV (As := [.int v1]) (rest := []) (Bh := RdM D y a n d 0 A) S (c_X3_valueOf l v1 ⟨k_2, hk_2, he_2⟩) (gw_V wk_474 wk_476 wp_32 wk_4 wk_477) rfl rfl 1 rfl (by decide +kernel) (by decide) ⟨Nat.le_refl _, Nat.le_refl _⟩ (fun _ _ _ h q => RdM.mv h q) hM.recv hM.rd hl.1 (Nat.le_of_ble_eq_true rfl) dX3_of_124)) (fun r_124 hr_124 => ?_)
            exact W.iret (v := r_124) hx hb hr (fun t9 ht9 hW9 => ⟨⟨_, (n, d, 0, A), rfl, ⟨Or.inl ⟨rfl, Or.inr (Or.inr ⟨fun z => h0 k_2 hk_2 (he_2.trans z), k_2, hk_2, he_2, Or.inr (Or.inr (Or.inr (Or.inr (Or.inr (Or.inr (⟨rfl, hr_124⟩))))))⟩)⟩, rfl, rfl, rfl⟩, (hM.out ht9 hW9).1⟩, (hM.out ht9 hW9).2⟩) hM.S.2.2 dX3_of_127
          · exact absurd (show _ from c_42) (by decide)
        · exact absurd (nI_pos' (by omega)) c_18
  · refine lv_istore_n (lv' := [(3, .int (-1)), (0, .ref y), (1, .int v1), (2, .int v2)]) hx hb dX3_of_5 rfl hl (by decide) rfl (fun ls hl => ?_)
    refine lv_aload_n hx hb dX3_of_6 rfl (lv_at hl 1 rfl) ?_
    refine lv_iload_n hx hb dX3_of_7 rfl (lv_at hl 3 rfl) ?_
    refine lv_if_lt (tgt := 34) hx hb dX3_of_8 (by decide) (fun c_8 => ?_) (fun c_8 => ?_)
    · refine lv_iconst (v := 1) hx hb dX3_of_34 (by decide) ?_
      refine mw_thrown S hM dX3_of_35 (fun H locs hM => ?_)
      refine lv_aload_n hx hb dX3_of_38 rfl (lv_at hl 1 rfl) ?_
      refine rM_thrown S hM.rd dX3_of_39 ?_
      refine lv_if_le (tgt := 47) hx hb dX3_of_42 (by decide) (fun c_42 => ?_) (fun c_42 => ?_)
      · exact absurd (show _ from c_42) (by decide)
      · refine lv_iconst (v := 0) hx hb dX3_of_45 (by decide) ?_
        exact W.iret (v := 0) hx hb hr (fun t9 ht9 hW9 => ⟨⟨_, (n, d, 1, A), rfl, ⟨Or.inr ⟨rfl, Or.inr (Or.inr (i32_not06 (Or.inl c_8)))⟩, rfl, rfl, rfl⟩, (hM.out ht9 hW9).1⟩, (hM.out ht9 hW9).2⟩) hM.S.2.2 dX3_of_46
    · refine lv_iload_n hx hb dX3_of_11 rfl (lv_at hl 3 rfl) ?_
      refine lv_bipush (v := 6) hx hb dX3_of_12 (by decide) ?_
      refine lv_icmp_gt (tgt := 34) hx hb dX3_of_14 (by decide) (fun c_14 => ?_) (fun c_14 => ?_)
      · refine lv_iconst (v := 1) hx hb dX3_of_34 (by decide) ?_
        refine mw_thrown S hM dX3_of_35 (fun H locs hM => ?_)
        refine lv_aload_n hx hb dX3_of_38 rfl (lv_at hl 1 rfl) ?_
        refine rM_thrown S hM.rd dX3_of_39 ?_
        refine lv_if_le (tgt := 47) hx hb dX3_of_42 (by decide) (fun c_42 => ?_) (fun c_42 => ?_)
        · exact absurd (show _ from c_42) (by decide)
        · refine lv_iconst (v := 0) hx hb dX3_of_45 (by decide) ?_
          exact W.iret (v := 0) hx hb hr (fun t9 ht9 hW9 => ⟨⟨_, (n, d, 1, A), rfl, ⟨Or.inr ⟨rfl, Or.inr (Or.inr (i32_not06 (Or.inr c_14)))⟩, rfl, rfl, rfl⟩, (hM.out ht9 hW9).1⟩, (hM.out ht9 hW9).2⟩) hM.S.2.2 dX3_of_46
      · refine lv_iload_n hx hb dX3_of_17 rfl (lv_at hl 0 rfl) ?_
        refine lv_if_ge (tgt := 30) hx hb dX3_of_18 (by decide) (fun c_18 => ?_) (fun c_18 => ?_)
        · exact absurd (show _ from c_18) (by decide)
        · refine lv_iload_n hx hb dX3_of_21 rfl (lv_at hl 2 rfl) ?_
          refine lv_if_ne (tgt := 34) hx hb dX3_of_22 (by decide) (fun c_22 => ?_) (fun c_22 => ?_)
          · refine lv_iconst (v := 1) hx hb dX3_of_34 (by decide) ?_
            refine mw_thrown S hM dX3_of_35 (fun H locs hM => ?_)
            refine lv_aload_n hx hb dX3_of_38 rfl (lv_at hl 1 rfl) ?_
            refine rM_thrown S hM.rd dX3_of_39 ?_
            refine lv_if_le (tgt := 47) hx hb dX3_of_42 (by decide) (fun c_42 => ?_) (fun c_42 => ?_)
            · exact absurd (show _ from c_42) (by decide)
            · refine lv_iconst (v := 0) hx hb dX3_of_45 (by decide) ?_
              exact W.iret (v := 0) hx hb hr (fun t9 ht9 hW9 => ⟨⟨_, (n, d, 1, A), rfl, ⟨Or.inr ⟨rfl, Or.inl ⟨c_22, hn_2⟩⟩, rfl, rfl, rfl⟩, (hM.out ht9 hW9).1⟩, (hM.out ht9 hW9).2⟩) hM.S.2.2 dX3_of_46
          · refine lv_iload_n hx hb dX3_of_25 rfl (lv_at hl 3 rfl) ?_
            refine lv_iconst (v := 2) hx hb dX3_of_26 (by decide) ?_
            refine lv_icmp_ge (tgt := 34) hx hb dX3_of_27 (by decide) (fun c_27 => ?_) (fun c_27 => ?_)
            · refine lv_iconst (v := 1) hx hb dX3_of_34 (by decide) ?_
              refine mw_thrown S hM dX3_of_35 (fun H locs hM => ?_)
              refine lv_aload_n hx hb dX3_of_38 rfl (lv_at hl 1 rfl) ?_
              refine rM_thrown S hM.rd dX3_of_39 ?_
              refine lv_if_le (tgt := 47) hx hb dX3_of_42 (by decide) (fun c_42 => ?_) (fun c_42 => ?_)
              · exact absurd (show _ from c_42) (by decide)
              · refine lv_iconst (v := 0) hx hb dX3_of_45 (by decide) ?_
                exact W.iret (v := 0) hx hb hr (fun t9 ht9 hW9 => ⟨⟨_, (n, d, 1, A), rfl, ⟨Or.inr ⟨rfl, Or.inr (Or.inl ⟨c_22, i32_2le c_27⟩)⟩, rfl, rfl, rfl⟩, (hM.out ht9 hW9).1⟩, (hM.out ht9 hW9).2⟩) hM.S.2.2 dX3_of_46
            · refine lv_iconst (v := 0) hx hb dX3_of_30 (by decide) ?_
              refine lv_goto (tgt := 35) hx hb dX3_of_31 (by decide) ?_
              refine mw_thrown S hM dX3_of_35 (fun H locs hM => ?_)
              refine lv_aload_n hx hb dX3_of_38 rfl (lv_at hl 1 rfl) ?_
              refine rM_thrown S hM.rd dX3_of_39 ?_
              refine lv_if_le (tgt := 47) hx hb dX3_of_42 (by decide) (fun c_42 => ?_) (fun c_42 => ?_)
              · refine lv_iload_n hx hb dX3_of_47 rfl (lv_at hl 3 rfl) ?_
                by_cases w_0 : v2 = 0
                · subst w_0
                  refine lv_tableIn (off := 40) (tgt := 88) hx hb dX3_of_48 (by decide) (by decide) rfl (by decide) ?_
                  refine lv_iload_n hx hb dX3_of_88 rfl (lv_at hl 2 rfl) ?_
                  refine lv_if_ne (tgt := 96) hx hb dX3_of_89 (by decide) (fun c_89 => ?_) (fun c_89 => ?_)
                  · exact absurd c_22 c_89
                  · refine lv_iconst (v := 0) hx hb dX3_of_92 (by decide) ?_
                    refine lv_goto (tgt := 102) hx hb dX3_of_93 (by decide) ?_
                    exact W.iret (v := 0) hx hb hr (fun t9 ht9 hW9 => ⟨⟨_, (n, d, 0, A), rfl, ⟨Or.inl ⟨rfl, Or.inl ⟨c_22, rfl, rfl⟩⟩, rfl, rfl, rfl⟩, (hM.out ht9 hW9).1⟩, (hM.out ht9 hW9).2⟩) hM.S.2.2 dX3_of_102
                by_cases w_1 : v2 = 1
                · subst w_1
                  refine lv_tableIn (off := 55) (tgt := 103) hx hb dX3_of_48 (by decide) (by decide) rfl (by decide) ?_
                  refine lv_aload_n hx hb dX3_of_103 rfl (lv_at hl 1 rfl) ?_
                  refine lv_iload_n hx hb dX3_of_104 rfl (lv_at hl 2 rfl) ?_
                  refine lv_iload_n hx hb dX3_of_105 rfl (lv_at hl 3 rfl) ?_
                  refine vp_callSi (va_Run.run (runV (As := [.int v1, .int 1]) (rest := []) (Bh := RdM D y a n d 0 A) S (c_X3_counted1 l v1) (gw_V wk_510 wk_512 wp_36 wk_4 wk_513) rfl rfl 2 rfl (by decide +kernel) (by decide) ⟨Nat.le_refl _, Nat.le_refl _⟩ (fun _ _ _ h q => RdM.mv h q) hM.recv hM.rd hl.1 (Nat.le_of_ble_eq_true rfl) dX3_of_106)) (fun r_106 hr_106 => ?_)
                  exact W.iret (v := r_106) hx hb hr (fun t9 ht9 hW9 => ⟨⟨_, (n, d, 0, A), rfl, ⟨Or.inl ⟨rfl, Or.inr (Or.inl ⟨c_22, rfl, hr_106⟩)⟩, rfl, rfl, rfl⟩, (hM.out ht9 hW9).1⟩, (hM.out ht9 hW9).2⟩) hM.S.2.2 dX3_of_109
                by_cases w_2 : v2 = 2
                · subst w_2
                  exact absurd (by decide) c_27
                by_cases w_3 : v2 = 3
                · subst w_3
                  exact absurd (by decide) c_27
                by_cases w_4 : v2 = 4
                · subst w_4
                  exact absurd (by decide) c_27
                by_cases w_5 : v2 = 5
                · subst w_5
                  exact absurd (by decide) c_27
                have w_6 := i32_6 c_8 c_14 w_0 w_1 w_2 w_3 w_4 w_5
                subst w_6
                exact absurd (by decide) c_27
              · exact absurd (show _ from c_42) (by decide)
end
section
/-! worlds for writing, in general -/
theorem set_same {α : Type} {l : List α} {k : Nat} {x : α} (h : l[k]? = some x) : l.set k x = l := by
  apply List.ext_getElem?
  intro j
  by_cases hj : j = k
  · subst hj
    rw [List.getElem?_set_self (List.getElem?_eq_some_iff.mp h).1, h]
  · rw [List.getElem?_set_ne (Ne.symm hj)]
def GPre (D : va_G) (ws : va_W) (tys : List (ClassId × FieldType)) (sz : Nat) (U : State) (H : Heap) : Prop := H.size = sz ∧ va_P D cl_ ws H ∧ va_K D cl_ tys U ∧ va_D (fun _ => True) ws
def GB (D : va_G) (tys : List (ClassId × FieldType)) (AA : Nat → Prop) (u : va_W) (t : State) : Prop := va_P D cl_ u t.heap ∧ va_K D cl_ tys t ∧ va_D AA u
def GM (D : va_G) (ws : va_W) (tys : List (ClassId × FieldType)) (AA : Nat → Prop) (H0 : Heap) (s : State) (H : Heap) (locs : List Loc) : Prop := va_P D cl_ ws H ∧ va_D AA ws ∧ va_K D cl_ tys s ∧ va_S AA H0 H locs ∧ ∀ q, H0.size ≤ q → AA q
theorem GPre.mv {D : va_G} {ws : va_W} {tys : List (ClassId × FieldType)} {sz : Nat} {u U : State} {H : Heap} (hW : u.WarmedH U.vm) (h : GPre D ws tys sz u H) : GPre D ws tys sz U H := ⟨h.1, h.2.1, va_K.moved hW.alike h.2.2.1, h.2.2.2⟩
section GMS
variable {D : va_G} {ws : va_W} {tys : List (ClassId × FieldType)} {AA : Nat → Prop} {H0 : Heap} {s : State} {H : Heap} {locs : List Loc}
theorem GM.pre (h : GM D ws tys AA H0 s H locs) : GPre D ws tys H.size s H := ⟨rfl, h.1, h.2.2.1, h.2.1.weaken (fun _ _ _ _ => trivial)⟩
theorem GM.free (h : GM D ws tys AA H0 s H locs) : ∀ q, va_A ws H.size q → AA q := fun q hq => by
  rcases hq with ⟨k, e, hk⟩ | hq
  · exact h.2.1.2 k (q, e) hk
  · exact h.2.2.2.2 q (Nat.le_trans h.2.2.2.1.1 hq)
theorem GM.S (h : GM D ws tys AA H0 s H locs) : va_S AA H0 H locs := h.2.2.2.1
theorem GM.out {t : State} (h : GM D ws tys AA s.heap s H locs) (ht : t.heap = H) (hW : s.WarmedH t.vm) : GB D tys AA ws t ∧ va_F AA s t := ⟨⟨by rw [ht]; exact h.1, va_K.moved hW.alike h.2.2.1, h.2.1⟩, h.2.2.2.1.F ht⟩
theorem GM.back {u : va_W} {tys1 : List (ClassId × FieldType)} {t : State} {H1 : Heap} {locs1 : List Loc} (h : GM D ws tys AA H0 s H locs) (ht : t.heap = H1) (hB : GB D tys1 (va_A ws H.size) u t) (hS : va_S AA H0 H1 locs1) (hK1 : va_K D cl_ tys1 s) : GM D u tys1 AA H0 s H1 locs1 :=
  ⟨by rw [← ht]; exact hB.1, hB.2.2.weaken (fun _ q _ hq => h.free q.1 hq), hK1, hS, h.2.2.2.2⟩
end GMS
theorem met_gm {l : Launch} {y : MethodName} {cc : ByteArray} {maxL : Nat} {ret : Option FieldType} {rm : Room} {av : List Value} {D : va_G} {ws : va_W} {tys : List (ClassId × FieldType)} {sz mc ms : Nat} {X : State → Prop} {QQ : (Nat → Prop) → Array Value → State → Outcome → State → Prop}
    (hy : plainName y.cls = true) (hn : (lg_sl av).length ≤ maxL)
    (body : ∀ (p : Program) (e : Env) (s : State) (m : MethodId) (below : List Frame) (meth : Method) (c : Code) (ls : Array Slot) (AA : Nat → Prop), CallFix p m c cc maxL s av.toArray gw y.cls → meth.sig.returnType = ret → meth.locks = false → meth.name = y.name → X s → GM D ws tys AA s.heap s s.heap [] → lv_has ls maxL (lv_args 0 av) →
      W p l e rm s m av.toArray below meth c s.heap [] 0 0 (MQ below (QQ AA) av.toArray s mc ms AA) (F0 m 0 ls [])) : Met l y (gws y cc maxL ret) rm (va_Pc av (fun U => GPre D ws tys sz U U.heap ∧ X U)) (QQ (va_A ws sz)) mc ms (va_A ws sz) := by
  refine met_go hy hn ?_
  intro p e s m below meth c ls S hr hlocks hnm hB hl
  obtain ⟨⟨hsz, hP, hK, hD⟩, hX⟩ := hB
  subst hsz
  exact body p e s m below meth c ls _ S hr hlocks hnm hX ⟨hP, hD.self, hK, va_S.rf, fun q h => Or.inr h⟩ hl
/-! an element among other cells -/
theorem eF_set (f : Nat → Int32) {j : Nat} (hj : j < 9) (v : Int32) : (eF f).set j (.int v) = eF (va_up f j v) := by
  match j, hj with
  | 0, _ => rfl
  | 1, _ => rfl
  | 2, _ => rfl
  | 3, _ => rfl
  | 4, _ => rfl
  | 5, _ => rfl
  | 6, _ => rfl
  | 7, _ => rfl
  | 8, _ => rfl
def GE (D : va_G) (ws : va_W) (k b : Nat) (fv : Nat → Int32) (tys : List (ClassId × FieldType)) (AA : Nat → Prop) (H0 : Heap) (s : State) (H : Heap) (locs : List Loc) : Prop := k < ws.length ∧ GM D (ws.set k (b, .inr (0, eF fv))) tys AA H0 s H locs
theorem va_K.nil {D : va_G} {cl : List vw_C} {tys : List (ClassId × FieldType)} {U : State} (h : va_K D cl tys U) : va_K D cl [] U := ⟨h.1, fun k q hk => by simp at hk⟩
theorem va_K.one {D : va_G} {cl : List vw_C} {tys : List (ClassId × FieldType)} {U : State} {t0 : Nat} {x : ClassId × FieldType} (h : va_K D cl tys U) (ht : tys[t0]? = some x) : va_K D cl [x] U := ⟨h.1, fun k q hk => by
  match k, hk with
  | 0, hk => cases hk; exact h.2 t0 _ ht
  | k + 1, hk => simp at hk⟩
theorem GE.rd {D : va_G} {ws : va_W} {k b : Nat} {fv : Nat → Int32} {tys : List (ClassId × FieldType)} {AA : Nat → Prop} {H0 : Heap} {s : State} {H : Heap} {locs : List Loc} (h : GE D ws k b fv tys AA H0 s H locs) : RdE D b fv s H := ⟨h.2.1 k _ (List.getElem?_set_self h.1), h.2.2.2.1.nil⟩
theorem GE.st {D : va_G} {ws : va_W} {k b : Nat} {fv : Nat → Int32} {tys : List (ClassId × FieldType)} {AA : Nat → Prop} {H0 : Heap} {s : State} {H : Heap} {locs : List Loc} (h : GM D ws tys AA H0 s H locs) (hk : ws[k]? = some (b, .inr (0, eF fv))) : GE D ws k b fv tys AA H0 s H locs := ⟨(List.getElem?_eq_some_iff.mp hk).1, by rw [set_same hk]; exact h⟩
section GER
variable {p : Program} {l : Launch} {e : Env} {R : Room} {s : State} {m : MethodId} {args : Array Value} {below : List Frame} {meth : Method} {c : Code} {H : Heap} {locs : List Loc} {cells slots : Nat} {Q : State → Prop} {cc : ByteArray} {nL pc : Nat} {ls : Array Slot} {rest : List Value} {D : va_G} {ws : va_W} {k b : Nat} {fv : Nat → Int32} {tys : List (ClassId × FieldType)} {AA : Nat → Prop} {H0 : Heap}
theorem gE_id (S : CallFix p m c cc nL s args gw RX0) (hG : GE D ws k b fv tys AA H0 s H locs) (hnm : meth.name = "<init>") {v : Int32} (hdg : decode cc pc = .ok (.putfield 9, 3)) (kk : ∀ (H : Heap) (locs : List Loc), GE D ws k b (va_up fv 0 v) tys AA H0 s H locs → W p l e R s m args below meth c H locs cells slots Q (F0 m (pc + 3) ls rest)) : W p l e R s m args below meth c H locs cells slots Q (F0 m pc ls (.int v :: .ref b :: rest)) := by
  obtain ⟨hx, hb, hml, hown, hg⟩ := S
  obtain ⟨hk, hP, hD, hK, hS, hA⟩ := hG
  refine va_putF (D := D) (ci := 0) (v := .int v) (ty := .int) (C := RX0) (T := TX0) (N := 9) hx hb hg inX0 tyX0 tyX0_ok nmX0 hown hK hP hD hS k (List.getElem?_set_self hk) rfl 0 (by decide) (hg _ wk_40) (fun _ h9 => h9) rfl hnm rfl (by decide +kernel) rfl rfl (Nat.le_of_ble_eq_true rfl) hdg (fun H1 locs1 hP hD hS => kk H1 locs1 ⟨hk, ?_, ?_, hK, hS, hA⟩)
  · rw [List.set_set, eF_set _ (by decide)] at hP; exact hP
  · rw [List.set_set, eF_set _ (by decide)] at hD; exact hD
theorem gE_behind (S : CallFix p m c cc nL s args gw RX0) (hG : GE D ws k b fv tys AA H0 s H locs) (hnm : meth.name = "<init>") {v : Int32} (hdg : decode cc pc = .ok (.putfield 15, 3)) (kk : ∀ (H : Heap) (locs : List Loc), GE D ws k b (va_up fv 1 v) tys AA H0 s H locs → W p l e R s m args below meth c H locs cells slots Q (F0 m (pc + 3) ls rest)) : W p l e R s m args below meth c H locs cells slots Q (F0 m pc ls (.int v :: .ref b :: rest)) := by
  obtain ⟨hx, hb, hml, hown, hg⟩ := S
  obtain ⟨hk, hP, hD, hK, hS, hA⟩ := hG
  refine va_putF (D := D) (ci := 0) (v := .int v) (ty := .int) (C := RX0) (T := TX0) (N := 9) hx hb hg inX0 tyX0 tyX0_ok nmX0 hown hK hP hD hS k (List.getElem?_set_self hk) rfl 1 (by decide) (hg _ wk_42) (fun _ h9 => h9) rfl hnm rfl (by decide +kernel) rfl rfl (Nat.le_of_ble_eq_true rfl) hdg (fun H1 locs1 hP hD hS => kk H1 locs1 ⟨hk, ?_, ?_, hK, hS, hA⟩)
  · rw [List.set_set, eF_set _ (by decide)] at hP; exact hP
  · rw [List.set_set, eF_set _ (by decide)] at hD; exact hD
theorem gE_way (S : CallFix p m c cc nL s args gw RX0) (hG : GE D ws k b fv tys AA H0 s H locs) (hnm : meth.name = "<init>") {v : Int32} (hdg : decode cc pc = .ok (.putfield 18, 3)) (kk : ∀ (H : Heap) (locs : List Loc), GE D ws k b (va_up fv 2 v) tys AA H0 s H locs → W p l e R s m args below meth c H locs cells slots Q (F0 m (pc + 3) ls rest)) : W p l e R s m args below meth c H locs cells slots Q (F0 m pc ls (.int v :: .ref b :: rest)) := by
  obtain ⟨hx, hb, hml, hown, hg⟩ := S
  obtain ⟨hk, hP, hD, hK, hS, hA⟩ := hG
  refine va_putF (D := D) (ci := 0) (v := .int v) (ty := .int) (C := RX0) (T := TX0) (N := 9) hx hb hg inX0 tyX0 tyX0_ok nmX0 hown hK hP hD hS k (List.getElem?_set_self hk) rfl 2 (by decide) (hg _ wk_44) (fun _ h9 => h9) rfl hnm rfl (by decide +kernel) rfl rfl (Nat.le_of_ble_eq_true rfl) hdg (fun H1 locs1 hP hD hS => kk H1 locs1 ⟨hk, ?_, ?_, hK, hS, hA⟩)
  · rw [List.set_set, eF_set _ (by decide)] at hP; exact hP
  · rw [List.set_set, eF_set _ (by decide)] at hD; exact hD
theorem gE_followers (S : CallFix p m c cc nL s args gw RX0) (hG : GE D ws k b fv tys AA H0 s H locs) {v : Int32} (hdg : decode cc pc = .ok (.putfield 21, 3)) (kk : ∀ (H : Heap) (locs : List Loc), GE D ws k b (va_up fv 3 v) tys AA H0 s H locs → W p l e R s m args below meth c H locs cells slots Q (F0 m (pc + 3) ls rest)) : W p l e R s m args below meth c H locs cells slots Q (F0 m pc ls (.int v :: .ref b :: rest)) := by
  obtain ⟨hx, hb, hml, hown, hg⟩ := S
  obtain ⟨hk, hP, hD, hK, hS, hA⟩ := hG
  refine va_put (D := D) (ci := 0) (v := .int v) (ty := .int) (C := RX0) (T := TX0) (N := 9) hx hb hg inX0 tyX0 tyX0_ok nmX0 hown hK hP hD hS k (List.getElem?_set_self hk) rfl 3 (by decide) (hg _ wk_46) (fun _ h9 => h9) rfl (by decide +kernel) rfl rfl (Nat.le_of_ble_eq_true rfl) hdg (fun H1 locs1 hP hD hS => kk H1 locs1 ⟨hk, ?_, ?_, hK, hS, hA⟩)
  · rw [List.set_set, eF_set _ (by decide)] at hP; exact hP
  · rw [List.set_set, eF_set _ (by decide)] at hD; exact hD
theorem gE_sets (S : CallFix p m c cc nL s args gw RX0) (hG : GE D ws k b fv tys AA H0 s H locs) {v : Int32} (hdg : decode cc pc = .ok (.putfield 24, 3)) (kk : ∀ (H : Heap) (locs : List Loc), GE D ws k b (va_up fv 4 v) tys AA H0 s H locs → W p l e R s m args below meth c H locs cells slots Q (F0 m (pc + 3) ls rest)) : W p l e R s m args below meth c H locs cells slots Q (F0 m pc ls (.int v :: .ref b :: rest)) := by
  obtain ⟨hx, hb, hml, hown, hg⟩ := S
  obtain ⟨hk, hP, hD, hK, hS, hA⟩ := hG
  refine va_put (D := D) (ci := 0) (v := .int v) (ty := .int) (C := RX0) (T := TX0) (N := 9) hx hb hg inX0 tyX0 tyX0_ok nmX0 hown hK hP hD hS k (List.getElem?_set_self hk) rfl 4 (by decide) (hg _ wk_48) (fun _ h9 => h9) rfl (by decide +kernel) rfl rfl (Nat.le_of_ble_eq_true rfl) hdg (fun H1 locs1 hP hD hS => kk H1 locs1 ⟨hk, ?_, ?_, hK, hS, hA⟩)
  · rw [List.set_set, eF_set _ (by decide)] at hP; exact hP
  · rw [List.set_set, eF_set _ (by decide)] at hD; exact hD
theorem gE_removes (S : CallFix p m c cc nL s args gw RX0) (hG : GE D ws k b fv tys AA H0 s H locs) {v : Int32} (hdg : decode cc pc = .ok (.putfield 27, 3)) (kk : ∀ (H : Heap) (locs : List Loc), GE D ws k b (va_up fv 5 v) tys AA H0 s H locs → W p l e R s m args below meth c H locs cells slots Q (F0 m (pc + 3) ls rest)) : W p l e R s m args below meth c H locs cells slots Q (F0 m pc ls (.int v :: .ref b :: rest)) := by
  obtain ⟨hx, hb, hml, hown, hg⟩ := S
  obtain ⟨hk, hP, hD, hK, hS, hA⟩ := hG
  refine va_put (D := D) (ci := 0) (v := .int v) (ty := .int) (C := RX0) (T := TX0) (N := 9) hx hb hg inX0 tyX0 tyX0_ok nmX0 hown hK hP hD hS k (List.getElem?_set_self hk) rfl 5 (by decide) (hg _ wk_50) (fun _ h9 => h9) rfl (by decide +kernel) rfl rfl (Nat.le_of_ble_eq_true rfl) hdg (fun H1 locs1 hP hD hS => kk H1 locs1 ⟨hk, ?_, ?_, hK, hS, hA⟩)
  · rw [List.set_set, eF_set _ (by decide)] at hP; exact hP
  · rw [List.set_set, eF_set _ (by decide)] at hD; exact hD
theorem gE_standing (S : CallFix p m c cc nL s args gw RX0) (hG : GE D ws k b fv tys AA H0 s H locs) {v : Int32} (hdg : decode cc pc = .ok (.putfield 30, 3)) (kk : ∀ (H : Heap) (locs : List Loc), GE D ws k b (va_up fv 6 v) tys AA H0 s H locs → W p l e R s m args below meth c H locs cells slots Q (F0 m (pc + 3) ls rest)) : W p l e R s m args below meth c H locs cells slots Q (F0 m pc ls (.int v :: .ref b :: rest)) := by
  obtain ⟨hx, hb, hml, hown, hg⟩ := S
  obtain ⟨hk, hP, hD, hK, hS, hA⟩ := hG
  refine va_put (D := D) (ci := 0) (v := .int v) (ty := .int) (C := RX0) (T := TX0) (N := 9) hx hb hg inX0 tyX0 tyX0_ok nmX0 hown hK hP hD hS k (List.getElem?_set_self hk) rfl 6 (by decide) (hg _ wk_52) (fun _ h9 => h9) rfl (by decide +kernel) rfl rfl (Nat.le_of_ble_eq_true rfl) hdg (fun H1 locs1 hP hD hS => kk H1 locs1 ⟨hk, ?_, ?_, hK, hS, hA⟩)
  · rw [List.set_set, eF_set _ (by decide)] at hP; exact hP
  · rw [List.set_set, eF_set _ (by decide)] at hD; exact hD
theorem gE_kind (S : CallFix p m c cc nL s args gw RX0) (hG : GE D ws k b fv tys AA H0 s H locs) {v : Int32} (hdg : decode cc pc = .ok (.putfield 33, 3)) (kk : ∀ (H : Heap) (locs : List Loc), GE D ws k b (va_up fv 7 v) tys AA H0 s H locs → W p l e R s m args below meth c H locs cells slots Q (F0 m (pc + 3) ls rest)) : W p l e R s m args below meth c H locs cells slots Q (F0 m pc ls (.int v :: .ref b :: rest)) := by
  obtain ⟨hx, hb, hml, hown, hg⟩ := S
  obtain ⟨hk, hP, hD, hK, hS, hA⟩ := hG
  refine va_put (D := D) (ci := 0) (v := .int v) (ty := .int) (C := RX0) (T := TX0) (N := 9) hx hb hg inX0 tyX0 tyX0_ok nmX0 hown hK hP hD hS k (List.getElem?_set_self hk) rfl 7 (by decide) (hg _ wk_54) (fun _ h9 => h9) rfl (by decide +kernel) rfl rfl (Nat.le_of_ble_eq_true rfl) hdg (fun H1 locs1 hP hD hS => kk H1 locs1 ⟨hk, ?_, ?_, hK, hS, hA⟩)
  · rw [List.set_set, eF_set _ (by decide)] at hP; exact hP
  · rw [List.set_set, eF_set _ (by decide)] at hD; exact hD
theorem gE_value (S : CallFix p m c cc nL s args gw RX0) (hG : GE D ws k b fv tys AA H0 s H locs) {v : Int32} (hdg : decode cc pc = .ok (.putfield 36, 3)) (kk : ∀ (H : Heap) (locs : List Loc), GE D ws k b (va_up fv 8 v) tys AA H0 s H locs → W p l e R s m args below meth c H locs cells slots Q (F0 m (pc + 3) ls rest)) : W p l e R s m args below meth c H locs cells slots Q (F0 m pc ls (.int v :: .ref b :: rest)) := by
  obtain ⟨hx, hb, hml, hown, hg⟩ := S
  obtain ⟨hk, hP, hD, hK, hS, hA⟩ := hG
  refine va_put (D := D) (ci := 0) (v := .int v) (ty := .int) (C := RX0) (T := TX0) (N := 9) hx hb hg inX0 tyX0 tyX0_ok nmX0 hown hK hP hD hS k (List.getElem?_set_self hk) rfl 8 (by decide) (hg _ wk_56) (fun _ h9 => h9) rfl (by decide +kernel) rfl rfl (Nat.le_of_ble_eq_true rfl) hdg (fun H1 locs1 hP hD hS => kk H1 locs1 ⟨hk, ?_, ?_, hK, hS, hA⟩)
  · rw [List.set_set, eF_set _ (by decide)] at hP; exact hP
  · rw [List.set_set, eF_set _ (by decide)] at hD; exact hD
end GER
def ini (v1 v2 v3 : Int32) : Nat → Int32 := fun j => if j = 0 then v1 else if j = 1 then v2 else if j = 2 then v3 else if j = 6 then -1 else 0
def ofr (fv : Nat → Int32) (v1 v2 v3 : Int32) : Nat → Int32 := if fv 6 < v1 then va_up (va_up (va_up fv 6 v1) 7 v2) 8 v3 else fv
/-! the used ids among other cells -/
def GU (D : va_G) (ws : va_W) (ku ki t0 u i : Nat) (cI : ClassId) (cnt : Nat) (ids : Nat → Int32) (tys : List (ClassId × FieldType)) (AA : Nat → Prop) (H0 : Heap) (s : State) (H : Heap) (locs : List Loc) : Prop := ku < ws.length ∧ ki < ws.length ∧ ku ≠ ki ∧ tys[t0]? = some (cI, .int) ∧ cnt ≤ 1536 ∧ GM D ((ws.set ku (u, .inr (1, [.ref i, .int (nI cnt)]))).set ki (i, .inl (cI, 1536, .inl ids))) tys AA H0 s H locs
theorem GU.atu {D : va_G} {ws : va_W} {ku ki t0 u i : Nat} {cI : ClassId} {cnt : Nat} {ids : Nat → Int32} {tys : List (ClassId × FieldType)} {AA : Nat → Prop} {H0 : Heap} {s : State} {H : Heap} {locs : List Loc} (h : GU D ws ku ki t0 u i cI cnt ids tys AA H0 s H locs) : ((ws.set ku (u, .inr (1, [.ref i, .int (nI cnt)]))).set ki (i, .inl (cI, 1536, .inl ids)) : va_W)[ku]? = some (u, .inr (1, [.ref i, .int (nI cnt)])) := by
  rw [List.getElem?_set_ne (Ne.symm h.2.2.1), List.getElem?_set_self h.1]
theorem GU.ati {D : va_G} {ws : va_W} {ku ki t0 u i : Nat} {cI : ClassId} {cnt : Nat} {ids : Nat → Int32} {tys : List (ClassId × FieldType)} {AA : Nat → Prop} {H0 : Heap} {s : State} {H : Heap} {locs : List Loc} (h : GU D ws ku ki t0 u i cI cnt ids tys AA H0 s H locs) : ((ws.set ku (u, .inr (1, [.ref i, .int (nI cnt)]))).set ki (i, .inl (cI, 1536, .inl ids)) : va_W)[ki]? = some (i, .inl (cI, 1536, .inl ids)) := List.getElem?_set_self (by rw [List.length_set]; exact h.2.1)
theorem GU.rd {D : va_G} {ws : va_W} {ku ki t0 u i : Nat} {cI : ClassId} {cnt : Nat} {ids : Nat → Int32} {tys : List (ClassId × FieldType)} {AA : Nat → Prop} {H0 : Heap} {s : State} {H : Heap} {locs : List Loc} (h : GU D ws ku ki t0 u i cI cnt ids tys AA H0 s H locs) : RdU D u i cnt ids s H := ⟨cI, h.2.2.2.2.2.1 ku _ h.atu, h.2.2.2.2.2.1 ki _ h.ati, h.2.2.2.2.2.2.2.1.one h.2.2.2.1, h.2.2.2.2.1⟩
theorem GU.st {D : va_G} {ws : va_W} {ku ki t0 u i : Nat} {cI : ClassId} {cnt : Nat} {ids : Nat → Int32} {tys : List (ClassId × FieldType)} {AA : Nat → Prop} {H0 : Heap} {s : State} {H : Heap} {locs : List Loc} (h : GM D ws tys AA H0 s H locs) (hu : ws[ku]? = some (u, .inr (1, [.ref i, .int (nI cnt)]))) (hi : ws[ki]? = some (i, .inl (cI, 1536, .inl ids))) (ht : tys[t0]? = some (cI, .int)) (hc : cnt ≤ 1536) : GU D ws ku ki t0 u i cI cnt ids tys AA H0 s H locs := by
  refine ⟨(List.getElem?_eq_some_iff.mp hu).1, (List.getElem?_eq_some_iff.mp hi).1, fun e => ?_, ht, hc, ?_⟩
  · subst e; rw [hu] at hi; cases hi
  · rw [set_same hu, set_same hi]; exact h
section GUR
variable {p : Program} {l : Launch} {e : Env} {R : Room} {s : State} {m : MethodId} {args : Array Value} {below : List Frame} {meth : Method} {c : Code} {H : Heap} {locs : List Loc} {cells slots : Nat} {Q : State → Prop} {cc : ByteArray} {nL pc : Nat} {ls : Array Slot} {rest : List Value} {D : va_G} {ws : va_W} {ku ki t0 u i : Nat} {cI : ClassId} {cnt : Nat} {ids : Nat → Int32} {tys : List (ClassId × FieldType)} {AA : Nat → Prop} {H0 : Heap}
theorem gU_count (S : CallFix p m c cc nL s args gw RX1) (hG : GU D ws ku ki t0 u i cI cnt ids tys AA H0 s H locs) {v : Nat} (hv : v ≤ 1536) (hdg : decode cc pc = .ok (.putfield 15, 3)) (kk : ∀ (H : Heap) (locs : List Loc), GU D ws ku ki t0 u i cI v ids tys AA H0 s H locs → W p l e R s m args below meth c H locs cells slots Q (F0 m (pc + 3) ls rest)) : W p l e R s m args below meth c H locs cells slots Q (F0 m pc ls (.int (nI v) :: .ref u :: rest)) := by
  have hu := GU.atu hG
  obtain ⟨hx, hb, hml, hown, hg⟩ := S
  obtain ⟨h1, h2, h3, h4, h5, hP, hD, hK, hS, hA⟩ := hG
  have e9 : ∀ X : Nat × va_E, (((ws.set ku (u, .inr (1, [.ref i, .int (nI cnt)]))).set ki (i, .inl (cI, 1536, .inl ids))).set ku X : va_W) = (ws.set ku X).set ki (i, .inl (cI, 1536, .inl ids)) := fun X => by rw [List.set_comm _ _ (Ne.symm h3), List.set_set]
  refine va_put (D := D) (ci := 1) (v := .int (nI v)) (ty := .int) (C := RX1) (T := TX1) (N := 2) hx hb hg inX1 tyX1 tyX1_ok nmX1 hown hK hP hD hS ku hu rfl 1 (by decide) (hg _ wk_27) (fun _ h9 => h9) rfl (by decide +kernel) rfl rfl (Nat.le_of_ble_eq_true rfl) hdg (fun H1 locs1 hP hD hS => kk H1 locs1 ⟨h1, h2, h3, h4, hv, ?_, ?_, hK, hS, hA⟩)
  · rw [e9] at hP; exact hP
  · rw [e9] at hD; exact hD
theorem gU_ast (S : CallFix p m c cc nL s args gw RX1) (hG : GU D ws ku ki t0 u i cI cnt ids tys AA H0 s H locs) {k : Nat} {v : Int32} (hk : k < 1536) (hdg : decode cc pc = .ok (.iastore, 1)) (kk : ∀ (H : Heap) (locs : List Loc), GU D ws ku ki t0 u i cI cnt (upd ids k v) tys AA H0 s H locs → W p l e R s m args below meth c H locs cells slots Q (F0 m (pc + 1) ls rest)) : W p l e R s m args below meth c H locs cells slots Q (F0 m pc ls (.int v :: .int (nI k) :: .ref i :: rest)) := by
  have hi := GU.ati hG
  obtain ⟨hx, hb, hml, hown, hg⟩ := S
  obtain ⟨h1, h2, h3, h4, h5, hP, hD, hK, hS, hA⟩ := hG
  refine va_iast (D := D) hx hb hK hP hD hS ki t0 hi h4 (vp_in_nI hk (by omega)) hdg (fun H1 locs1 hP hD hS => kk H1 locs1 ⟨h1, h2, h3, h4, h5, ?_, ?_, hK, hS, hA⟩)
  · rw [nI_clamp (by omega), List.set_set] at hP; exact hP
  · rw [nI_clamp (by omega), List.set_set] at hD; exact hD
theorem gU_cpy (S : CallFix p m c cc nL s args gw RX1) (hG : GU D ws ku ki t0 u i cI cnt ids tys AA H0 s H locs) {q : Nat} (hq : q ≤ cnt) (hc : cnt < 1536) (hfr : 1 ≤ R.frames) (hlo : (rest.map fun v => v.category).sum + (nativeFrameWords "java/lang/System" "arraycopy" 5 + 11) ≤ R.locals) (hsz : ls.size = nL) (hdg : decode cc pc = .ok (.invokestatic 23, 3)) (kk : ∀ (H : Heap) (locs : List Loc), GU D ws ku ki t0 u i cI cnt (va_cpy ids ids q (q + 1) (cnt - q)) tys AA H0 s H locs → W p l e R s m args below meth c H locs cells slots Q (F0 m (pc + 3) ls rest)) : W p l e R s m args below meth c H locs cells slots Q (F0 m pc ls (.int (nI (cnt - q)) :: .int (nI (q + 1)) :: .ref i :: .int (nI q) :: .ref i :: rest)) := by
  have hi := GU.ati hG
  obtain ⟨hx, hb, hml, hown, hg⟩ := S
  obtain ⟨h1, h2, h3, h4, h5, hP, hD, hK, hS, hA⟩ := hG
  have z1 := nI_clamp (n := q) (by omega)
  have z2 := nI_clamp (n := q + 1) (by omega)
  have z3 := nI_clamp (n := cnt - q) (by omega)
  refine va_copyi (D := D) (ty := .int) hx hb (by rw [hml]; exact hsz.symm) hown (hg _ wk_150) (hg _ wk_152) (hg _ wk_151) (hg _ wk_5) hK hP hD hS ki ki t0 t0 hi hi h4 h4 rfl (nI_pos (by omega)) (nI_pos (by omega)) (nI_pos (by omega)) (by rw [z1, z3]; omega) (by rw [z2, z3]; omega) (fun _ _ => rfl) hfr hlo hdg (fun H1 locs1 hP hD hS => kk H1 locs1 ⟨h1, h2, h3, h4, h5, ?_, ?_, hK, hS, hA⟩)
  · rw [z1, z2, z3, List.set_set] at hP; exact hP
  · rw [z1, z2, z3, List.set_set] at hD; exact hD
end GUR
def nte (ids : Nat → Int32) (cnt q : Nat) (v : Int32) : Nat → Int32 := upd (va_cpy ids ids q (q + 1) (cnt - q)) q v
theorem nI_sub {a b : Nat} (h : b ≤ a) : nI a - nI b = nI (a - b) := by
  have e : nI a = nI (a - b) + nI b := by rw [nI_add, Nat.sub_add_cancel h]
  rw [e, Int32.add_sub_cancel]
set_option maxHeartbeats 4000000 in
set_option maxRecDepth 100000 in
theorem c_X0_init (l : Launch) {D : va_G} {ws : va_W} {tys : List (ClassId × FieldType)} {sz k b : Nat} {fv : Nat → Int32} (v1 v2 v3 : Int32) (hk : ws[k]? = some (b, .inr (0, eF fv))) : Met l yX0_init (gws yX0_init cX0_init 4 none) { frames := 1, cells := 0, slots := 0, locals := 20 } (va_Pc [.ref b, .int v1, .int v2, .int v3] (fun U => GPre D ws tys sz U U.heap ∧ (fun _ => True) U)) (va_Qv (fun (w9 : va_W) => w9 = ws.set k (b, .inr (0, eF (ini v1 v2 v3)))) (GB D tys (va_A ws sz)) (va_A ws sz)) 0 0 (va_A ws sz) := by
  refine met_gm (QQ := fun AA => va_Qv (fun (w9 : va_W) => w9 = ws.set k (b, .inr (0, eF (ini v1 v2 v3)))) (GB D tys AA) AA) (X := fun _ => True) (by decide) (Nat.le_of_ble_eq_true rfl) ?_
  intro p e s m below meth c ls AA S hr hlocks hnm hX hG hl
  obtain ⟨hx, hb, hml, hown, hg⟩ := id S
  have hl : lv_has ls 4 [(0, .ref b), (1, .int v1), (2, .int v2), (3, .int v3)] := hl
  have hG := GE.st hG hk
  clear hk
  suffices key9 : ∀ (H : Heap) (locs : List Loc), GE D ws k b fv tys AA s.heap s H locs → W p l e { frames := 1, cells := 0, slots := 0, locals := 20 } s m [.ref b, .int v1, .int v2, .int v3].toArray below meth c H locs 0 0 (MQ below ((fun AA : Nat → Prop => va_Qv (fun (w9 : va_W) => w9 = ws.set k (b, .inr (0, eF (ini v1 v2 v3)))) (GB D tys AA) AA) AA) [.ref b, .int v1, .int v2, .int v3].toArray s 0 0 AA) (F0 m 0 ls []) from key9 _ _ hG
  clear hG
  intro H locs hG
  refine lv_aload_n hx hb dX0_init_0 rfl (lv_at hl 0 rfl) ?_
  refine W.objInit hx hb hown (hg _ wk_39) (hg _ wk_18) (hg _ wk_19) rfl (by rw [hml]; exact hl.1) rfl dX0_init_1 (Nat.le_of_ble_eq_true rfl) (Nat.le_of_ble_eq_true rfl) ?_
  refine W.eq (g2 := F0 m 4 ls []) rfl ?_
  refine lv_aload_n hx hb dX0_init_4 rfl (lv_at hl 0 rfl) ?_
  refine lv_iload_n hx hb dX0_init_5 rfl (lv_at hl 1 rfl) ?_
  refine gE_id S hG hnm dX0_init_6 (fun H locs hG => ?_)
  refine lv_aload_n hx hb dX0_init_9 rfl (lv_at hl 0 rfl) ?_
  refine lv_iload_n hx hb dX0_init_10 rfl (lv_at hl 2 rfl) ?_
  refine gE_behind S hG hnm dX0_init_11 (fun H locs hG => ?_)
  refine lv_aload_n hx hb dX0_init_14 rfl (lv_at hl 0 rfl) ?_
  refine lv_iload_n hx hb dX0_init_15 rfl (lv_at hl 3 rfl) ?_
  refine gE_way S hG hnm dX0_init_16 (fun H locs hG => ?_)
  refine lv_aload_n hx hb dX0_init_19 rfl (lv_at hl 0 rfl) ?_
  refine lv_iconst (v := 0) hx hb dX0_init_20 (by decide) ?_
  refine gE_followers S hG dX0_init_21 (fun H locs hG => ?_)
  refine lv_aload_n hx hb dX0_init_24 rfl (lv_at hl 0 rfl) ?_
  refine lv_iconst (v := 0) hx hb dX0_init_25 (by decide) ?_
  refine gE_sets S hG dX0_init_26 (fun H locs hG => ?_)
  refine lv_aload_n hx hb dX0_init_29 rfl (lv_at hl 0 rfl) ?_
  refine lv_iconst (v := 0) hx hb dX0_init_30 (by decide) ?_
  refine gE_removes S hG dX0_init_31 (fun H locs hG => ?_)
  refine lv_aload_n hx hb dX0_init_34 rfl (lv_at hl 0 rfl) ?_
  refine lv_iconst (v := (-1)) hx hb dX0_init_35 (by decide) ?_
  refine gE_standing S hG dX0_init_36 (fun H locs hG => ?_)
  refine lv_aload_n hx hb dX0_init_39 rfl (lv_at hl 0 rfl) ?_
  refine lv_iconst (v := 0) hx hb dX0_init_40 (by decide) ?_
  refine gE_kind S hG dX0_init_41 (fun H locs hG => ?_)
  refine lv_aload_n hx hb dX0_init_44 rfl (lv_at hl 0 rfl) ?_
  refine lv_iconst (v := 0) hx hb dX0_init_45 (by decide) ?_
  refine gE_value S hG dX0_init_46 (fun H locs hG => ?_)
  exact W.vret hx hb hr (fun t9 ht9 hW9 => ⟨⟨_, rfl, rfl, (hG.2.out ht9 hW9).1⟩, (hG.2.out ht9 hW9).2⟩) hG.2.S.2.2 dX0_init_49
set_option maxHeartbeats 4000000 in
set_option maxRecDepth 100000 in
theorem c_X0_offer (l : Launch) {D : va_G} {ws : va_W} {tys : List (ClassId × FieldType)} {sz k b : Nat} {fv : Nat → Int32} (v1 v2 v3 : Int32) (hk : ws[k]? = some (b, .inr (0, eF fv))) : Met l yX0_offer (gws yX0_offer cX0_offer 4 none) { frames := 0, cells := 0, slots := 0, locals := 0 } (va_Pc [.ref b, .int v1, .int v2, .int v3] (fun U => GPre D ws tys sz U U.heap ∧ (fun _ => True) U)) (va_Qv (fun (w9 : va_W) => w9 = ws.set k (b, .inr (0, eF (ofr fv v1 v2 v3)))) (GB D tys (va_A ws sz)) (va_A ws sz)) 0 0 (va_A ws sz) := by
  refine met_gm (QQ := fun AA => va_Qv (fun (w9 : va_W) => w9 = ws.set k (b, .inr (0, eF (ofr fv v1 v2 v3)))) (GB D tys AA) AA) (X := fun _ => True) (by decide) (Nat.le_of_ble_eq_true rfl) ?_
  intro p e s m below meth c ls AA S hr hlocks hnm hX hG hl
  obtain ⟨hx, hb, hml, hown, hg⟩ := id S
  have hl : lv_has ls 4 [(0, .ref b), (1, .int v1), (2, .int v2), (3, .int v3)] := hl
  have hG := GE.st hG hk
  clear hk
  suffices key9 : ∀ (H : Heap) (locs : List Loc), GE D ws k b fv tys AA s.heap s H locs → W p l e { frames := 0, cells := 0, slots := 0, locals := 0 } s m [.ref b, .int v1, .int v2, .int v3].toArray below meth c H locs 0 0 (MQ below ((fun AA : Nat → Prop => va_Qv (fun (w9 : va_W) => w9 = ws.set k (b, .inr (0, eF (ofr fv v1 v2 v3)))) (GB D tys AA) AA) AA) [.ref b, .int v1, .int v2, .int v3].toArray s 0 0 AA) (F0 m 0 ls []) from key9 _ _ hG
  clear hG
  intro H locs hG
  refine lv_iload_n hx hb dX0_offer_0 rfl (lv_at hl 1 rfl) ?_
  refine lv_aload_n hx hb dX0_offer_1 rfl (lv_at hl 0 rfl) ?_
  refine rE_standing S hG.rd dX0_offer_2 ?_
  refine lv_icmp_le (tgt := 23) hx hb dX0_offer_5 (by decide) (fun c_5 => ?_) (fun c_5 => ?_)
  · exact W.vret hx hb hr (fun t9 ht9 hW9 => ⟨⟨_, rfl, by rw [ofr, if_neg (i32_nlt.mpr c_5)], (hG.2.out ht9 hW9).1⟩, (hG.2.out ht9 hW9).2⟩) hG.2.S.2.2 dX0_offer_23
  · refine lv_aload_n hx hb dX0_offer_8 rfl (lv_at hl 0 rfl) ?_
    refine lv_iload_n hx hb dX0_offer_9 rfl (lv_at hl 1 rfl) ?_
    refine gE_standing S hG dX0_offer_10 (fun H locs hG => ?_)
    refine lv_aload_n hx hb dX0_offer_13 rfl (lv_at hl 0 rfl) ?_
    refine lv_iload_n hx hb dX0_offer_14 rfl (lv_at hl 2 rfl) ?_
    refine gE_kind S hG dX0_offer_15 (fun H locs hG => ?_)
    refine lv_aload_n hx hb dX0_offer_18 rfl (lv_at hl 0 rfl) ?_
    refine lv_iload_n hx hb dX0_offer_19 rfl (lv_at hl 3 rfl) ?_
    refine gE_value S hG dX0_offer_20 (fun H locs hG => ?_)
    exact W.vret hx hb hr (fun t9 ht9 hW9 => ⟨⟨_, rfl, by rw [ofr, if_pos (i32_nle.mp c_5)], (hG.2.out ht9 hW9).1⟩, (hG.2.out ht9 hW9).2⟩) hG.2.S.2.2 dX0_offer_23
set_option maxHeartbeats 4000000 in
set_option maxRecDepth 100000 in
theorem c_X1_forgetAll (l : Launch) {D : va_G} {ws : va_W} {tys : List (ClassId × FieldType)} {sz ku ki t0 u i : Nat} {cI : ClassId} {cnt : Nat} {ids : Nat → Int32}  (hu9 : ws[ku]? = some (u, .inr (1, [.ref i, .int (nI cnt)]))) (hi9 : ws[ki]? = some (i, .inl (cI, 1536, .inl ids))) (ht9 : tys[t0]? = some (cI, .int)) (hc9 : cnt ≤ 1536) : Met l yX1_forgetAll (gws yX1_forgetAll cX1_forgetAll 1 none) { frames := 0, cells := 0, slots := 0, locals := 0 } (va_Pc [.ref u] (fun U => GPre D ws tys sz U U.heap ∧ (fun _ => True) U)) (va_Qv (fun (w9 : va_W) => w9 = (ws.set ku (u, .inr (1, [.ref i, .int (nI 0)]))).set ki (i, .inl (cI, 1536, .inl ids))) (GB D tys (va_A ws sz)) (va_A ws sz)) 0 0 (va_A ws sz) := by
  refine met_gm (QQ := fun AA => va_Qv (fun (w9 : va_W) => w9 = (ws.set ku (u, .inr (1, [.ref i, .int (nI 0)]))).set ki (i, .inl (cI, 1536, .inl ids))) (GB D tys AA) AA) (X := fun _ => True) (by decide) (Nat.le_of_ble_eq_true rfl) ?_
  intro p e s m below meth c ls AA S hr hlocks hnm hX hG hl
  obtain ⟨hx, hb, hml, hown, hg⟩ := id S
  have hl : lv_has ls 1 [(0, .ref u)] := hl
  have hG := GU.st hG hu9 hi9 ht9 hc9
  clear hu9 hi9 ht9
  suffices key9 : ∀ (H : Heap) (locs : List Loc), GU D ws ku ki t0 u i cI cnt ids tys AA s.heap s H locs → W p l e { frames := 0, cells := 0, slots := 0, locals := 0 } s m [.ref u].toArray below meth c H locs 0 0 (MQ below ((fun AA : Nat → Prop => va_Qv (fun (w9 : va_W) => w9 = (ws.set ku (u, .inr (1, [.ref i, .int (nI 0)]))).set ki (i, .inl (cI, 1536, .inl ids))) (GB D tys AA) AA) AA) [.ref u].toArray s 0 0 AA) (F0 m 0 ls []) from key9 _ _ hG
  clear hG
  intro H locs hG
  refine lv_aload_n hx hb dX1_forgetAll_0 rfl (lv_at hl 0 rfl) ?_
  refine lv_iconst (v := nI 0) hx hb dX1_forgetAll_1 (by decide) ?_
  refine gU_count (v := 0) S hG (by omega) dX1_forgetAll_2 (fun H locs hG => ?_)
  exact W.vret hx hb hr (fun t9 ht9 hW9 => ⟨⟨_, rfl, rfl, (hG.2.2.2.2.2.out ht9 hW9).1⟩, (hG.2.2.2.2.2.out ht9 hW9).2⟩) hG.2.2.2.2.2.S.2.2 dX1_forgetAll_5
set_option maxHeartbeats 4000000 in
set_option maxRecDepth 100000 in
theorem c_X1_note (l : Launch) {D : va_G} {ws : va_W} {tys : List (ClassId × FieldType)} {sz ku ki t0 u i : Nat} {cI : ClassId} {cnt : Nat} {ids : Nat → Int32} (v1 : Int32) (hu9 : ws[ku]? = some (u, .inr (1, [.ref i, .int (nI cnt)]))) (hi9 : ws[ki]? = some (i, .inl (cI, 1536, .inl ids))) (ht9 : tys[t0]? = some (cI, .int)) (hs : Srt ids cnt) (hcnt : cnt < 1536) : Met l yX1_note (gws yX1_note cX1_note 3 none) { frames := 1, cells := 0, slots := 0, locals := 40 } (va_Pc [.ref u, .int v1] (fun U => GPre D ws tys sz U U.heap ∧ (fun _ => True) U)) (va_Qv (fun (w9 : va_W) => ∃ q, Fnb ids cnt v1 q ∧ w9 = (ws.set ku (u, .inr (1, [.ref i, .int (nI (cnt + 1))]))).set ki (i, .inl (cI, 1536, .inl (nte ids cnt q v1)))) (GB D tys (va_A ws sz)) (va_A ws sz)) 0 0 (va_A ws sz) := by
  refine met_gm (QQ := fun AA => va_Qv (fun (w9 : va_W) => ∃ q, Fnb ids cnt v1 q ∧ w9 = (ws.set ku (u, .inr (1, [.ref i, .int (nI (cnt + 1))]))).set ki (i, .inl (cI, 1536, .inl (nte ids cnt q v1)))) (GB D tys AA) AA) (X := fun _ => True) (by decide) (Nat.le_of_ble_eq_true rfl) ?_
  intro p e s m below meth c ls AA S hr hlocks hnm hX hG hl
  obtain ⟨hx, hb, hml, hown, hg⟩ := id S
  have hl : lv_has ls 3 [(0, .ref u), (1, .int v1)] := hl
  have hG := GU.st hG hu9 hi9 ht9 (by omega)
  clear hu9 hi9 ht9
  suffices key9 : ∀ (H : Heap) (locs : List Loc), GU D ws ku ki t0 u i cI cnt ids tys AA s.heap s H locs → W p l e { frames := 1, cells := 0, slots := 0, locals := 40 } s m [.ref u, .int v1].toArray below meth c H locs 0 0 (MQ below ((fun AA : Nat → Prop => va_Qv (fun (w9 : va_W) => ∃ q, Fnb ids cnt v1 q ∧ w9 = (ws.set ku (u, .inr (1, [.ref i, .int (nI (cnt + 1))]))).set ki (i, .inl (cI, 1536, .inl (nte ids cnt q v1)))) (GB D tys AA) AA) AA) [.ref u, .int v1].toArray s 0 0 AA) (F0 m 0 ls []) from key9 _ _ hG
  clear hG
  intro H locs hG
  refine lv_aload_n hx hb dX1_note_0 rfl (lv_at hl 0 rfl) ?_
  refine rU_count S hG.rd dX1_note_1 ?_
  refine lv_aload_n hx hb dX1_note_4 rfl (lv_at hl 0 rfl) ?_
  refine rU_ids S hG.rd dX1_note_5 ?_
  refine va_alen (v := nI 1536) hx hb hG.2.2.2.2.2.2.2.1 hG.2.2.2.2.2.1 ki t0 hG.ati hG.2.2.2.1 rfl dX1_note_8 ?_
  refine lv_icmp_lt (tgt := 13) hx hb dX1_note_9 (by decide) (fun c_9 => ?_) (fun c_9 => ?_)
  · rw [nI_ltI (by omega) (by omega)] at c_9
    refine lv_aload_n hx hb dX1_note_13 rfl (lv_at hl 0 rfl) ?_
    refine lv_iload_n hx hb dX1_note_14 rfl (lv_at hl 1 rfl) ?_
    refine vp_callSi (va_Run.run (runV (As := [.int v1]) (rest := []) (Bh := RdU D u i cnt ids) S (c_X1_firstNotBelow l v1 hs) (gw_V wk_127 wk_129 wp_6 wk_2 wk_130) rfl rfl 1 rfl (by decide +kernel) (by decide) ⟨Nat.le_refl _, Nat.le_refl _⟩ (fun _ _ _ h q => RdU.mv h q) hG.rd.recv hG.rd hl.1 (Nat.le_of_ble_eq_true rfl) dX1_note_15)) (fun r hr => ?_)
    obtain ⟨q_15, h_15, rfl⟩ := hr
    have hq8 := h_15.1
    refine lv_istore_n (lv' := [(2, .int (nI q_15)), (0, .ref u), (1, .int v1)]) hx hb dX1_note_18 rfl hl (by decide) rfl (fun ls hl => ?_)
    refine lv_aload_n hx hb dX1_note_19 rfl (lv_at hl 1 rfl) ?_
    refine rU_ids S hG.rd dX1_note_20 ?_
    refine lv_iload_n hx hb dX1_note_23 rfl (lv_at hl 0 rfl) ?_
    refine lv_aload_n hx hb dX1_note_24 rfl (lv_at hl 1 rfl) ?_
    refine rU_ids S hG.rd dX1_note_25 ?_
    refine lv_iload_n hx hb dX1_note_28 rfl (lv_at hl 0 rfl) ?_
    refine lv_iconst (v := nI 1) hx hb dX1_note_29 (by decide) ?_
    refine lv_iadd hx hb dX1_note_30 ?_
    refine lv_aload_n hx hb dX1_note_31 rfl (lv_at hl 1 rfl) ?_
    refine rU_count S hG.rd dX1_note_32 ?_
    refine lv_iload_n hx hb dX1_note_35 rfl (lv_at hl 0 rfl) ?_
    refine lv_isub hx hb dX1_note_36 ?_
    have hq9 := h_15.1
    have z9 := nI_sub hq9
    rw [show nI q_15 + nI 1 = nI (q_15 + 1) from nI_add q_15 1, z9]
    refine gU_cpy S hG hq9 hcnt (Nat.le_of_ble_eq_true rfl) (Nat.le_of_ble_eq_true rfl) hl.1 dX1_note_37 (fun H locs hG => ?_)
    refine lv_aload_n hx hb dX1_note_40 rfl (lv_at hl 1 rfl) ?_
    refine rU_ids S hG.rd dX1_note_41 ?_
    refine lv_iload_n hx hb dX1_note_44 rfl (lv_at hl 0 rfl) ?_
    refine lv_iload_n hx hb dX1_note_45 rfl (lv_at hl 2 rfl) ?_
    refine gU_ast S hG (by omega) dX1_note_46 (fun H locs hG => ?_)
    refine lv_aload_n hx hb dX1_note_47 rfl (lv_at hl 1 rfl) ?_
    refine lv_dup hx hb dX1_note_48 rfl ?_
    refine rU_count S hG.rd dX1_note_49 ?_
    refine lv_iconst (v := nI 1) hx hb dX1_note_52 (by decide) ?_
    refine lv_iadd hx hb dX1_note_53 ?_
    rw [show nI cnt + nI 1 = nI (cnt + 1) from nI_add cnt 1]
    refine gU_count (v := (cnt + 1)) S hG (by omega) dX1_note_54 (fun H locs hG => ?_)
    exact W.vret hx hb hr (fun t9 ht9 hW9 => ⟨⟨_, rfl, ⟨q_15, h_15, rfl⟩, (hG.2.2.2.2.2.out ht9 hW9).1⟩, (hG.2.2.2.2.2.out ht9 hW9).2⟩) hG.2.2.2.2.2.S.2.2 dX1_note_57
  · rw [nI_ltI (by omega) (by omega)] at c_9
    exact absurd hcnt c_9
end
