section
-- ===== PART A: goes FIRST, ahead of the names: the tables' words, and 'selects' of the private methods out of them =====
/-- a private method of a class that the tables say can be made, by its rows of tables_1 -/
def lw_okq (q : MethodName × Nat) : Prop := (q.1.cls ≠ "java/lang/invoke/MethodHandle" ∧ q.1.cls ≠ "java/lang/invoke/VarHandle") ∧ Cond.instantiable q.1.cls q.2 ∈ tables_1 ∧ Cond.privateMethod q.1 ∈ tables_1 ∧ Cond.instanceMethod q.1 ∈ tables_1
theorem lw_p0 : lw_okq (⟨"ForgettingLines", "startAgain", "()V"⟩, 8) := ⟨⟨by decide +kernel, by decide +kernel⟩, List.mem_of_getElem? (i := 12) (by decide +kernel), List.mem_of_getElem? (i := 194) (by decide +kernel), List.mem_of_getElem? (i := 195) (by decide +kernel)⟩
theorem lw_p1 : lw_okq (⟨"ForgettingLines$Tape", "parseArc", "(II)Z"⟩, 4) := ⟨⟨by decide +kernel, by decide +kernel⟩, List.mem_of_getElem? (i := 46) (by decide +kernel), List.mem_of_getElem? (i := 252) (by decide +kernel), List.mem_of_getElem? (i := 253) (by decide +kernel)⟩
theorem lw_p2 : lw_okq (⟨"ForgettingLines$Tape", "oneOf", "(CI)I"⟩, 4) := ⟨⟨by decide +kernel, by decide +kernel⟩, List.mem_of_getElem? (i := 46) (by decide +kernel), List.mem_of_getElem? (i := 256) (by decide +kernel), List.mem_of_getElem? (i := 257) (by decide +kernel)⟩
theorem lw_p3 : lw_okq (⟨"ForgettingLines$Tape", "skipBlanks", "()V"⟩, 4) := ⟨⟨by decide +kernel, by decide +kernel⟩, List.mem_of_getElem? (i := 46) (by decide +kernel), List.mem_of_getElem? (i := 260) (by decide +kernel), List.mem_of_getElem? (i := 261) (by decide +kernel)⟩
theorem lw_p4 : lw_okq (⟨"ForgettingLines$Tape", "parseAct", "()I"⟩, 4) := ⟨⟨by decide +kernel, by decide +kernel⟩, List.mem_of_getElem? (i := 46) (by decide +kernel), List.mem_of_getElem? (i := 265) (by decide +kernel), List.mem_of_getElem? (i := 266) (by decide +kernel)⟩
theorem lw_p5 : lw_okq (⟨"ForgettingLines$Tape", "parseLetterAndLine", "(I)Z"⟩, 4) := ⟨⟨by decide +kernel, by decide +kernel⟩, List.mem_of_getElem? (i := 46) (by decide +kernel), List.mem_of_getElem? (i := 269) (by decide +kernel), List.mem_of_getElem? (i := 270) (by decide +kernel)⟩
theorem lw_p6 : lw_okq (⟨"ForgettingLines", "searchOnce", "()V"⟩, 8) := ⟨⟨by decide +kernel, by decide +kernel⟩, List.mem_of_getElem? (i := 12) (by decide +kernel), List.mem_of_getElem? (i := 357) (by decide +kernel), List.mem_of_getElem? (i := 358) (by decide +kernel)⟩
theorem lw_p7 : lw_okq (⟨"ForgettingLines$Search", "add", "(IIIII)V"⟩, 8) := ⟨⟨by decide +kernel, by decide +kernel⟩, List.mem_of_getElem? (i := 87) (by decide +kernel), List.mem_of_getElem? (i := 365) (by decide +kernel), List.mem_of_getElem? (i := 366) (by decide +kernel)⟩
theorem lw_p8 : lw_okq (⟨"ForgettingLines$Search", "lookAhead", "(LForgettingLines$Machine;II)V"⟩, 8) := ⟨⟨by decide +kernel, by decide +kernel⟩, List.mem_of_getElem? (i := 87) (by decide +kernel), List.mem_of_getElem? (i := 370) (by decide +kernel), List.mem_of_getElem? (i := 371) (by decide +kernel)⟩
theorem lw_p9 : lw_okq (⟨"ForgettingLines$Search", "isBelowPlace", "(IIII)Z"⟩, 8) := ⟨⟨by decide +kernel, by decide +kernel⟩, List.mem_of_getElem? (i := 87) (by decide +kernel), List.mem_of_getElem? (i := 383) (by decide +kernel), List.mem_of_getElem? (i := 384) (by decide +kernel)⟩
theorem lw_p10 : lw_okq (⟨"ForgettingLines$Search", "isLeast", "(I)Z"⟩, 8) := ⟨⟨by decide +kernel, by decide +kernel⟩, List.mem_of_getElem? (i := 87) (by decide +kernel), List.mem_of_getElem? (i := 400) (by decide +kernel), List.mem_of_getElem? (i := 401) (by decide +kernel)⟩
theorem lw_p11 : lw_okq (⟨"ForgettingLines$Walk", "add", "(III)V"⟩, 3) := ⟨⟨by decide +kernel, by decide +kernel⟩, List.mem_of_getElem? (i := 121) (by decide +kernel), List.mem_of_getElem? (i := 449) (by decide +kernel), List.mem_of_getElem? (i := 450) (by decide +kernel)⟩
theorem lw_p12 : lw_okq (⟨"ForgettingLines$Walk", "goOn", "(LForgettingLines$Machine;II)V"⟩, 3) := ⟨⟨by decide +kernel, by decide +kernel⟩, List.mem_of_getElem? (i := 121) (by decide +kernel), List.mem_of_getElem? (i := 463) (by decide +kernel), List.mem_of_getElem? (i := 464) (by decide +kernel)⟩
theorem lw_p13 : lw_okq (⟨"ForgettingLines$Walk", "goBy", "(LForgettingLines$Machine;III)V"⟩, 3) := ⟨⟨by decide +kernel, by decide +kernel⟩, List.mem_of_getElem? (i := 121) (by decide +kernel), List.mem_of_getElem? (i := 468) (by decide +kernel), List.mem_of_getElem? (i := 469) (by decide +kernel)⟩
theorem lw_p14 : lw_okq (⟨"ForgettingLinesModel", "empty", "(II)V"⟩, 25) := ⟨⟨by decide +kernel, by decide +kernel⟩, List.mem_of_getElem? (i := 497) (by decide +kernel), List.mem_of_getElem? (i := 587) (by decide +kernel), List.mem_of_getElem? (i := 588) (by decide +kernel)⟩
theorem lw_p15 : lw_okq (⟨"ForgettingLinesModel", "isGood", "(IIIII)Z"⟩, 25) := ⟨⟨by decide +kernel, by decide +kernel⟩, List.mem_of_getElem? (i := 497) (by decide +kernel), List.mem_of_getElem? (i := 599) (by decide +kernel), List.mem_of_getElem? (i := 600) (by decide +kernel)⟩
def lw_privs_1 : List (MethodName × Nat) := [(⟨"ForgettingLines", "startAgain", "()V"⟩, 8), (⟨"ForgettingLines$Tape", "parseArc", "(II)Z"⟩, 4), (⟨"ForgettingLines$Tape", "oneOf", "(CI)I"⟩, 4), (⟨"ForgettingLines$Tape", "skipBlanks", "()V"⟩, 4), (⟨"ForgettingLines$Tape", "parseAct", "()I"⟩, 4), (⟨"ForgettingLines$Tape", "parseLetterAndLine", "(I)Z"⟩, 4), (⟨"ForgettingLines", "searchOnce", "()V"⟩, 8), (⟨"ForgettingLines$Search", "add", "(IIIII)V"⟩, 8), (⟨"ForgettingLines$Search", "lookAhead", "(LForgettingLines$Machine;II)V"⟩, 8), (⟨"ForgettingLines$Search", "isBelowPlace", "(IIII)Z"⟩, 8), (⟨"ForgettingLines$Search", "isLeast", "(I)Z"⟩, 8), (⟨"ForgettingLines$Walk", "add", "(III)V"⟩, 3), (⟨"ForgettingLines$Walk", "goOn", "(LForgettingLines$Machine;II)V"⟩, 3), (⟨"ForgettingLines$Walk", "goBy", "(LForgettingLines$Machine;III)V"⟩, 3), (⟨"ForgettingLinesModel", "empty", "(II)V"⟩, 25), (⟨"ForgettingLinesModel", "isGood", "(IIIII)Z"⟩, 25)]
theorem lw_r1 : ∀ q ∈ lw_privs_1, lw_okq q := List.forall_mem_cons.mpr ⟨lw_p0, List.forall_mem_cons.mpr ⟨lw_p1, List.forall_mem_cons.mpr ⟨lw_p2, List.forall_mem_cons.mpr ⟨lw_p3, List.forall_mem_cons.mpr ⟨lw_p4, List.forall_mem_cons.mpr ⟨lw_p5, List.forall_mem_cons.mpr ⟨lw_p6, List.forall_mem_cons.mpr ⟨lw_p7, List.forall_mem_cons.mpr ⟨lw_p8, List.forall_mem_cons.mpr ⟨lw_p9, List.forall_mem_cons.mpr ⟨lw_p10, List.forall_mem_cons.mpr ⟨lw_p11, List.forall_mem_cons.mpr ⟨lw_p12, List.forall_mem_cons.mpr ⟨lw_p13, List.forall_mem_cons.mpr ⟨lw_p14, List.forall_mem_cons.mpr ⟨lw_p15, fun _ h => absurd h List.not_mem_nil⟩⟩⟩⟩⟩⟩⟩⟩⟩⟩⟩⟩⟩⟩⟩⟩
theorem lw_p16 : lw_okq (⟨"ForgettingLinesModel", "isState", "(I)Z"⟩, 25) := ⟨⟨by decide +kernel, by decide +kernel⟩, List.mem_of_getElem? (i := 497) (by decide +kernel), List.mem_of_getElem? (i := 603) (by decide +kernel), List.mem_of_getElem? (i := 604) (by decide +kernel)⟩
theorem lw_p17 : lw_okq (⟨"ForgettingLinesModel", "put", "(IIIII)V"⟩, 25) := ⟨⟨by decide +kernel, by decide +kernel⟩, List.mem_of_getElem? (i := 497) (by decide +kernel), List.mem_of_getElem? (i := 607) (by decide +kernel), List.mem_of_getElem? (i := 608) (by decide +kernel)⟩
theorem lw_p18 : lw_okq (⟨"ForgettingLinesModel", "isArc", "(I)Z"⟩, 25) := ⟨⟨by decide +kernel, by decide +kernel⟩, List.mem_of_getElem? (i := 497) (by decide +kernel), List.mem_of_getElem? (i := 619) (by decide +kernel), List.mem_of_getElem? (i := 620) (by decide +kernel)⟩
theorem lw_p19 : lw_okq (⟨"ForgettingLinesModel", "passed", "(II)I"⟩, 25) := ⟨⟨by decide +kernel, by decide +kernel⟩, List.mem_of_getElem? (i := 497) (by decide +kernel), List.mem_of_getElem? (i := 632) (by decide +kernel), List.mem_of_getElem? (i := 633) (by decide +kernel)⟩
theorem lw_p20 : lw_okq (⟨"ForgettingLinesModel", "next", "()I"⟩, 25) := ⟨⟨by decide +kernel, by decide +kernel⟩, List.mem_of_getElem? (i := 497) (by decide +kernel), List.mem_of_getElem? (i := 636) (by decide +kernel), List.mem_of_getElem? (i := 637) (by decide +kernel)⟩
theorem lw_p21 : lw_okq (⟨"ForgettingLinesModel", "act", "()I"⟩, 25) := ⟨⟨by decide +kernel, by decide +kernel⟩, List.mem_of_getElem? (i := 497) (by decide +kernel), List.mem_of_getElem? (i := 640) (by decide +kernel), List.mem_of_getElem? (i := 641) (by decide +kernel)⟩
theorem lw_p22 : lw_okq (⟨"ForgettingLinesModel", "firstOf", "(III)I"⟩, 25) := ⟨⟨by decide +kernel, by decide +kernel⟩, List.mem_of_getElem? (i := 497) (by decide +kernel), List.mem_of_getElem? (i := 648) (by decide +kernel), List.mem_of_getElem? (i := 649) (by decide +kernel)⟩
theorem lw_p23 : lw_okq (⟨"ForgettingLinesModel", "takeOut", "(III)V"⟩, 25) := ⟨⟨by decide +kernel, by decide +kernel⟩, List.mem_of_getElem? (i := 497) (by decide +kernel), List.mem_of_getElem? (i := 655) (by decide +kernel), List.mem_of_getElem? (i := 656) (by decide +kernel)⟩
theorem lw_p24 : lw_okq (⟨"ForgettingLinesModel", "inOrder", "(III)I"⟩, 25) := ⟨⟨by decide +kernel, by decide +kernel⟩, List.mem_of_getElem? (i := 497) (by decide +kernel), List.mem_of_getElem? (i := 659) (by decide +kernel), List.mem_of_getElem? (i := 660) (by decide +kernel)⟩
theorem lw_p25 : lw_okq (⟨"ForgettingLinesModel", "putIn", "(IIII)V"⟩, 25) := ⟨⟨by decide +kernel, by decide +kernel⟩, List.mem_of_getElem? (i := 497) (by decide +kernel), List.mem_of_getElem? (i := 663) (by decide +kernel), List.mem_of_getElem? (i := 664) (by decide +kernel)⟩
theorem lw_p26 : lw_okq (⟨"ForgettingLinesModel", "search", "()Z"⟩, 25) := ⟨⟨by decide +kernel, by decide +kernel⟩, List.mem_of_getElem? (i := 497) (by decide +kernel), List.mem_of_getElem? (i := 691) (by decide +kernel), List.mem_of_getElem? (i := 692) (by decide +kernel)⟩
theorem lw_p27 : lw_okq (⟨"ForgettingLinesModel", "copy", "(II)V"⟩, 25) := ⟨⟨by decide +kernel, by decide +kernel⟩, List.mem_of_getElem? (i := 497) (by decide +kernel), List.mem_of_getElem? (i := 695) (by decide +kernel), List.mem_of_getElem? (i := 696) (by decide +kernel)⟩
theorem lw_p28 : lw_okq (⟨"ForgettingLinesModel", "find", "(III)V"⟩, 25) := ⟨⟨by decide +kernel, by decide +kernel⟩, List.mem_of_getElem? (i := 497) (by decide +kernel), List.mem_of_getElem? (i := 699) (by decide +kernel), List.mem_of_getElem? (i := 700) (by decide +kernel)⟩
theorem lw_p29 : lw_okq (⟨"ForgettingLinesModel", "ahead", "(II)V"⟩, 25) := ⟨⟨by decide +kernel, by decide +kernel⟩, List.mem_of_getElem? (i := 497) (by decide +kernel), List.mem_of_getElem? (i := 703) (by decide +kernel), List.mem_of_getElem? (i := 704) (by decide +kernel)⟩
theorem lw_p30 : lw_okq (⟨"ForgettingLinesModel", "isNew", "()Z"⟩, 25) := ⟨⟨by decide +kernel, by decide +kernel⟩, List.mem_of_getElem? (i := 497) (by decide +kernel), List.mem_of_getElem? (i := 707) (by decide +kernel), List.mem_of_getElem? (i := 708) (by decide +kernel)⟩
theorem lw_p31 : lw_okq (⟨"ForgettingLinesModel", "isBelow", "(II)Z"⟩, 25) := ⟨⟨by decide +kernel, by decide +kernel⟩, List.mem_of_getElem? (i := 497) (by decide +kernel), List.mem_of_getElem? (i := 711) (by decide +kernel), List.mem_of_getElem? (i := 712) (by decide +kernel)⟩
def lw_privs_2 : List (MethodName × Nat) := [(⟨"ForgettingLinesModel", "isState", "(I)Z"⟩, 25), (⟨"ForgettingLinesModel", "put", "(IIIII)V"⟩, 25), (⟨"ForgettingLinesModel", "isArc", "(I)Z"⟩, 25), (⟨"ForgettingLinesModel", "passed", "(II)I"⟩, 25), (⟨"ForgettingLinesModel", "next", "()I"⟩, 25), (⟨"ForgettingLinesModel", "act", "()I"⟩, 25), (⟨"ForgettingLinesModel", "firstOf", "(III)I"⟩, 25), (⟨"ForgettingLinesModel", "takeOut", "(III)V"⟩, 25), (⟨"ForgettingLinesModel", "inOrder", "(III)I"⟩, 25), (⟨"ForgettingLinesModel", "putIn", "(IIII)V"⟩, 25), (⟨"ForgettingLinesModel", "search", "()Z"⟩, 25), (⟨"ForgettingLinesModel", "copy", "(II)V"⟩, 25), (⟨"ForgettingLinesModel", "find", "(III)V"⟩, 25), (⟨"ForgettingLinesModel", "ahead", "(II)V"⟩, 25), (⟨"ForgettingLinesModel", "isNew", "()Z"⟩, 25), (⟨"ForgettingLinesModel", "isBelow", "(II)Z"⟩, 25)]
theorem lw_r2 : ∀ q ∈ lw_privs_2, lw_okq q := List.forall_mem_cons.mpr ⟨lw_p16, List.forall_mem_cons.mpr ⟨lw_p17, List.forall_mem_cons.mpr ⟨lw_p18, List.forall_mem_cons.mpr ⟨lw_p19, List.forall_mem_cons.mpr ⟨lw_p20, List.forall_mem_cons.mpr ⟨lw_p21, List.forall_mem_cons.mpr ⟨lw_p22, List.forall_mem_cons.mpr ⟨lw_p23, List.forall_mem_cons.mpr ⟨lw_p24, List.forall_mem_cons.mpr ⟨lw_p25, List.forall_mem_cons.mpr ⟨lw_p26, List.forall_mem_cons.mpr ⟨lw_p27, List.forall_mem_cons.mpr ⟨lw_p28, List.forall_mem_cons.mpr ⟨lw_p29, List.forall_mem_cons.mpr ⟨lw_p30, List.forall_mem_cons.mpr ⟨lw_p31, fun _ h => absurd h List.not_mem_nil⟩⟩⟩⟩⟩⟩⟩⟩⟩⟩⟩⟩⟩⟩⟩⟩
theorem lw_p32 : lw_okq (⟨"ForgettingLinesModel", "isLeast", "(I)Z"⟩, 25) := ⟨⟨by decide +kernel, by decide +kernel⟩, List.mem_of_getElem? (i := 497) (by decide +kernel), List.mem_of_getElem? (i := 719) (by decide +kernel), List.mem_of_getElem? (i := 720) (by decide +kernel)⟩
theorem lw_p33 : lw_okq (⟨"ForgettingLinesModel", "nearest", "()I"⟩, 25) := ⟨⟨by decide +kernel, by decide +kernel⟩, List.mem_of_getElem? (i := 497) (by decide +kernel), List.mem_of_getElem? (i := 735) (by decide +kernel), List.mem_of_getElem? (i := 736) (by decide +kernel)⟩
theorem lw_p34 : lw_okq (⟨"ForgettingLinesModel", "isLong", "(II)Z"⟩, 25) := ⟨⟨by decide +kernel, by decide +kernel⟩, List.mem_of_getElem? (i := 497) (by decide +kernel), List.mem_of_getElem? (i := 747) (by decide +kernel), List.mem_of_getElem? (i := 748) (by decide +kernel)⟩
theorem lw_p35 : lw_okq (⟨"ForgettingLinesModel", "wholeCode", "(I)I"⟩, 25) := ⟨⟨by decide +kernel, by decide +kernel⟩, List.mem_of_getElem? (i := 497) (by decide +kernel), List.mem_of_getElem? (i := 751) (by decide +kernel), List.mem_of_getElem? (i := 752) (by decide +kernel)⟩
theorem lw_p36 : lw_okq (⟨"ForgettingLinesModel", "codeOf", "(II)I"⟩, 25) := ⟨⟨by decide +kernel, by decide +kernel⟩, List.mem_of_getElem? (i := 497) (by decide +kernel), List.mem_of_getElem? (i := 755) (by decide +kernel), List.mem_of_getElem? (i := 756) (by decide +kernel)⟩
theorem lw_p37 : lw_okq (⟨"ForgettingLinesModel", "lay", "(I)V"⟩, 25) := ⟨⟨by decide +kernel, by decide +kernel⟩, List.mem_of_getElem? (i := 497) (by decide +kernel), List.mem_of_getElem? (i := 759) (by decide +kernel), List.mem_of_getElem? (i := 760) (by decide +kernel)⟩
theorem lw_p38 : lw_okq (⟨"ForgettingLinesModel", "decode", "(III)V"⟩, 25) := ⟨⟨by decide +kernel, by decide +kernel⟩, List.mem_of_getElem? (i := 497) (by decide +kernel), List.mem_of_getElem? (i := 763) (by decide +kernel), List.mem_of_getElem? (i := 764) (by decide +kernel)⟩
theorem lw_p39 : lw_okq (⟨"ForgettingLinesModel", "goes", "(II)Z"⟩, 25) := ⟨⟨by decide +kernel, by decide +kernel⟩, List.mem_of_getElem? (i := 497) (by decide +kernel), List.mem_of_getElem? (i := 767) (by decide +kernel), List.mem_of_getElem? (i := 768) (by decide +kernel)⟩
def lw_privs_3 : List (MethodName × Nat) := [(⟨"ForgettingLinesModel", "isLeast", "(I)Z"⟩, 25), (⟨"ForgettingLinesModel", "nearest", "()I"⟩, 25), (⟨"ForgettingLinesModel", "isLong", "(II)Z"⟩, 25), (⟨"ForgettingLinesModel", "wholeCode", "(I)I"⟩, 25), (⟨"ForgettingLinesModel", "codeOf", "(II)I"⟩, 25), (⟨"ForgettingLinesModel", "lay", "(I)V"⟩, 25), (⟨"ForgettingLinesModel", "decode", "(III)V"⟩, 25), (⟨"ForgettingLinesModel", "goes", "(II)Z"⟩, 25)]
theorem lw_r3 : ∀ q ∈ lw_privs_3, lw_okq q := List.forall_mem_cons.mpr ⟨lw_p32, List.forall_mem_cons.mpr ⟨lw_p33, List.forall_mem_cons.mpr ⟨lw_p34, List.forall_mem_cons.mpr ⟨lw_p35, List.forall_mem_cons.mpr ⟨lw_p36, List.forall_mem_cons.mpr ⟨lw_p37, List.forall_mem_cons.mpr ⟨lw_p38, List.forall_mem_cons.mpr ⟨lw_p39, fun _ h => absurd h List.not_mem_nil⟩⟩⟩⟩⟩⟩⟩⟩
def lw_privs : List (MethodName × Nat) := lw_privs_1 ++ (lw_privs_2 ++ (lw_privs_3))
def lw_tbl : List Cond := k2_sels lw_privs ++ tables_1
theorem lw_privs_ok : ∀ q ∈ lw_privs, lw_okq q := by
  show ∀ q ∈ lw_privs_1 ++ (lw_privs_2 ++ (lw_privs_3)), lw_okq q
  exact List.forall_mem_append.mpr ⟨lw_r1, List.forall_mem_append.mpr ⟨lw_r2, lw_r3⟩⟩
end
section
/-! ===== BEGIN words of one list among another's, by their places ===== -/
theorem goodIn_r {big : List Cond} (ws : List Cond) (ps : List Nat) (hp : ws = ps.filterMap (fun i => big[i]?)) (h : ws.all goodWord = true) : GoodIn big ws := by
  intro w hw
  have h1 := List.all_eq_true.mp h w hw
  rw [hp] at hw
  obtain ⟨i, -, hi⟩ := List.mem_filterMap.mp hw
  have hm : w ∈ big := by first | exact List.mem_of_getElem? hi | exact List.getElem?_mem hi
  exact ⟨hm, good_of_word h1⟩
theorem goodIn_app {big a b : List Cond} (ha : GoodIn big a) (hb : GoodIn big b) : GoodIn big (a ++ b) := fun w h => (List.mem_append.mp h).elim (ha w) (hb w)
theorem goodIn_ca {big a b : List Cond} {c : Cond} (ha : GoodIn big (c :: a)) (hb : GoodIn big b) : GoodIn big (c :: (a ++ b)) := fun w h => (List.mem_cons.mp h).elim (fun e => ha w (List.mem_cons.mpr (Or.inl e))) (fun h => (List.mem_append.mp h).elim (fun h => ha w (List.mem_cons.mpr (Or.inr h))) (hb w))
theorem goodIn_sub {big ws : List Cond} (hm : ∀ w ∈ ws, w ∈ big) (h : ws.all goodWord = true) : GoodIn big ws := fun w hw => ⟨hm w hw, good_of_word (List.all_eq_true.mp h w hw)⟩
/-! ===== END ===== -/

/-! ===== BEGIN printed: names, fields, word lists, decode rows ===== -/
def RX0 : String := "ForgettingLines$Machine"
def TX0 : u_T := fun k => match k with
  | 0 => ("ForgettingLines$Machine", "states", "I", false)
  | 1 => ("ForgettingLines$Machine", "count", "I", false)
  | 2 => ("ForgettingLines$Machine", "isBag", "[Z", true)
  | _ => ("ForgettingLines$Machine", "rows", "[I", true)
def tyX0 : Nat → FieldType := fun k => match k with
  | 0 => .int
  | 1 => .int
  | 2 => .array .boolean
  | _ => .array .int
abbrev wsX00 : List Cond := u_ws RX0 TX0 4
theorem nmX0 : ∀ a, a < 4 → ∀ b, b < 4 → a ≠ b → (TX0 a).2.1 ≠ (TX0 b).2.1 := by decide +kernel
theorem tyX0_ok : ∀ k, k < 4 → parseFieldDescriptor (TX0 k).2.2.1 = some (tyX0 k) := by decide +kernel
abbrev cX0_init : ByteArray := prog_2_method_1_code
def yX0_init : MethodName := ⟨RX0, "<init>", "()V"⟩
abbrev cX0_part : ByteArray := prog_2_method_2_code
def yX0_part : MethodName := ⟨RX0, "part", "(II)I"⟩
abbrev cX0_canHave : ByteArray := prog_2_method_3_code
def yX0_canHave : MethodName := ⟨RX0, "canHave", "(IIIII)Z"⟩
abbrev cX0_canHaveAll : ByteArray := prog_2_method_4_code
def yX0_canHaveAll : MethodName := ⟨RX0, "canHaveAll", "([III)Z"⟩
abbrev cX0_add : ByteArray := prog_2_method_5_code
def yX0_add : MethodName := ⟨RX0, "add", "(IIIII)V"⟩
abbrev cX0_addAll : ByteArray := prog_2_method_6_code
def yX0_addAll : MethodName := ⟨RX0, "addAll", "([III)V"⟩
abbrev cX0_replace : ByteArray := prog_2_method_7_code
def yX0_replace : MethodName := ⟨RX0, "replace", "([II)V"⟩
abbrev cX0_wordWith : ByteArray := prog_2_method_8_code
def yX0_wordWith : MethodName := ⟨RX0, "wordWith", "(III)I"⟩
abbrev cX0_wordBehind : ByteArray := prog_2_method_9_code
def yX0_wordBehind : MethodName := ⟨RX0, "wordBehind", "(II)I"⟩
abbrev cX0_wordAhead : ByteArray := prog_2_method_10_code
def yX0_wordAhead : MethodName := ⟨RX0, "wordAhead", "(II)I"⟩
def RX1 : String := "ForgettingLines$Place"
def TX1 : u_T := fun k => match k with
  | 0 => ("ForgettingLines$Place", "state", "I", false)
  | _ => ("ForgettingLines$Place", "words", "[I", true)
def tyX1 : Nat → FieldType := fun k => match k with
  | 0 => .int
  | _ => .array .int
abbrev wsX10 : List Cond := u_ws RX1 TX1 2
theorem nmX1 : ∀ a, a < 2 → ∀ b, b < 2 → a ≠ b → (TX1 a).2.1 ≠ (TX1 b).2.1 := by decide +kernel
theorem tyX1_ok : ∀ k, k < 2 → parseFieldDescriptor (TX1 k).2.2.1 = some (tyX1 k) := by decide +kernel
abbrev cX1_init : ByteArray := prog_3_method_1_code
def yX1_init : MethodName := ⟨RX1, "<init>", "()V"⟩
abbrev cX1_clear : ByteArray := prog_3_method_2_code
def yX1_clear : MethodName := ⟨RX1, "clear", "(I)V"⟩
abbrev cX1_isLonger : ByteArray := prog_3_method_3_code
def yX1_isLonger : MethodName := ⟨RX1, "isLonger", "(I)Z"⟩
def RX2 : String := "ForgettingLines$Search"
def TX2 : u_T := fun k => match k with
  | 0 => ("ForgettingLines$Search", "count", "I", false)
  | 1 => ("ForgettingLines$Search", "spent", "Z", false)
  | 2 => ("ForgettingLines$Search", "rounds", "[I", true)
  | 3 => ("ForgettingLines$Search", "states", "[I", true)
  | 4 => ("ForgettingLines$Search", "words0", "[I", true)
  | 5 => ("ForgettingLines$Search", "words1", "[I", true)
  | 6 => ("ForgettingLines$Search", "arcs", "[I", true)
  | _ => ("ForgettingLines$Search", "origins", "[I", true)
def tyX2 : Nat → FieldType := fun k => match k with
  | 0 => .int
  | 1 => .boolean
  | 2 => .array .int
  | 3 => .array .int
  | 4 => .array .int
  | 5 => .array .int
  | 6 => .array .int
  | _ => .array .int
abbrev wsX20 : List Cond := u_ws RX2 TX2 8
theorem nmX2 : ∀ a, a < 8 → ∀ b, b < 8 → a ≠ b → (TX2 a).2.1 ≠ (TX2 b).2.1 := by decide +kernel
theorem tyX2_ok : ∀ k, k < 8 → parseFieldDescriptor (TX2 k).2.2.1 = some (tyX2 k) := by decide +kernel
abbrev cX2_init : ByteArray := prog_4_method_1_code
def yX2_init : MethodName := ⟨RX2, "<init>", "()V"⟩
abbrev cX2_run : ByteArray := prog_4_method_2_code
def yX2_run : MethodName := ⟨RX2, "run", "(LForgettingLines$Machine;LForgettingLines$Place;)V"⟩
abbrev cX2_lookAhead : ByteArray := prog_4_method_3_code
def yX2_lookAhead : MethodName := ⟨RX2, "lookAhead", "(LForgettingLines$Machine;II)V"⟩
abbrev cX2_add : ByteArray := prog_4_method_4_code
def yX2_add : MethodName := ⟨RX2, "add", "(IIIII)V"⟩
abbrev cX2_firstBelow : ByteArray := prog_4_method_5_code
def yX2_firstBelow : MethodName := ⟨RX2, "firstBelow", "(III)I"⟩
abbrev cX2_isBelowPlace : ByteArray := prog_4_method_6_code
def yX2_isBelowPlace : MethodName := ⟨RX2, "isBelowPlace", "(IIII)Z"⟩
abbrev cX2_isLeast : ByteArray := prog_4_method_7_code
def yX2_isLeast : MethodName := ⟨RX2, "isLeast", "(I)Z"⟩
abbrev cX2_countLeast : ByteArray := prog_4_method_8_code
def yX2_countLeast : MethodName := ⟨RX2, "countLeast", "()I"⟩
abbrev cX2_wordOf : ByteArray := prog_4_method_9_code
def yX2_wordOf : MethodName := ⟨RX2, "wordOf", "(II)I"⟩
abbrev cX2_fact : ByteArray := prog_4_method_10_code
def yX2_fact : MethodName := ⟨RX2, "fact", "(II)I"⟩
abbrev cX2_arcOfWay : ByteArray := prog_4_method_11_code
def yX2_arcOfWay : MethodName := ⟨RX2, "arcOfWay", "(II)I"⟩
def RX3 : String := "ForgettingLines$Sheet"
def TX3 : u_T := fun k => match k with
  | 0 => ("ForgettingLines$Sheet", "held", "Z", false)
  | 1 => ("ForgettingLines$Sheet", "size", "I", false)
  | 2 => ("ForgettingLines$Sheet", "items", "[I", true)
  | _ => ("ForgettingLines$Sheet", "lane", "I", false)
def tyX3 : Nat → FieldType := fun k => match k with
  | 0 => .boolean
  | 1 => .int
  | 2 => .array .int
  | _ => .int
abbrev wsX30 : List Cond := u_ws RX3 TX3 4
theorem nmX3 : ∀ a, a < 4 → ∀ b, b < 4 → a ≠ b → (TX3 a).2.1 ≠ (TX3 b).2.1 := by decide +kernel
theorem tyX3_ok : ∀ k, k < 4 → parseFieldDescriptor (TX3 k).2.2.1 = some (tyX3 k) := by decide +kernel
abbrev cX3_init : ByteArray := prog_5_method_1_code
def yX3_init : MethodName := ⟨RX3, "<init>", "()V"⟩
abbrev cX3_hold : ByteArray := prog_5_method_2_code
def yX3_hold : MethodName := ⟨RX3, "hold", "(II)V"⟩
abbrev cX3_faultAs : ByteArray := prog_5_method_3_code
def yX3_faultAs : MethodName := ⟨RX3, "faultAs", "(I)I"⟩
abbrev cX3_put : ByteArray := prog_5_method_4_code
def yX3_put : MethodName := ⟨RX3, "put", "(II)V"⟩
def RX4 : String := "ForgettingLines$Tape"
def TX4 : u_T := fun k => match k with
  | 0 => ("ForgettingLines$Tape", "size", "I", false)
  | 1 => ("ForgettingLines$Tape", "rows", "[I", true)
  | 2 => ("ForgettingLines$Tape", "bytes", "[B", true)
  | _ => ("ForgettingLines$Tape", "at", "I", false)
def tyX4 : Nat → FieldType := fun k => match k with
  | 0 => .int
  | 1 => .array .int
  | 2 => .array .byte
  | _ => .int
abbrev wsX40 : List Cond := u_ws RX4 TX4 4
theorem nmX4 : ∀ a, a < 4 → ∀ b, b < 4 → a ≠ b → (TX4 a).2.1 ≠ (TX4 b).2.1 := by decide +kernel
theorem tyX4_ok : ∀ k, k < 4 → parseFieldDescriptor (TX4 k).2.2.1 = some (tyX4 k) := by decide +kernel
abbrev cX4_init : ByteArray := prog_6_method_1_code
def yX4_init : MethodName := ⟨RX4, "<init>", "()V"⟩
abbrev cX4_canHave : ByteArray := prog_6_method_2_code
def yX4_canHave : MethodName := ⟨RX4, "canHave", "(JI)Z"⟩
abbrev cX4_byteOf : ByteArray := prog_6_method_3_code
def yX4_byteOf : MethodName := ⟨RX4, "byteOf", "(JI)I"⟩
abbrev cX4_add : ByteArray := prog_6_method_4_code
def yX4_add : MethodName := ⟨RX4, "add", "(JI)V"⟩
abbrev cX4_parse : ByteArray := prog_6_method_5_code
def yX4_parse : MethodName := ⟨RX4, "parse", "(I)I"⟩
abbrev cX4_parseArc : ByteArray := prog_6_method_6_code
def yX4_parseArc : MethodName := ⟨RX4, "parseArc", "(II)Z"⟩
abbrev cX4_parseLetterAndLine : ByteArray := prog_6_method_7_code
def yX4_parseLetterAndLine : MethodName := ⟨RX4, "parseLetterAndLine", "(I)Z"⟩
abbrev cX4_parseAct : ByteArray := prog_6_method_8_code
def yX4_parseAct : MethodName := ⟨RX4, "parseAct", "()I"⟩
abbrev cX4_oneOf : ByteArray := prog_6_method_9_code
def yX4_oneOf : MethodName := ⟨RX4, "oneOf", "(CI)I"⟩
abbrev cX4_skipBlanks : ByteArray := prog_6_method_10_code
def yX4_skipBlanks : MethodName := ⟨RX4, "skipBlanks", "()V"⟩
def RX5 : String := "ForgettingLines$Walk"
def TX5 : u_T := fun k => match k with
  | 0 => ("ForgettingLines$Walk", "seen", "[J", true)
  | 1 => ("ForgettingLines$Walk", "queue", "[I", true)
  | _ => ("ForgettingLines$Walk", "tail", "I", false)
def tyX5 : Nat → FieldType := fun k => match k with
  | 0 => .array .long
  | 1 => .array .int
  | _ => .int
abbrev wsX50 : List Cond := u_ws RX5 TX5 3
theorem nmX5 : ∀ a, a < 3 → ∀ b, b < 3 → a ≠ b → (TX5 a).2.1 ≠ (TX5 b).2.1 := by decide +kernel
theorem tyX5_ok : ∀ k, k < 3 → parseFieldDescriptor (TX5 k).2.2.1 = some (tyX5 k) := by decide +kernel
abbrev cX5_init : ByteArray := prog_7_method_1_code
def yX5_init : MethodName := ⟨RX5, "<init>", "()V"⟩
abbrev cX5_fewest : ByteArray := prog_7_method_2_code
def yX5_fewest : MethodName := ⟨RX5, "fewest", "(LForgettingLines$Machine;LForgettingLines$Place;LForgettingLines$Place;I)I"⟩
abbrev cX5_add : ByteArray := prog_7_method_3_code
def yX5_add : MethodName := ⟨RX5, "add", "(III)V"⟩
abbrev cX5_stateOf : ByteArray := prog_7_method_4_code
def yX5_stateOf : MethodName := ⟨RX5, "stateOf", "(I)I"⟩
abbrev cX5_wordOf : ByteArray := prog_7_method_5_code
def yX5_wordOf : MethodName := ⟨RX5, "wordOf", "(II)I"⟩
abbrev cX5_isAimed : ByteArray := prog_7_method_6_code
def yX5_isAimed : MethodName := ⟨RX5, "isAimed", "(ILForgettingLines$Place;)Z"⟩
abbrev cX5_goOn : ByteArray := prog_7_method_7_code
def yX5_goOn : MethodName := ⟨RX5, "goOn", "(LForgettingLines$Machine;II)V"⟩
abbrev cX5_goBy : ByteArray := prog_7_method_8_code
def yX5_goBy : MethodName := ⟨RX5, "goBy", "(LForgettingLines$Machine;III)V"⟩
def RX6 : String := "ForgettingLines$Words"
def TX6 : u_T := fun k => match k with
  | _ => ("", "", "", false)
def tyX6 : Nat → FieldType := fun k => match k with
  | _ => .int
abbrev wsX60 : List Cond := u_ws RX6 TX6 0
theorem nmX6 : ∀ a, a < 0 → ∀ b, b < 0 → a ≠ b → (TX6 a).2.1 ≠ (TX6 b).2.1 := by decide +kernel
theorem tyX6_ok : ∀ k, k < 0 → parseFieldDescriptor (TX6 k).2.2.1 = some (tyX6 k) := by decide +kernel
abbrev cX6_size : ByteArray := prog_8_method_2_code
def yX6_size : MethodName := ⟨RX6, "size", "(I)I"⟩
abbrev cX6_isLonger : ByteArray := prog_8_method_3_code
def yX6_isLonger : MethodName := ⟨RX6, "isLonger", "(II)Z"⟩
abbrev cX6_at : ByteArray := prog_8_method_4_code
def yX6_at : MethodName := ⟨RX6, "at", "(II)I"⟩
abbrev cX6_with : ByteArray := prog_8_method_5_code
def yX6_with : MethodName := ⟨RX6, "with", "(III)I"⟩
abbrev cX6_without : ByteArray := prog_8_method_6_code
def yX6_without : MethodName := ⟨RX6, "without", "(II)I"⟩
abbrev cX6_find : ByteArray := prog_8_method_7_code
def yX6_find : MethodName := ⟨RX6, "find", "(II)I"⟩
abbrev cX6_placeInOrder : ByteArray := prog_8_method_8_code
def yX6_placeInOrder : MethodName := ⟨RX6, "placeInOrder", "(II)I"⟩
abbrev cX6_isIn : ByteArray := prog_8_method_9_code
def yX6_isIn : MethodName := ⟨RX6, "isIn", "(II)Z"⟩
def RX7 : String := "ForgettingLines"
def TX7 : u_T := fun k => match k with
  | 0 => ("ForgettingLines", "machine", "LForgettingLines$Machine;", true)
  | 1 => ("ForgettingLines", "tape", "LForgettingLines$Tape;", true)
  | 2 => ("ForgettingLines", "here", "LForgettingLines$Place;", true)
  | 3 => ("ForgettingLines", "target", "LForgettingLines$Place;", true)
  | 4 => ("ForgettingLines", "search", "LForgettingLines$Search;", true)
  | 5 => ("ForgettingLines", "walk", "LForgettingLines$Walk;", true)
  | 6 => ("ForgettingLines", "sheets", "[LForgettingLines$Sheet;", true)
  | _ => ("ForgettingLines", "searched", "Z", false)
def tyX7 : Nat → FieldType := fun k => match k with
  | 0 => .object "ForgettingLines$Machine"
  | 1 => .object "ForgettingLines$Tape"
  | 2 => .object "ForgettingLines$Place"
  | 3 => .object "ForgettingLines$Place"
  | 4 => .object "ForgettingLines$Search"
  | 5 => .object "ForgettingLines$Walk"
  | 6 => .array (.object "ForgettingLines$Sheet")
  | _ => .boolean
abbrev wsX70 : List Cond := u_ws RX7 TX7 8
theorem nmX7 : ∀ a, a < 8 → ∀ b, b < 8 → a ≠ b → (TX7 a).2.1 ≠ (TX7 b).2.1 := by decide +kernel
theorem tyX7_ok : ∀ k, k < 8 → parseFieldDescriptor (TX7 k).2.2.1 = some (tyX7 k) := by decide +kernel
abbrev cX7_init : ByteArray := prog_1_method_1_code
def yX7_init : MethodName := ⟨RX7, "<init>", "()V"⟩
abbrev cX7_states : ByteArray := prog_1_method_2_code
def yX7_states : MethodName := ⟨RX7, "states", "(I)I"⟩
abbrev cX7_bag : ByteArray := prog_1_method_3_code
def yX7_bag : MethodName := ⟨RX7, "bag", "(IZ)I"⟩
abbrev cX7_arc : ByteArray := prog_1_method_4_code
def yX7_arc : MethodName := ⟨RX7, "arc", "(IIIII)I"⟩
abbrev cX7_unarc : ByteArray := prog_1_method_5_code
def yX7_unarc : MethodName := ⟨RX7, "unarc", "()I"⟩
abbrev cX7_told : ByteArray := prog_1_method_6_code
def yX7_told : MethodName := ⟨RX7, "told", "(II)I"⟩
abbrev cX7_type : ByteArray := prog_1_method_7_code
def yX7_type : MethodName := ⟨RX7, "type", "(JI)I"⟩
abbrev cX7_read : ByteArray := prog_1_method_8_code
def yX7_read : MethodName := ⟨RX7, "read", "()I"⟩
abbrev cX7_arcs : ByteArray := prog_1_method_9_code
def yX7_arcs : MethodName := ⟨RX7, "arcs", "(IIII)I"⟩
abbrev cX7_go : ByteArray := prog_1_method_10_code
def yX7_go : MethodName := ⟨RX7, "go", "(I)I"⟩
abbrev cX7_lose : ByteArray := prog_1_method_11_code
def yX7_lose : MethodName := ⟨RX7, "lose", "(II)I"⟩
abbrev cX7_now : ByteArray := prog_1_method_12_code
def yX7_now : MethodName := ⟨RX7, "now", "(II)I"⟩
abbrev cX7_reset : ByteArray := prog_1_method_13_code
def yX7_reset : MethodName := ⟨RX7, "reset", "()I"⟩
abbrev cX7_aim : ByteArray := prog_1_method_14_code
def yX7_aim : MethodName := ⟨RX7, "aim", "(I)I"⟩
abbrev cX7_want : ByteArray := prog_1_method_15_code
def yX7_want : MethodName := ⟨RX7, "want", "(II)I"⟩
abbrev cX7_found : ByteArray := prog_1_method_16_code
def yX7_found : MethodName := ⟨RX7, "found", "()I"⟩
abbrev cX7_about : ByteArray := prog_1_method_17_code
def yX7_about : MethodName := ⟨RX7, "about", "(II)I"⟩
abbrev cX7_letter : ByteArray := prog_1_method_18_code
def yX7_letter : MethodName := ⟨RX7, "letter", "(III)I"⟩
abbrev cX7_least : ByteArray := prog_1_method_19_code
def yX7_least : MethodName := ⟨RX7, "least", "()I"⟩
abbrev cX7_far : ByteArray := prog_1_method_20_code
def yX7_far : MethodName := ⟨RX7, "far", "()I"⟩
abbrev cX7_way : ByteArray := prog_1_method_21_code
def yX7_way : MethodName := ⟨RX7, "way", "(I)I"⟩
abbrev cX7_strict : ByteArray := prog_1_method_22_code
def yX7_strict : MethodName := ⟨RX7, "strict", "(I)I"⟩
abbrev cX7_sheet : ByteArray := prog_1_method_23_code
def yX7_sheet : MethodName := ⟨RX7, "sheet", "(III)I"⟩
abbrev cX7_drop : ByteArray := prog_1_method_24_code
def yX7_drop : MethodName := ⟨RX7, "drop", "(I)I"⟩
abbrev cX7_item : ByteArray := prog_1_method_25_code
def yX7_item : MethodName := ⟨RX7, "item", "(IIII)I"⟩
abbrev cX7_isAmong : ByteArray := prog_1_method_26_code
def yX7_isAmong : MethodName := ⟨RX7, "isAmong", "(II)Z"⟩
abbrev cX7_startAgain : ByteArray := prog_1_method_27_code
def yX7_startAgain : MethodName := ⟨RX7, "startAgain", "()V"⟩
abbrev cX7_searchOnce : ByteArray := prog_1_method_28_code
def yX7_searchOnce : MethodName := ⟨RX7, "searchOnce", "()V"⟩
def RX8 : String := "ForgettingLinesModel"
def TX8 : u_T := fun k => match k with
  | 0 => ("ForgettingLinesModel", "states", "I", false)
  | 1 => ("ForgettingLinesModel", "bags", "[Z", true)
  | 2 => ("ForgettingLinesModel", "arcs", "I", false)
  | 3 => ("ForgettingLinesModel", "froms", "[I", true)
  | 4 => ("ForgettingLinesModel", "acts", "[I", true)
  | 5 => ("ForgettingLinesModel", "lines", "[I", true)
  | 6 => ("ForgettingLinesModel", "letters", "[I", true)
  | 7 => ("ForgettingLinesModel", "tos", "[I", true)
  | 8 => ("ForgettingLinesModel", "tape", "[I", true)
  | 9 => ("ForgettingLinesModel", "taped", "I", false)
  | 10 => ("ForgettingLinesModel", "at", "I", false)
  | 11 => ("ForgettingLinesModel", "isWrong", "Z", false)
  | 12 => ("ForgettingLinesModel", "readArcs", "[I", true)
  | 13 => ("ForgettingLinesModel", "stateOf", "[I", true)
  | 14 => ("ForgettingLinesModel", "sizes", "[I", true)
  | 15 => ("ForgettingLinesModel", "words", "[I", true)
  | 16 => ("ForgettingLinesModel", "many", "I", false)
  | 17 => ("ForgettingLinesModel", "rounds", "[I", true)
  | 18 => ("ForgettingLinesModel", "byArc", "[I", true)
  | 19 => ("ForgettingLinesModel", "aheadOf", "[I", true)
  | 20 => ("ForgettingLinesModel", "queue", "[I", true)
  | 21 => ("ForgettingLinesModel", "steps", "[I", true)
  | 22 => ("ForgettingLinesModel", "lanes", "[I", true)
  | 23 => ("ForgettingLinesModel", "longs", "[I", true)
  | _ => ("ForgettingLinesModel", "items", "[I", true)
def tyX8 : Nat → FieldType := fun k => match k with
  | 0 => .int
  | 1 => .array .boolean
  | 2 => .int
  | 3 => .array .int
  | 4 => .array .int
  | 5 => .array .int
  | 6 => .array .int
  | 7 => .array .int
  | 8 => .array .int
  | 9 => .int
  | 10 => .int
  | 11 => .boolean
  | 12 => .array .int
  | 13 => .array .int
  | 14 => .array .int
  | 15 => .array .int
  | 16 => .int
  | 17 => .array .int
  | 18 => .array .int
  | 19 => .array .int
  | 20 => .array .int
  | 21 => .array .int
  | 22 => .array .int
  | 23 => .array .int
  | _ => .array .int
abbrev wsX80 : List Cond := u_ws RX8 TX8 25
theorem nmX8 : ∀ a, a < 25 → ∀ b, b < 25 → a ≠ b → (TX8 a).2.1 ≠ (TX8 b).2.1 := by decide +kernel
theorem tyX8_ok : ∀ k, k < 25 → parseFieldDescriptor (TX8 k).2.2.1 = some (tyX8 k) := by decide +kernel
abbrev cX8_in : ByteArray := prog_10_method_2_code
def yX8_in : MethodName := ⟨RX8, "in", "(III)Z"⟩
abbrev cX8_init : ByteArray := prog_10_method_3_code
def yX8_init : MethodName := ⟨RX8, "<init>", "()V"⟩
abbrev cX8_empty : ByteArray := prog_10_method_4_code
def yX8_empty : MethodName := ⟨RX8, "empty", "(II)V"⟩
abbrev cX8_states : ByteArray := prog_10_method_5_code
def yX8_states : MethodName := ⟨RX8, "states", "(I)I"⟩
abbrev cX8_bag : ByteArray := prog_10_method_6_code
def yX8_bag : MethodName := ⟨RX8, "bag", "(IZ)I"⟩
abbrev cX8_isState : ByteArray := prog_10_method_7_code
def yX8_isState : MethodName := ⟨RX8, "isState", "(I)Z"⟩
abbrev cX8_isGood : ByteArray := prog_10_method_8_code
def yX8_isGood : MethodName := ⟨RX8, "isGood", "(IIIII)Z"⟩
abbrev cX8_put : ByteArray := prog_10_method_9_code
def yX8_put : MethodName := ⟨RX8, "put", "(IIIII)V"⟩
abbrev cX8_arc : ByteArray := prog_10_method_10_code
def yX8_arc : MethodName := ⟨RX8, "arc", "(IIIII)I"⟩
abbrev cX8_unarc : ByteArray := prog_10_method_11_code
def yX8_unarc : MethodName := ⟨RX8, "unarc", "()I"⟩
abbrev cX8_isArc : ByteArray := prog_10_method_12_code
def yX8_isArc : MethodName := ⟨RX8, "isArc", "(I)Z"⟩
abbrev cX8_told : ByteArray := prog_10_method_13_code
def yX8_told : MethodName := ⟨RX8, "told", "(II)I"⟩
abbrev cX8_type : ByteArray := prog_10_method_14_code
def yX8_type : MethodName := ⟨RX8, "type", "(JI)I"⟩
abbrev cX8_next : ByteArray := prog_10_method_15_code
def yX8_next : MethodName := ⟨RX8, "next", "()I"⟩
abbrev cX8_passed : ByteArray := prog_10_method_16_code
def yX8_passed : MethodName := ⟨RX8, "passed", "(II)I"⟩
abbrev cX8_act : ByteArray := prog_10_method_17_code
def yX8_act : MethodName := ⟨RX8, "act", "()I"⟩
abbrev cX8_read : ByteArray := prog_10_method_18_code
def yX8_read : MethodName := ⟨RX8, "read", "()I"⟩
abbrev cX8_spot : ByteArray := prog_10_method_19_code
def yX8_spot : MethodName := ⟨RX8, "spot", "(III)I"⟩
abbrev cX8_copy : ByteArray := prog_10_method_20_code
def yX8_copy : MethodName := ⟨RX8, "copy", "(II)V"⟩
abbrev cX8_takeOut : ByteArray := prog_10_method_21_code
def yX8_takeOut : MethodName := ⟨RX8, "takeOut", "(III)V"⟩
abbrev cX8_putIn : ByteArray := prog_10_method_22_code
def yX8_putIn : MethodName := ⟨RX8, "putIn", "(IIII)V"⟩
abbrev cX8_inOrder : ByteArray := prog_10_method_23_code
def yX8_inOrder : MethodName := ⟨RX8, "inOrder", "(III)I"⟩
abbrev cX8_firstOf : ByteArray := prog_10_method_24_code
def yX8_firstOf : MethodName := ⟨RX8, "firstOf", "(III)I"⟩
abbrev cX8_isBelow : ByteArray := prog_10_method_25_code
def yX8_isBelow : MethodName := ⟨RX8, "isBelow", "(II)Z"⟩
abbrev cX8_go : ByteArray := prog_10_method_26_code
def yX8_go : MethodName := ⟨RX8, "go", "(I)I"⟩
abbrev cX8_lose : ByteArray := prog_10_method_27_code
def yX8_lose : MethodName := ⟨RX8, "lose", "(II)I"⟩
abbrev cX8_now : ByteArray := prog_10_method_28_code
def yX8_now : MethodName := ⟨RX8, "now", "(II)I"⟩
abbrev cX8_reset : ByteArray := prog_10_method_29_code
def yX8_reset : MethodName := ⟨RX8, "reset", "()I"⟩
abbrev cX8_aim : ByteArray := prog_10_method_30_code
def yX8_aim : MethodName := ⟨RX8, "aim", "(I)I"⟩
abbrev cX8_want : ByteArray := prog_10_method_31_code
def yX8_want : MethodName := ⟨RX8, "want", "(II)I"⟩
abbrev cX8_ahead : ByteArray := prog_10_method_32_code
def yX8_ahead : MethodName := ⟨RX8, "ahead", "(II)V"⟩
abbrev cX8_isNew : ByteArray := prog_10_method_33_code
def yX8_isNew : MethodName := ⟨RX8, "isNew", "()Z"⟩
abbrev cX8_find : ByteArray := prog_10_method_34_code
def yX8_find : MethodName := ⟨RX8, "find", "(III)V"⟩
abbrev cX8_search : ByteArray := prog_10_method_35_code
def yX8_search : MethodName := ⟨RX8, "search", "()Z"⟩
abbrev cX8_isLeast : ByteArray := prog_10_method_36_code
def yX8_isLeast : MethodName := ⟨RX8, "isLeast", "(I)Z"⟩
abbrev cX8_found : ByteArray := prog_10_method_37_code
def yX8_found : MethodName := ⟨RX8, "found", "()I"⟩
abbrev cX8_about : ByteArray := prog_10_method_38_code
def yX8_about : MethodName := ⟨RX8, "about", "(II)I"⟩
abbrev cX8_letter : ByteArray := prog_10_method_39_code
def yX8_letter : MethodName := ⟨RX8, "letter", "(III)I"⟩
abbrev cX8_least : ByteArray := prog_10_method_40_code
def yX8_least : MethodName := ⟨RX8, "least", "()I"⟩
abbrev cX8_nearest : ByteArray := prog_10_method_41_code
def yX8_nearest : MethodName := ⟨RX8, "nearest", "()I"⟩
abbrev cX8_far : ByteArray := prog_10_method_42_code
def yX8_far : MethodName := ⟨RX8, "far", "()I"⟩
abbrev cX8_way : ByteArray := prog_10_method_43_code
def yX8_way : MethodName := ⟨RX8, "way", "(I)I"⟩
abbrev cX8_codeOf : ByteArray := prog_10_method_44_code
def yX8_codeOf : MethodName := ⟨RX8, "codeOf", "(II)I"⟩
abbrev cX8_decode : ByteArray := prog_10_method_45_code
def yX8_decode : MethodName := ⟨RX8, "decode", "(III)V"⟩
abbrev cX8_wholeCode : ByteArray := prog_10_method_46_code
def yX8_wholeCode : MethodName := ⟨RX8, "wholeCode", "(I)I"⟩
abbrev cX8_goes : ByteArray := prog_10_method_47_code
def yX8_goes : MethodName := ⟨RX8, "goes", "(II)Z"⟩
abbrev cX8_isLong : ByteArray := prog_10_method_48_code
def yX8_isLong : MethodName := ⟨RX8, "isLong", "(II)Z"⟩
abbrev cX8_strict : ByteArray := prog_10_method_49_code
def yX8_strict : MethodName := ⟨RX8, "strict", "(I)I"⟩
abbrev cX8_lay : ByteArray := prog_10_method_50_code
def yX8_lay : MethodName := ⟨RX8, "lay", "(I)V"⟩
abbrev cX8_isSheet : ByteArray := prog_10_method_51_code
def yX8_isSheet : MethodName := ⟨RX8, "isSheet", "(I)Z"⟩
abbrev cX8_sheet : ByteArray := prog_10_method_52_code
def yX8_sheet : MethodName := ⟨RX8, "sheet", "(III)I"⟩
abbrev cX8_drop : ByteArray := prog_10_method_53_code
def yX8_drop : MethodName := ⟨RX8, "drop", "(I)I"⟩
abbrev cX8_item : ByteArray := prog_10_method_54_code
def yX8_item : MethodName := ⟨RX8, "item", "(IIII)I"⟩
abbrev cX8_arcs : ByteArray := prog_10_method_55_code
def yX8_arcs : MethodName := ⟨RX8, "arcs", "(IIII)I"⟩
def RJ7 : String := "java/util/Arrays"
def TJ7 : u_T := fun k => match k with
  | _ => ("", "", "", false)
def tyJ7 : Nat → FieldType := fun k => match k with
  | _ => .int
abbrev wsJ70 : List Cond := u_ws RJ7 TJ7 0
theorem nmJ7 : ∀ a, a < 0 → ∀ b, b < 0 → a ≠ b → (TJ7 a).2.1 ≠ (TJ7 b).2.1 := by decide +kernel
theorem tyJ7_ok : ∀ k, k < 0 → parseFieldDescriptor (TJ7 k).2.2.1 = some (tyJ7 k) := by decide +kernel
abbrev cJ7_fill_d0a16 : ByteArray := prog_11_method_101_code
def yJ7_fill_d0a16 : MethodName := ⟨RJ7, "fill", "([JJ)V"⟩
abbrev cJ7_fill_53178 : ByteArray := prog_11_method_103_code
def yJ7_fill_53178 : MethodName := ⟨RJ7, "fill", "([II)V"⟩
def RL : String := "ForgettingLinesLaw"
abbrev cL_law : ByteArray := code
def yL_law : MethodName := ⟨RL, "law", "([I)Z"⟩
def wsX0_init : List Cond := .code yX0_init cX0_init 1 none :: ([.methodLink RX0 3 objectInit, .instanceMethod objectInit, .code objectInit ⟨#[0xb1]⟩ 1 none, .fieldLink RX0 9 "ForgettingLines$Machine" "states" "I", .arrayClass .boolean, .fieldLink RX0 15 "ForgettingLines$Machine" "isBag" "[Z", .arrayClass .int, .fieldLink RX0 19 "ForgettingLines$Machine" "rows" "[I"] ++ wsX00)
def wsX0_part : List Cond := .code yX0_part cX0_part 3 (some .int) :: ([.fieldLink RX0 19 "ForgettingLines$Machine" "rows" "[I"] ++ wsX00)
def wsX7_isAmong : List Cond := .code yX7_isAmong cX7_isAmong 2 (some .boolean) :: ([])
def wsX0_canHave : List Cond := .code yX0_canHave cX0_canHave 6 (some .boolean) :: ([.fieldLink RX0 9 "ForgettingLines$Machine" "states" "I", .static yX7_isAmong, .initialized RX7, .code yX7_isAmong cX7_isAmong 2 (some .boolean)] ++ wsX00)
def wsX0_canHaveAll : List Cond := .code yX0_canHaveAll cX0_canHaveAll 6 (some .boolean) :: ([.methodLink RX0 27 yX0_canHave, .instanceMethod yX0_canHave, .selects RX0 yX0_canHave yX0_canHave, .initialized RX0, .code yX0_canHave cX0_canHave 6 (some .boolean), .fieldLink RX0 9 "ForgettingLines$Machine" "states" "I", .static yX7_isAmong, .initialized RX7, .code yX7_isAmong cX7_isAmong 2 (some .boolean)] ++ wsX00)
def wsX0_add : List Cond := .code yX0_add cX0_add 7 none :: ([.fieldLink RX0 31 "ForgettingLines$Machine" "count" "I", .fieldLink RX0 19 "ForgettingLines$Machine" "rows" "[I"] ++ wsX00)
def wsX0_addAll : List Cond := .code yX0_addAll cX0_addAll 6 none :: ([.methodLink RX0 34 yX0_add, .instanceMethod yX0_add, .selects RX0 yX0_add yX0_add, .initialized RX0, .code yX0_add cX0_add 7 none, .fieldLink RX0 31 "ForgettingLines$Machine" "count" "I", .fieldLink RX0 19 "ForgettingLines$Machine" "rows" "[I"] ++ wsX00)
def wsX0_replace : List Cond := .code yX0_replace cX0_replace 3 none :: ([.fieldLink RX0 31 "ForgettingLines$Machine" "count" "I", .methodLink RX0 38 yX0_addAll, .instanceMethod yX0_addAll, .selects RX0 yX0_addAll yX0_addAll, .initialized RX0, .code yX0_addAll cX0_addAll 6 none, .methodLink RX0 34 yX0_add, .instanceMethod yX0_add, .selects RX0 yX0_add yX0_add, .code yX0_add cX0_add 7 none, .fieldLink RX0 19 "ForgettingLines$Machine" "rows" "[I"] ++ wsX00)
def wsX6_placeInOrder : List Cond := .code yX6_placeInOrder cX6_placeInOrder 4 (some .int) :: ([])
def wsX6_size : List Cond := .code yX6_size cX6_size 2 (some .int) :: ([])
def wsX6_with : List Cond := .code yX6_with cX6_with 5 (some .int) :: ([])
def wsX0_wordWith : List Cond := .code yX0_wordWith cX0_wordWith 5 (some .int) :: ([.fieldLink RX0 15 "ForgettingLines$Machine" "isBag" "[Z", .methodLink RX0 42 yX6_placeInOrder, .static yX6_placeInOrder, .initialized RX6, .code yX6_placeInOrder cX6_placeInOrder 4 (some .int), .methodLink RX0 48 yX6_size, .static yX6_size, .code yX6_size cX6_size 2 (some .int), .methodLink RX0 52 yX6_with, .static yX6_with, .code yX6_with cX6_with 5 (some .int)] ++ wsX00)
def wsX6_find : List Cond := .code yX6_find cX6_find 3 (some .int) :: ([])
def wsX6_without : List Cond := .code yX6_without cX6_without 4 (some .int) :: ([])
def wsX0_wordBehind_r1 : List Cond := [Cond.fieldLink RX0 15 "ForgettingLines$Machine" "isBag" "[Z", Cond.methodLink RX0 56 yX0_part, Cond.instanceMethod yX0_part, Cond.selects RX0 yX0_part yX0_part, Cond.initialized RX0, Cond.code yX0_part cX0_part 3 (some .int), Cond.fieldLink RX0 19 "ForgettingLines$Machine" "rows" "[I", Cond.methodLink RX0 59 yX0_wordWith, Cond.instanceMethod yX0_wordWith, Cond.selects RX0 yX0_wordWith yX0_wordWith, Cond.code yX0_wordWith cX0_wordWith 5 (some .int), Cond.methodLink RX0 42 yX6_placeInOrder, Cond.static yX6_placeInOrder, Cond.initialized RX6, Cond.code yX6_placeInOrder cX6_placeInOrder 4 (some .int), Cond.methodLink RX0 48 yX6_size, Cond.static yX6_size, Cond.code yX6_size cX6_size 2 (some .int), Cond.methodLink RX0 52 yX6_with, Cond.static yX6_with, Cond.code yX6_with cX6_with 5 (some .int), Cond.methodLink RX0 62 yX6_find, Cond.static yX6_find, Cond.code yX6_find cX6_find 3 (some .int)]
def wsX0_wordBehind_r2 : List Cond := [Cond.methodLink RX0 65 yX6_without, Cond.static yX6_without, Cond.code yX6_without cX6_without 4 (some .int)]
def wsX0_wordBehind : List Cond := .code yX0_wordBehind cX0_wordBehind 7 (some .int) :: ((wsX0_wordBehind_r1 ++ wsX0_wordBehind_r2) ++ wsX00)
def wsX6_at : List Cond := .code yX6_at cX6_at 2 (some .int) :: ([])
def wsX0_wordAhead_r1 : List Cond := [Cond.fieldLink RX0 15 "ForgettingLines$Machine" "isBag" "[Z", Cond.methodLink RX0 56 yX0_part, Cond.instanceMethod yX0_part, Cond.selects RX0 yX0_part yX0_part, Cond.initialized RX0, Cond.code yX0_part cX0_part 3 (some .int), Cond.fieldLink RX0 19 "ForgettingLines$Machine" "rows" "[I", Cond.methodLink RX0 62 yX6_find, Cond.static yX6_find, Cond.initialized RX6, Cond.code yX6_find cX6_find 3 (some .int), Cond.methodLink RX0 48 yX6_size, Cond.static yX6_size, Cond.code yX6_size cX6_size 2 (some .int), Cond.methodLink RX0 68 yX6_at, Cond.static yX6_at, Cond.code yX6_at cX6_at 2 (some .int), Cond.methodLink RX0 65 yX6_without, Cond.static yX6_without, Cond.code yX6_without cX6_without 4 (some .int), Cond.methodLink RX0 59 yX0_wordWith, Cond.instanceMethod yX0_wordWith, Cond.selects RX0 yX0_wordWith yX0_wordWith, Cond.code yX0_wordWith cX0_wordWith 5 (some .int)]
def wsX0_wordAhead_r2 : List Cond := [Cond.methodLink RX0 42 yX6_placeInOrder, Cond.static yX6_placeInOrder, Cond.code yX6_placeInOrder cX6_placeInOrder 4 (some .int), Cond.methodLink RX0 52 yX6_with, Cond.static yX6_with, Cond.code yX6_with cX6_with 5 (some .int)]
def wsX0_wordAhead : List Cond := .code yX0_wordAhead cX0_wordAhead 6 (some .int) :: ((wsX0_wordAhead_r1 ++ wsX0_wordAhead_r2) ++ wsX00)
def wsX1_init : List Cond := .code yX1_init cX1_init 1 none :: ([.methodLink RX1 3 objectInit, .instanceMethod objectInit, .code objectInit ⟨#[0xb1]⟩ 1 none, .arrayClass .int, .fieldLink RX1 9 "ForgettingLines$Place" "words" "[I"] ++ wsX10)
def wsX1_clear : List Cond := .code yX1_clear cX1_clear 2 none :: ([.fieldLink RX1 15 "ForgettingLines$Place" "state" "I", .fieldLink RX1 9 "ForgettingLines$Place" "words" "[I"] ++ wsX10)
def wsX6_isLonger : List Cond := .code yX6_isLonger cX6_isLonger 2 (some .boolean) :: ([])
def wsX1_isLonger : List Cond := .code yX1_isLonger cX1_isLonger 2 (some .boolean) :: ([.fieldLink RX1 9 "ForgettingLines$Place" "words" "[I", .methodLink RX1 19 yX6_isLonger, .static yX6_isLonger, .initialized RX6, .code yX6_isLonger cX6_isLonger 2 (some .boolean)] ++ wsX10)
def wsX2_init : List Cond := .code yX2_init cX2_init 1 none :: ([.methodLink RX2 3 objectInit, .instanceMethod objectInit, .code objectInit ⟨#[0xb1]⟩ 1 none, .arrayClass .int, .fieldLink RX2 9 "ForgettingLines$Search" "rounds" "[I", .fieldLink RX2 15 "ForgettingLines$Search" "states" "[I", .fieldLink RX2 18 "ForgettingLines$Search" "words0" "[I", .fieldLink RX2 21 "ForgettingLines$Search" "words1" "[I", .fieldLink RX2 24 "ForgettingLines$Search" "arcs" "[I", .fieldLink RX2 27 "ForgettingLines$Search" "origins" "[I"] ++ wsX20)
def wsX2_add : List Cond := .code yX2_add cX2_add 6 none :: ([.fieldLink RX2 15 "ForgettingLines$Search" "states" "[I", .fieldLink RX2 30 "ForgettingLines$Search" "count" "I", .fieldLink RX2 18 "ForgettingLines$Search" "words0" "[I", .fieldLink RX2 21 "ForgettingLines$Search" "words1" "[I", .fieldLink RX2 24 "ForgettingLines$Search" "arcs" "[I", .fieldLink RX2 27 "ForgettingLines$Search" "origins" "[I", .fieldLink RX2 9 "ForgettingLines$Search" "rounds" "[I"] ++ wsX20)
def wsX6_isIn : List Cond := .code yX6_isIn cX6_isIn 5 (some .boolean) :: ([])
def wsX2_isBelowPlace : List Cond := .code yX2_isBelowPlace cX2_isBelowPlace 5 (some .boolean) :: ([.fieldLink RX2 15 "ForgettingLines$Search" "states" "[I", .fieldLink RX2 18 "ForgettingLines$Search" "words0" "[I", .fieldLink RX2 21 "ForgettingLines$Search" "words1" "[I", .methodLink RX2 78 yX6_isIn, .static yX6_isIn, .initialized RX6, .code yX6_isIn cX6_isIn 5 (some .boolean)] ++ wsX20)
def wsX2_firstBelow : List Cond := .code yX2_firstBelow cX2_firstBelow 5 (some .int) :: ([.fieldLink RX2 30 "ForgettingLines$Search" "count" "I", .methodLink RX2 74 yX2_isBelowPlace, .instanceMethod yX2_isBelowPlace, .selects RX2 yX2_isBelowPlace yX2_isBelowPlace, .initialized RX2, .code yX2_isBelowPlace cX2_isBelowPlace 5 (some .boolean), .fieldLink RX2 15 "ForgettingLines$Search" "states" "[I", .fieldLink RX2 18 "ForgettingLines$Search" "words0" "[I", .fieldLink RX2 21 "ForgettingLines$Search" "words1" "[I", .methodLink RX2 78 yX6_isIn, .static yX6_isIn, .initialized RX6, .code yX6_isIn cX6_isIn 5 (some .boolean)] ++ wsX20)
def wsX2_lookAhead_r1 : List Cond := [Cond.fieldLink RX2 18 "ForgettingLines$Search" "words0" "[I", Cond.fieldLink RX2 21 "ForgettingLines$Search" "words1" "[I", Cond.fieldLink RX2 30 "ForgettingLines$Search" "count" "I", Cond.fieldLink RX2 34 "ForgettingLines$Search" "spent" "Z", Cond.methodLink RX2 53 yX0_part, Cond.instanceMethod yX0_part, Cond.selects RX0 yX0_part yX0_part, Cond.initialized RX0, Cond.code yX0_part cX0_part 3 (some .int), Cond.fieldLink RX0 19 "ForgettingLines$Machine" "rows" "[I", Cond.methodLink RX2 61 yX0_wordAhead, Cond.instanceMethod yX0_wordAhead, Cond.selects RX0 yX0_wordAhead yX0_wordAhead, Cond.code yX0_wordAhead cX0_wordAhead 6 (some .int), Cond.fieldLink RX0 15 "ForgettingLines$Machine" "isBag" "[Z", Cond.methodLink RX0 56 yX0_part, Cond.methodLink RX0 62 yX6_find, Cond.static yX6_find, Cond.initialized RX6, Cond.code yX6_find cX6_find 3 (some .int), Cond.methodLink RX0 48 yX6_size, Cond.static yX6_size, Cond.code yX6_size cX6_size 2 (some .int), Cond.methodLink RX0 68 yX6_at]
def wsX2_lookAhead_r2 : List Cond := [Cond.static yX6_at, Cond.code yX6_at cX6_at 2 (some .int), Cond.methodLink RX0 65 yX6_without, Cond.static yX6_without, Cond.code yX6_without cX6_without 4 (some .int), Cond.methodLink RX0 59 yX0_wordWith, Cond.instanceMethod yX0_wordWith, Cond.selects RX0 yX0_wordWith yX0_wordWith, Cond.code yX0_wordWith cX0_wordWith 5 (some .int), Cond.methodLink RX0 42 yX6_placeInOrder, Cond.static yX6_placeInOrder, Cond.code yX6_placeInOrder cX6_placeInOrder 4 (some .int), Cond.methodLink RX0 52 yX6_with, Cond.static yX6_with, Cond.code yX6_with cX6_with 5 (some .int), Cond.methodLink RX2 64 yX2_firstBelow, Cond.instanceMethod yX2_firstBelow, Cond.selects RX2 yX2_firstBelow yX2_firstBelow, Cond.initialized RX2, Cond.code yX2_firstBelow cX2_firstBelow 5 (some .int), Cond.methodLink RX2 74 yX2_isBelowPlace, Cond.instanceMethod yX2_isBelowPlace, Cond.selects RX2 yX2_isBelowPlace yX2_isBelowPlace, Cond.code yX2_isBelowPlace cX2_isBelowPlace 5 (some .boolean)]
def wsX2_lookAhead_r3 : List Cond := [Cond.fieldLink RX2 15 "ForgettingLines$Search" "states" "[I", Cond.methodLink RX2 78 yX6_isIn, Cond.static yX6_isIn, Cond.code yX6_isIn cX6_isIn 5 (some .boolean), Cond.methodLink RX2 68 yX6_isLonger, Cond.static yX6_isLonger, Cond.code yX6_isLonger cX6_isLonger 2 (some .boolean), Cond.methodLink RX2 46 yX2_add, Cond.instanceMethod yX2_add, Cond.selects RX2 yX2_add yX2_add, Cond.code yX2_add cX2_add 6 none, Cond.fieldLink RX2 24 "ForgettingLines$Search" "arcs" "[I", Cond.fieldLink RX2 27 "ForgettingLines$Search" "origins" "[I", Cond.fieldLink RX2 9 "ForgettingLines$Search" "rounds" "[I"]
def wsX2_lookAhead : List Cond := .code yX2_lookAhead cX2_lookAhead 8 none :: ((wsX2_lookAhead_r1 ++ (wsX2_lookAhead_r2 ++ wsX2_lookAhead_r3)) ++ wsX20 ++ wsX00)
def wsX2_run_r1 : List Cond := [Cond.fieldLink RX2 30 "ForgettingLines$Search" "count" "I", Cond.fieldLink RX2 34 "ForgettingLines$Search" "spent" "Z", Cond.fieldLink RX2 38 "ForgettingLines$Place" "state" "I", Cond.fieldLink RX2 43 "ForgettingLines$Place" "words" "[I", Cond.fieldLink RX2 50 "ForgettingLines$Machine" "count" "I", Cond.fieldLink RX2 15 "ForgettingLines$Search" "states" "[I", Cond.methodLink RX2 46 yX2_add, Cond.instanceMethod yX2_add, Cond.selects RX2 yX2_add yX2_add, Cond.initialized RX2, Cond.code yX2_add cX2_add 6 none, Cond.fieldLink RX2 18 "ForgettingLines$Search" "words0" "[I", Cond.fieldLink RX2 21 "ForgettingLines$Search" "words1" "[I", Cond.fieldLink RX2 24 "ForgettingLines$Search" "arcs" "[I", Cond.fieldLink RX2 27 "ForgettingLines$Search" "origins" "[I", Cond.fieldLink RX2 9 "ForgettingLines$Search" "rounds" "[I", Cond.methodLink RX2 53 yX0_part, Cond.instanceMethod yX0_part, Cond.selects RX0 yX0_part yX0_part, Cond.initialized RX0, Cond.code yX0_part cX0_part 3 (some .int), Cond.fieldLink RX0 19 "ForgettingLines$Machine" "rows" "[I", Cond.methodLink RX2 57 yX2_lookAhead, Cond.instanceMethod yX2_lookAhead]
def wsX2_run_r2 : List Cond := [Cond.selects RX2 yX2_lookAhead yX2_lookAhead, Cond.code yX2_lookAhead cX2_lookAhead 8 none, Cond.methodLink RX2 61 yX0_wordAhead, Cond.instanceMethod yX0_wordAhead, Cond.selects RX0 yX0_wordAhead yX0_wordAhead, Cond.code yX0_wordAhead cX0_wordAhead 6 (some .int), Cond.fieldLink RX0 15 "ForgettingLines$Machine" "isBag" "[Z", Cond.methodLink RX0 56 yX0_part, Cond.methodLink RX0 62 yX6_find, Cond.static yX6_find, Cond.initialized RX6, Cond.code yX6_find cX6_find 3 (some .int), Cond.methodLink RX0 48 yX6_size, Cond.static yX6_size, Cond.code yX6_size cX6_size 2 (some .int), Cond.methodLink RX0 68 yX6_at, Cond.static yX6_at, Cond.code yX6_at cX6_at 2 (some .int), Cond.methodLink RX0 65 yX6_without, Cond.static yX6_without, Cond.code yX6_without cX6_without 4 (some .int), Cond.methodLink RX0 59 yX0_wordWith, Cond.instanceMethod yX0_wordWith, Cond.selects RX0 yX0_wordWith yX0_wordWith]
def wsX2_run_r3 : List Cond := [Cond.code yX0_wordWith cX0_wordWith 5 (some .int), Cond.methodLink RX0 42 yX6_placeInOrder, Cond.static yX6_placeInOrder, Cond.code yX6_placeInOrder cX6_placeInOrder 4 (some .int), Cond.methodLink RX0 52 yX6_with, Cond.static yX6_with, Cond.code yX6_with cX6_with 5 (some .int), Cond.methodLink RX2 64 yX2_firstBelow, Cond.instanceMethod yX2_firstBelow, Cond.selects RX2 yX2_firstBelow yX2_firstBelow, Cond.code yX2_firstBelow cX2_firstBelow 5 (some .int), Cond.methodLink RX2 74 yX2_isBelowPlace, Cond.instanceMethod yX2_isBelowPlace, Cond.selects RX2 yX2_isBelowPlace yX2_isBelowPlace, Cond.code yX2_isBelowPlace cX2_isBelowPlace 5 (some .boolean), Cond.methodLink RX2 78 yX6_isIn, Cond.static yX6_isIn, Cond.code yX6_isIn cX6_isIn 5 (some .boolean), Cond.methodLink RX2 68 yX6_isLonger, Cond.static yX6_isLonger, Cond.code yX6_isLonger cX6_isLonger 2 (some .boolean)]
def wsX2_run : List Cond := .code yX2_run cX2_run 5 none :: ((wsX2_run_r1 ++ (wsX2_run_r2 ++ wsX2_run_r3)) ++ wsX20 ++ wsX10 ++ wsX00)
def wsX2_isLeast : List Cond := .code yX2_isLeast cX2_isLeast 3 (some .boolean) :: ([.fieldLink RX2 30 "ForgettingLines$Search" "count" "I", .fieldLink RX2 15 "ForgettingLines$Search" "states" "[I", .fieldLink RX2 18 "ForgettingLines$Search" "words0" "[I", .fieldLink RX2 21 "ForgettingLines$Search" "words1" "[I", .methodLink RX2 74 yX2_isBelowPlace, .instanceMethod yX2_isBelowPlace, .selects RX2 yX2_isBelowPlace yX2_isBelowPlace, .initialized RX2, .code yX2_isBelowPlace cX2_isBelowPlace 5 (some .boolean), .methodLink RX2 78 yX6_isIn, .static yX6_isIn, .initialized RX6, .code yX6_isIn cX6_isIn 5 (some .boolean)] ++ wsX20)
def wsX2_countLeast : List Cond := .code yX2_countLeast cX2_countLeast 3 (some .int) :: ([.fieldLink RX2 30 "ForgettingLines$Search" "count" "I", .methodLink RX2 81 yX2_isLeast, .instanceMethod yX2_isLeast, .selects RX2 yX2_isLeast yX2_isLeast, .initialized RX2, .code yX2_isLeast cX2_isLeast 3 (some .boolean), .fieldLink RX2 15 "ForgettingLines$Search" "states" "[I", .fieldLink RX2 18 "ForgettingLines$Search" "words0" "[I", .fieldLink RX2 21 "ForgettingLines$Search" "words1" "[I", .methodLink RX2 74 yX2_isBelowPlace, .instanceMethod yX2_isBelowPlace, .selects RX2 yX2_isBelowPlace yX2_isBelowPlace, .code yX2_isBelowPlace cX2_isBelowPlace 5 (some .boolean), .methodLink RX2 78 yX6_isIn, .static yX6_isIn, .initialized RX6, .code yX6_isIn cX6_isIn 5 (some .boolean)] ++ wsX20)
def wsX2_wordOf : List Cond := .code yX2_wordOf cX2_wordOf 3 (some .int) :: ([.fieldLink RX2 18 "ForgettingLines$Search" "words0" "[I", .fieldLink RX2 21 "ForgettingLines$Search" "words1" "[I"] ++ wsX20)
def wsX2_fact : List Cond := .code yX2_fact cX2_fact 3 (some .int) :: ([.fieldLink RX2 15 "ForgettingLines$Search" "states" "[I", .fieldLink RX2 9 "ForgettingLines$Search" "rounds" "[I", .fieldLink RX2 18 "ForgettingLines$Search" "words0" "[I", .fieldLink RX2 21 "ForgettingLines$Search" "words1" "[I", .fieldLink RX2 24 "ForgettingLines$Search" "arcs" "[I", .fieldLink RX2 27 "ForgettingLines$Search" "origins" "[I", .methodLink RX2 85 yX6_size, .static yX6_size, .initialized RX6, .code yX6_size cX6_size 2 (some .int), .methodLink RX2 81 yX2_isLeast, .instanceMethod yX2_isLeast, .selects RX2 yX2_isLeast yX2_isLeast, .initialized RX2, .code yX2_isLeast cX2_isLeast 3 (some .boolean), .fieldLink RX2 30 "ForgettingLines$Search" "count" "I", .methodLink RX2 74 yX2_isBelowPlace, .instanceMethod yX2_isBelowPlace, .selects RX2 yX2_isBelowPlace yX2_isBelowPlace, .code yX2_isBelowPlace cX2_isBelowPlace 5 (some .boolean), .methodLink RX2 78 yX6_isIn, .static yX6_isIn, .code yX6_isIn cX6_isIn 5 (some .boolean)] ++ wsX20)
def wsX2_arcOfWay : List Cond := .code yX2_arcOfWay cX2_arcOfWay 5 (some .int) :: ([.fieldLink RX2 27 "ForgettingLines$Search" "origins" "[I", .fieldLink RX2 24 "ForgettingLines$Search" "arcs" "[I"] ++ wsX20)
def wsX3_init : List Cond := .code yX3_init cX3_init 1 none :: ([.methodLink RX3 3 objectInit, .instanceMethod objectInit, .code objectInit ⟨#[0xb1]⟩ 1 none, .arrayClass .int, .fieldLink RX3 9 "ForgettingLines$Sheet" "items" "[I"] ++ wsX30)
def wsJ7_fill_53178 : List Cond := .code yJ7_fill_53178 cJ7_fill_53178 4 none :: ([])
def wsX3_hold : List Cond := .code yX3_hold cX3_hold 3 none :: ([.fieldLink RX3 15 "ForgettingLines$Sheet" "held" "Z", .fieldLink RX3 19 "ForgettingLines$Sheet" "lane" "I", .fieldLink RX3 23 "ForgettingLines$Sheet" "size" "I", .fieldLink RX3 9 "ForgettingLines$Sheet" "items" "[I", .methodLink RX3 26 yJ7_fill_53178, .static yJ7_fill_53178, .initialized RJ7, .code yJ7_fill_53178 cJ7_fill_53178 4 none] ++ wsX30)
def wsX3_faultAs : List Cond := .code yX3_faultAs cX3_faultAs 2 (some .int) :: ([.fieldLink RX3 15 "ForgettingLines$Sheet" "held" "Z", .fieldLink RX3 19 "ForgettingLines$Sheet" "lane" "I"] ++ wsX30)
def wsX3_put : List Cond := .code yX3_put cX3_put 3 none :: ([.fieldLink RX3 9 "ForgettingLines$Sheet" "items" "[I", .fieldLink RX3 19 "ForgettingLines$Sheet" "lane" "I"] ++ wsX30)
def wsX4_init : List Cond := .code yX4_init cX4_init 1 none :: ([.methodLink RX4 3 objectInit, .instanceMethod objectInit, .code objectInit ⟨#[0xb1]⟩ 1 none, .arrayClass .int, .fieldLink RX4 9 "ForgettingLines$Tape" "rows" "[I", .arrayClass .byte, .fieldLink RX4 15 "ForgettingLines$Tape" "bytes" "[B"] ++ wsX40)
def wsX4_byteOf : List Cond := .code yX4_byteOf cX4_byteOf 3 (some .int) :: ([])
def wsX4_canHave : List Cond := .code yX4_canHave cX4_canHave 5 (some .boolean) :: ([.methodLink RX4 19 yX4_byteOf, .static yX4_byteOf, .initialized RX4, .code yX4_byteOf cX4_byteOf 3 (some .int)])
def wsX4_add : List Cond := .code yX4_add cX4_add 5 none :: ([.fieldLink RX4 15 "ForgettingLines$Tape" "bytes" "[B", .fieldLink RX4 23 "ForgettingLines$Tape" "size" "I", .methodLink RX4 19 yX4_byteOf, .static yX4_byteOf, .initialized RX4, .code yX4_byteOf cX4_byteOf 3 (some .int)] ++ wsX40)
def wsX4_skipBlanks : List Cond := .code yX4_skipBlanks cX4_skipBlanks 1 none :: ([.fieldLink RX4 27 "ForgettingLines$Tape" "at" "I", .fieldLink RX4 23 "ForgettingLines$Tape" "size" "I", .fieldLink RX4 15 "ForgettingLines$Tape" "bytes" "[B"] ++ wsX40)
def wsX4_oneOf : List Cond := .code yX4_oneOf cX4_oneOf 3 (some .int) :: ([.fieldLink RX4 27 "ForgettingLines$Tape" "at" "I", .fieldLink RX4 23 "ForgettingLines$Tape" "size" "I", .fieldLink RX4 15 "ForgettingLines$Tape" "bytes" "[B", .methodLink RX4 34 yX4_skipBlanks, .instanceMethod yX4_skipBlanks, .selects RX4 yX4_skipBlanks yX4_skipBlanks, .initialized RX4, .code yX4_skipBlanks cX4_skipBlanks 1 none, .static yX7_isAmong, .initialized RX7, .code yX7_isAmong cX7_isAmong 2 (some .boolean)] ++ wsX40)
def wsX4_parseAct : List Cond := .code yX4_parseAct cX4_parseAct 1 (some .int) :: ([.methodLink RX4 37 yX4_oneOf, .instanceMethod yX4_oneOf, .selects RX4 yX4_oneOf yX4_oneOf, .initialized RX4, .code yX4_oneOf cX4_oneOf 3 (some .int), .fieldLink RX4 27 "ForgettingLines$Tape" "at" "I", .fieldLink RX4 23 "ForgettingLines$Tape" "size" "I", .fieldLink RX4 15 "ForgettingLines$Tape" "bytes" "[B", .methodLink RX4 34 yX4_skipBlanks, .instanceMethod yX4_skipBlanks, .selects RX4 yX4_skipBlanks yX4_skipBlanks, .code yX4_skipBlanks cX4_skipBlanks 1 none, .static yX7_isAmong, .initialized RX7, .code yX7_isAmong cX7_isAmong 2 (some .boolean)] ++ wsX40)
def wsX4_parseLetterAndLine : List Cond := .code yX4_parseLetterAndLine cX4_parseLetterAndLine 2 (some .boolean) :: ([.fieldLink RX4 9 "ForgettingLines$Tape" "rows" "[I", .methodLink RX4 37 yX4_oneOf, .instanceMethod yX4_oneOf, .selects RX4 yX4_oneOf yX4_oneOf, .initialized RX4, .code yX4_oneOf cX4_oneOf 3 (some .int), .fieldLink RX4 27 "ForgettingLines$Tape" "at" "I", .fieldLink RX4 23 "ForgettingLines$Tape" "size" "I", .fieldLink RX4 15 "ForgettingLines$Tape" "bytes" "[B", .methodLink RX4 34 yX4_skipBlanks, .instanceMethod yX4_skipBlanks, .selects RX4 yX4_skipBlanks yX4_skipBlanks, .code yX4_skipBlanks cX4_skipBlanks 1 none, .static yX7_isAmong, .initialized RX7, .code yX7_isAmong cX7_isAmong 2 (some .boolean)] ++ wsX40)
def wsX4_parseArc : List Cond := .code yX4_parseArc cX4_parseArc 4 (some .boolean) :: ([.fieldLink RX4 9 "ForgettingLines$Tape" "rows" "[I", .methodLink RX4 37 yX4_oneOf, .instanceMethod yX4_oneOf, .selects RX4 yX4_oneOf yX4_oneOf, .initialized RX4, .code yX4_oneOf cX4_oneOf 3 (some .int), .fieldLink RX4 27 "ForgettingLines$Tape" "at" "I", .fieldLink RX4 23 "ForgettingLines$Tape" "size" "I", .fieldLink RX4 15 "ForgettingLines$Tape" "bytes" "[B", .methodLink RX4 34 yX4_skipBlanks, .instanceMethod yX4_skipBlanks, .selects RX4 yX4_skipBlanks yX4_skipBlanks, .code yX4_skipBlanks cX4_skipBlanks 1 none, .static yX7_isAmong, .initialized RX7, .code yX7_isAmong cX7_isAmong 2 (some .boolean), .methodLink RX4 41 yX4_parseAct, .instanceMethod yX4_parseAct, .selects RX4 yX4_parseAct yX4_parseAct, .code yX4_parseAct cX4_parseAct 1 (some .int), .methodLink RX4 45 yX4_parseLetterAndLine, .instanceMethod yX4_parseLetterAndLine, .selects RX4 yX4_parseLetterAndLine yX4_parseLetterAndLine, .code yX4_parseLetterAndLine cX4_parseLetterAndLine 2 (some .boolean)] ++ wsX40)
def wsX4_parse_r1 : List Cond := [Cond.fieldLink RX4 27 "ForgettingLines$Tape" "at" "I", Cond.fieldLink RX4 23 "ForgettingLines$Tape" "size" "I", Cond.fieldLink RX4 15 "ForgettingLines$Tape" "bytes" "[B", Cond.methodLink RX4 30 yX4_parseArc, Cond.instanceMethod yX4_parseArc, Cond.selects RX4 yX4_parseArc yX4_parseArc, Cond.initialized RX4, Cond.code yX4_parseArc cX4_parseArc 4 (some .boolean), Cond.fieldLink RX4 9 "ForgettingLines$Tape" "rows" "[I", Cond.methodLink RX4 37 yX4_oneOf, Cond.instanceMethod yX4_oneOf, Cond.selects RX4 yX4_oneOf yX4_oneOf, Cond.code yX4_oneOf cX4_oneOf 3 (some .int), Cond.methodLink RX4 34 yX4_skipBlanks, Cond.instanceMethod yX4_skipBlanks, Cond.selects RX4 yX4_skipBlanks yX4_skipBlanks, Cond.code yX4_skipBlanks cX4_skipBlanks 1 none, Cond.static yX7_isAmong, Cond.initialized RX7, Cond.code yX7_isAmong cX7_isAmong 2 (some .boolean), Cond.methodLink RX4 41 yX4_parseAct, Cond.instanceMethod yX4_parseAct, Cond.selects RX4 yX4_parseAct yX4_parseAct, Cond.code yX4_parseAct cX4_parseAct 1 (some .int)]
def wsX4_parse_r2 : List Cond := [Cond.methodLink RX4 45 yX4_parseLetterAndLine, Cond.instanceMethod yX4_parseLetterAndLine, Cond.selects RX4 yX4_parseLetterAndLine yX4_parseLetterAndLine, Cond.code yX4_parseLetterAndLine cX4_parseLetterAndLine 2 (some .boolean)]
def wsX4_parse : List Cond := .code yX4_parse cX4_parse 3 (some .int) :: ((wsX4_parse_r1 ++ wsX4_parse_r2) ++ wsX40)
def wsX5_init : List Cond := .code yX5_init cX5_init 1 none :: ([.methodLink RX5 5 objectInit, .instanceMethod objectInit, .code objectInit ⟨#[0xb1]⟩ 1 none, .arrayClass .long, .fieldLink RX5 11 "ForgettingLines$Walk" "seen" "[J", .arrayClass .int, .fieldLink RX5 15 "ForgettingLines$Walk" "queue" "[I"] ++ wsX50)
def wsJ7_fill_d0a16 : List Cond := .code yJ7_fill_d0a16 cJ7_fill_d0a16 5 none :: ([])
def wsX5_add : List Cond := .code yX5_add cX5_add 7 none :: ([.fieldLink RX5 11 "ForgettingLines$Walk" "seen" "[J", .fieldLink RX5 25 "ForgettingLines$Walk" "tail" "I", .fieldLink RX5 15 "ForgettingLines$Walk" "queue" "[I"] ++ wsX50)
def wsX5_stateOf : List Cond := .code yX5_stateOf cX5_stateOf 1 (some .int) :: ([])
def wsX5_wordOf : List Cond := .code yX5_wordOf cX5_wordOf 2 (some .int) :: ([])
def wsX5_isAimed : List Cond := .code yX5_isAimed cX5_isAimed 2 (some .boolean) :: ([.fieldLink RX5 29 "ForgettingLines$Place" "state" "I", .fieldLink RX5 34 "ForgettingLines$Place" "words" "[I", .methodLink RX5 49 yX5_stateOf, .static yX5_stateOf, .initialized RX5, .code yX5_stateOf cX5_stateOf 1 (some .int), .methodLink RX5 53 yX5_wordOf, .static yX5_wordOf, .code yX5_wordOf cX5_wordOf 2 (some .int), .methodLink RX5 57 yX6_isIn, .static yX6_isIn, .initialized RX6, .code yX6_isIn cX6_isIn 5 (some .boolean)] ++ wsX10)
def wsX5_goBy_r1 : List Cond := [Cond.methodLink RX5 68 yX0_part, Cond.instanceMethod yX0_part, Cond.selects RX0 yX0_part yX0_part, Cond.initialized RX0, Cond.code yX0_part cX0_part 3 (some .int), Cond.fieldLink RX0 19 "ForgettingLines$Machine" "rows" "[I", Cond.methodLink RX5 53 yX5_wordOf, Cond.static yX5_wordOf, Cond.initialized RX5, Cond.code yX5_wordOf cX5_wordOf 2 (some .int), Cond.methodLink RX5 75 yX0_wordBehind, Cond.instanceMethod yX0_wordBehind, Cond.selects RX0 yX0_wordBehind yX0_wordBehind, Cond.code yX0_wordBehind cX0_wordBehind 7 (some .int), Cond.fieldLink RX0 15 "ForgettingLines$Machine" "isBag" "[Z", Cond.methodLink RX0 56 yX0_part, Cond.methodLink RX0 59 yX0_wordWith, Cond.instanceMethod yX0_wordWith, Cond.selects RX0 yX0_wordWith yX0_wordWith, Cond.code yX0_wordWith cX0_wordWith 5 (some .int), Cond.methodLink RX0 42 yX6_placeInOrder, Cond.static yX6_placeInOrder, Cond.initialized RX6, Cond.code yX6_placeInOrder cX6_placeInOrder 4 (some .int)]
def wsX5_goBy_r2 : List Cond := [Cond.methodLink RX0 48 yX6_size, Cond.static yX6_size, Cond.code yX6_size cX6_size 2 (some .int), Cond.methodLink RX0 52 yX6_with, Cond.static yX6_with, Cond.code yX6_with cX6_with 5 (some .int), Cond.methodLink RX0 62 yX6_find, Cond.static yX6_find, Cond.code yX6_find cX6_find 3 (some .int), Cond.methodLink RX0 65 yX6_without, Cond.static yX6_without, Cond.code yX6_without cX6_without 4 (some .int), Cond.methodLink RX5 78 yX6_isLonger, Cond.static yX6_isLonger, Cond.code yX6_isLonger cX6_isLonger 2 (some .boolean), Cond.methodLink RX5 37 yX5_add, Cond.instanceMethod yX5_add, Cond.selects RX5 yX5_add yX5_add, Cond.code yX5_add cX5_add 7 none, Cond.fieldLink RX5 11 "ForgettingLines$Walk" "seen" "[J", Cond.fieldLink RX5 25 "ForgettingLines$Walk" "tail" "I", Cond.fieldLink RX5 15 "ForgettingLines$Walk" "queue" "[I"]
def wsX5_goBy : List Cond := .code yX5_goBy cX5_goBy 8 none :: ((wsX5_goBy_r1 ++ wsX5_goBy_r2) ++ wsX00 ++ wsX50)
def wsX5_goOn_r1 : List Cond := [Cond.fieldLink RX5 63 "ForgettingLines$Machine" "count" "I", Cond.methodLink RX5 68 yX0_part, Cond.instanceMethod yX0_part, Cond.selects RX0 yX0_part yX0_part, Cond.initialized RX0, Cond.code yX0_part cX0_part 3 (some .int), Cond.fieldLink RX0 19 "ForgettingLines$Machine" "rows" "[I", Cond.methodLink RX5 49 yX5_stateOf, Cond.static yX5_stateOf, Cond.initialized RX5, Cond.code yX5_stateOf cX5_stateOf 1 (some .int), Cond.methodLink RX5 71 yX5_goBy, Cond.instanceMethod yX5_goBy, Cond.selects RX5 yX5_goBy yX5_goBy, Cond.code yX5_goBy cX5_goBy 8 none, Cond.methodLink RX5 53 yX5_wordOf, Cond.static yX5_wordOf, Cond.code yX5_wordOf cX5_wordOf 2 (some .int), Cond.methodLink RX5 75 yX0_wordBehind, Cond.instanceMethod yX0_wordBehind, Cond.selects RX0 yX0_wordBehind yX0_wordBehind, Cond.code yX0_wordBehind cX0_wordBehind 7 (some .int), Cond.fieldLink RX0 15 "ForgettingLines$Machine" "isBag" "[Z", Cond.methodLink RX0 56 yX0_part]
def wsX5_goOn_r2 : List Cond := [Cond.methodLink RX0 59 yX0_wordWith, Cond.instanceMethod yX0_wordWith, Cond.selects RX0 yX0_wordWith yX0_wordWith, Cond.code yX0_wordWith cX0_wordWith 5 (some .int), Cond.methodLink RX0 42 yX6_placeInOrder, Cond.static yX6_placeInOrder, Cond.initialized RX6, Cond.code yX6_placeInOrder cX6_placeInOrder 4 (some .int), Cond.methodLink RX0 48 yX6_size, Cond.static yX6_size, Cond.code yX6_size cX6_size 2 (some .int), Cond.methodLink RX0 52 yX6_with, Cond.static yX6_with, Cond.code yX6_with cX6_with 5 (some .int), Cond.methodLink RX0 62 yX6_find, Cond.static yX6_find, Cond.code yX6_find cX6_find 3 (some .int), Cond.methodLink RX0 65 yX6_without, Cond.static yX6_without, Cond.code yX6_without cX6_without 4 (some .int), Cond.methodLink RX5 78 yX6_isLonger, Cond.static yX6_isLonger, Cond.code yX6_isLonger cX6_isLonger 2 (some .boolean), Cond.methodLink RX5 37 yX5_add]
def wsX5_goOn_r3 : List Cond := [Cond.instanceMethod yX5_add, Cond.selects RX5 yX5_add yX5_add, Cond.code yX5_add cX5_add 7 none, Cond.fieldLink RX5 11 "ForgettingLines$Walk" "seen" "[J", Cond.fieldLink RX5 25 "ForgettingLines$Walk" "tail" "I", Cond.fieldLink RX5 15 "ForgettingLines$Walk" "queue" "[I"]
def wsX5_goOn : List Cond := .code yX5_goOn cX5_goOn 5 none :: ((wsX5_goOn_r1 ++ (wsX5_goOn_r2 ++ wsX5_goOn_r3)) ++ wsX00 ++ wsX50)
def wsX5_fewest_r1 : List Cond := [Cond.fieldLink RX5 11 "ForgettingLines$Walk" "seen" "[J", Cond.fieldLink RX5 25 "ForgettingLines$Walk" "tail" "I", Cond.fieldLink RX5 29 "ForgettingLines$Place" "state" "I", Cond.fieldLink RX5 34 "ForgettingLines$Place" "words" "[I", Cond.fieldLink RX5 15 "ForgettingLines$Walk" "queue" "[I", Cond.methodLink RX5 19 yJ7_fill_d0a16, Cond.static yJ7_fill_d0a16, Cond.initialized RJ7, Cond.code yJ7_fill_d0a16 cJ7_fill_d0a16 5 none, Cond.methodLink RX5 37 yX5_add, Cond.instanceMethod yX5_add, Cond.selects RX5 yX5_add yX5_add, Cond.initialized RX5, Cond.code yX5_add cX5_add 7 none, Cond.methodLink RX5 41 yX5_isAimed, Cond.static yX5_isAimed, Cond.code yX5_isAimed cX5_isAimed 2 (some .boolean), Cond.methodLink RX5 49 yX5_stateOf, Cond.static yX5_stateOf, Cond.code yX5_stateOf cX5_stateOf 1 (some .int), Cond.methodLink RX5 53 yX5_wordOf, Cond.static yX5_wordOf, Cond.code yX5_wordOf cX5_wordOf 2 (some .int), Cond.methodLink RX5 57 yX6_isIn]
def wsX5_fewest_r2 : List Cond := [Cond.static yX6_isIn, Cond.initialized RX6, Cond.code yX6_isIn cX6_isIn 5 (some .boolean), Cond.methodLink RX5 45 yX5_goOn, Cond.instanceMethod yX5_goOn, Cond.selects RX5 yX5_goOn yX5_goOn, Cond.code yX5_goOn cX5_goOn 5 none, Cond.fieldLink RX5 63 "ForgettingLines$Machine" "count" "I", Cond.methodLink RX5 68 yX0_part, Cond.instanceMethod yX0_part, Cond.selects RX0 yX0_part yX0_part, Cond.initialized RX0, Cond.code yX0_part cX0_part 3 (some .int), Cond.fieldLink RX0 19 "ForgettingLines$Machine" "rows" "[I", Cond.methodLink RX5 71 yX5_goBy, Cond.instanceMethod yX5_goBy, Cond.selects RX5 yX5_goBy yX5_goBy, Cond.code yX5_goBy cX5_goBy 8 none, Cond.methodLink RX5 75 yX0_wordBehind, Cond.instanceMethod yX0_wordBehind, Cond.selects RX0 yX0_wordBehind yX0_wordBehind, Cond.code yX0_wordBehind cX0_wordBehind 7 (some .int), Cond.fieldLink RX0 15 "ForgettingLines$Machine" "isBag" "[Z", Cond.methodLink RX0 56 yX0_part]
def wsX5_fewest_r3 : List Cond := [Cond.methodLink RX0 59 yX0_wordWith, Cond.instanceMethod yX0_wordWith, Cond.selects RX0 yX0_wordWith yX0_wordWith, Cond.code yX0_wordWith cX0_wordWith 5 (some .int), Cond.methodLink RX0 42 yX6_placeInOrder, Cond.static yX6_placeInOrder, Cond.code yX6_placeInOrder cX6_placeInOrder 4 (some .int), Cond.methodLink RX0 48 yX6_size, Cond.static yX6_size, Cond.code yX6_size cX6_size 2 (some .int), Cond.methodLink RX0 52 yX6_with, Cond.static yX6_with, Cond.code yX6_with cX6_with 5 (some .int), Cond.methodLink RX0 62 yX6_find, Cond.static yX6_find, Cond.code yX6_find cX6_find 3 (some .int), Cond.methodLink RX0 65 yX6_without, Cond.static yX6_without, Cond.code yX6_without cX6_without 4 (some .int), Cond.methodLink RX5 78 yX6_isLonger, Cond.static yX6_isLonger, Cond.code yX6_isLonger cX6_isLonger 2 (some .boolean)]
def wsX5_fewest : List Cond := .code yX5_fewest cX5_fewest 8 (some .int) :: ((wsX5_fewest_r1 ++ (wsX5_fewest_r2 ++ wsX5_fewest_r3)) ++ wsX50 ++ wsX10 ++ wsX00)
def wsX7_init_r1 : List Cond := [Cond.methodLink RX7 1 objectInit, Cond.instanceMethod objectInit, Cond.code objectInit ⟨#[0xb1]⟩ 1 none, Cond.classLink RX7 7 RX0, Cond.instantiable RX0 4, Cond.initialized RX0, Cond.fieldLink RX7 10 "ForgettingLines" "machine" "LForgettingLines$Machine;", Cond.classLink RX7 16 RX4, Cond.instantiable RX4 4, Cond.initialized RX4, Cond.fieldLink RX7 19 "ForgettingLines" "tape" "LForgettingLines$Tape;", Cond.classLink RX7 23 RX1, Cond.instantiable RX1 2, Cond.initialized RX1, Cond.fieldLink RX7 26 "ForgettingLines" "here" "LForgettingLines$Place;", Cond.fieldLink RX7 30 "ForgettingLines" "target" "LForgettingLines$Place;", Cond.classLink RX7 33 RX2, Cond.instantiable RX2 8, Cond.initialized RX2, Cond.fieldLink RX7 36 "ForgettingLines" "search" "LForgettingLines$Search;", Cond.classLink RX7 40 RX5, Cond.instantiable RX5 3, Cond.initialized RX5, Cond.fieldLink RX7 43 "ForgettingLines" "walk" "LForgettingLines$Walk;"]
def wsX7_init_r2 : List Cond := [Cond.classLink RX7 47 RX3, Cond.instantiable RX3 4, Cond.initialized RX3, Cond.fieldLink RX7 50 "ForgettingLines" "sheets" "[LForgettingLines$Sheet;", Cond.instanceMethod yX0_init, Cond.code yX0_init cX0_init 1 none, Cond.methodLink RX0 3 objectInit, Cond.fieldLink RX0 9 "ForgettingLines$Machine" "states" "I", Cond.arrayClass .boolean, Cond.fieldLink RX0 15 "ForgettingLines$Machine" "isBag" "[Z", Cond.arrayClass .int, Cond.fieldLink RX0 19 "ForgettingLines$Machine" "rows" "[I", Cond.instanceMethod yX4_init, Cond.code yX4_init cX4_init 1 none, Cond.methodLink RX4 3 objectInit, Cond.fieldLink RX4 9 "ForgettingLines$Tape" "rows" "[I", Cond.arrayClass .byte, Cond.fieldLink RX4 15 "ForgettingLines$Tape" "bytes" "[B", Cond.instanceMethod yX1_init, Cond.code yX1_init cX1_init 1 none, Cond.methodLink RX1 3 objectInit, Cond.fieldLink RX1 9 "ForgettingLines$Place" "words" "[I", Cond.instanceMethod yX2_init, Cond.code yX2_init cX2_init 1 none]
def wsX7_init_r3 : List Cond := [Cond.methodLink RX2 3 objectInit, Cond.fieldLink RX2 9 "ForgettingLines$Search" "rounds" "[I", Cond.fieldLink RX2 15 "ForgettingLines$Search" "states" "[I", Cond.fieldLink RX2 18 "ForgettingLines$Search" "words0" "[I", Cond.fieldLink RX2 21 "ForgettingLines$Search" "words1" "[I", Cond.fieldLink RX2 24 "ForgettingLines$Search" "arcs" "[I", Cond.fieldLink RX2 27 "ForgettingLines$Search" "origins" "[I", Cond.instanceMethod yX5_init, Cond.code yX5_init cX5_init 1 none, Cond.methodLink RX5 5 objectInit, Cond.arrayClass .long, Cond.fieldLink RX5 11 "ForgettingLines$Walk" "seen" "[J", Cond.fieldLink RX5 15 "ForgettingLines$Walk" "queue" "[I", Cond.instanceMethod yX3_init, Cond.code yX3_init cX3_init 1 none, Cond.methodLink RX3 3 objectInit, Cond.fieldLink RX3 9 "ForgettingLines$Sheet" "items" "[I"]
def wsX7_init : List Cond := .code yX7_init cX7_init 1 none :: ((wsX7_init_r1 ++ (wsX7_init_r2 ++ wsX7_init_r3)) ++ wsX00 ++ wsX70 ++ wsX40 ++ wsX10 ++ wsX20 ++ wsX50 ++ wsX30)
def wsX7_startAgain : List Cond := .code yX7_startAgain cX7_startAgain 1 none :: ([.fieldLink RX7 26 "ForgettingLines" "here" "LForgettingLines$Place;", .fieldLink RX7 146 "ForgettingLines" "searched" "Z", .methodLink RX7 61 yX1_clear, .instanceMethod yX1_clear, .selects RX1 yX1_clear yX1_clear, .initialized RX1, .code yX1_clear cX1_clear 2 none, .fieldLink RX1 15 "ForgettingLines$Place" "state" "I", .fieldLink RX1 9 "ForgettingLines$Place" "words" "[I"] ++ wsX70 ++ wsX10)
def wsX7_states : List Cond := .code yX7_states cX7_states 3 (some .int) :: ([.fieldLink RX7 10 "ForgettingLines" "machine" "LForgettingLines$Machine;", .fieldLink RX7 54 "ForgettingLines$Machine" "states" "I", .fieldLink RX7 58 "ForgettingLines$Machine" "count" "I", .fieldLink RX7 30 "ForgettingLines" "target" "LForgettingLines$Place;", .methodLink RX7 61 yX1_clear, .instanceMethod yX1_clear, .selects RX1 yX1_clear yX1_clear, .initialized RX1, .code yX1_clear cX1_clear 2 none, .fieldLink RX1 15 "ForgettingLines$Place" "state" "I", .fieldLink RX1 9 "ForgettingLines$Place" "words" "[I", .methodLink RX7 65 yX7_startAgain, .instanceMethod yX7_startAgain, .selects RX7 yX7_startAgain yX7_startAgain, .initialized RX7, .code yX7_startAgain cX7_startAgain 1 none, .fieldLink RX7 26 "ForgettingLines" "here" "LForgettingLines$Place;", .fieldLink RX7 146 "ForgettingLines" "searched" "Z"] ++ wsX70 ++ wsX00 ++ wsX10)
def wsX7_bag : List Cond := .code yX7_bag cX7_bag 4 (some .int) :: ([.fieldLink RX7 10 "ForgettingLines" "machine" "LForgettingLines$Machine;", .fieldLink RX7 72 "ForgettingLines$Machine" "isBag" "[Z", .fieldLink RX7 30 "ForgettingLines" "target" "LForgettingLines$Place;", .methodLink RX7 68 yX7_isAmong, .static yX7_isAmong, .initialized RX7, .code yX7_isAmong cX7_isAmong 2 (some .boolean), .methodLink RX7 61 yX1_clear, .instanceMethod yX1_clear, .selects RX1 yX1_clear yX1_clear, .initialized RX1, .code yX1_clear cX1_clear 2 none, .fieldLink RX1 15 "ForgettingLines$Place" "state" "I", .fieldLink RX1 9 "ForgettingLines$Place" "words" "[I", .methodLink RX7 65 yX7_startAgain, .instanceMethod yX7_startAgain, .selects RX7 yX7_startAgain yX7_startAgain, .code yX7_startAgain cX7_startAgain 1 none, .fieldLink RX7 26 "ForgettingLines" "here" "LForgettingLines$Place;", .fieldLink RX7 146 "ForgettingLines" "searched" "Z"] ++ wsX70 ++ wsX00 ++ wsX10)
def wsX7_arc_r1 : List Cond := [Cond.fieldLink RX7 10 "ForgettingLines" "machine" "LForgettingLines$Machine;", Cond.fieldLink RX7 58 "ForgettingLines$Machine" "count" "I", Cond.methodLink RX7 76 yX0_canHave, Cond.instanceMethod yX0_canHave, Cond.selects RX0 yX0_canHave yX0_canHave, Cond.initialized RX0, Cond.code yX0_canHave cX0_canHave 6 (some .boolean), Cond.fieldLink RX0 9 "ForgettingLines$Machine" "states" "I", Cond.static yX7_isAmong, Cond.initialized RX7, Cond.code yX7_isAmong cX7_isAmong 2 (some .boolean), Cond.methodLink RX7 80 yX0_add, Cond.instanceMethod yX0_add, Cond.selects RX0 yX0_add yX0_add, Cond.code yX0_add cX0_add 7 none, Cond.fieldLink RX0 31 "ForgettingLines$Machine" "count" "I", Cond.fieldLink RX0 19 "ForgettingLines$Machine" "rows" "[I", Cond.methodLink RX7 65 yX7_startAgain, Cond.instanceMethod yX7_startAgain, Cond.selects RX7 yX7_startAgain yX7_startAgain, Cond.code yX7_startAgain cX7_startAgain 1 none, Cond.fieldLink RX7 26 "ForgettingLines" "here" "LForgettingLines$Place;", Cond.fieldLink RX7 146 "ForgettingLines" "searched" "Z", Cond.methodLink RX7 61 yX1_clear]
def wsX7_arc_r2 : List Cond := [Cond.instanceMethod yX1_clear, Cond.selects RX1 yX1_clear yX1_clear, Cond.initialized RX1, Cond.code yX1_clear cX1_clear 2 none, Cond.fieldLink RX1 15 "ForgettingLines$Place" "state" "I", Cond.fieldLink RX1 9 "ForgettingLines$Place" "words" "[I"]
def wsX7_arc : List Cond := .code yX7_arc cX7_arc 6 (some .int) :: ((wsX7_arc_r1 ++ wsX7_arc_r2) ++ wsX70 ++ wsX00 ++ wsX10)
def wsX7_unarc : List Cond := .code yX7_unarc cX7_unarc 1 (some .int) :: ([.fieldLink RX7 10 "ForgettingLines" "machine" "LForgettingLines$Machine;", .fieldLink RX7 58 "ForgettingLines$Machine" "count" "I", .methodLink RX7 65 yX7_startAgain, .instanceMethod yX7_startAgain, .selects RX7 yX7_startAgain yX7_startAgain, .initialized RX7, .code yX7_startAgain cX7_startAgain 1 none, .fieldLink RX7 26 "ForgettingLines" "here" "LForgettingLines$Place;", .fieldLink RX7 146 "ForgettingLines" "searched" "Z", .methodLink RX7 61 yX1_clear, .instanceMethod yX1_clear, .selects RX1 yX1_clear yX1_clear, .initialized RX1, .code yX1_clear cX1_clear 2 none, .fieldLink RX1 15 "ForgettingLines$Place" "state" "I", .fieldLink RX1 9 "ForgettingLines$Place" "words" "[I"] ++ wsX70 ++ wsX00 ++ wsX10)
def wsX7_told : List Cond := .code yX7_told cX7_told 3 (some .int) :: ([.fieldLink RX7 10 "ForgettingLines" "machine" "LForgettingLines$Machine;", .fieldLink RX7 58 "ForgettingLines$Machine" "count" "I", .methodLink RX7 68 yX7_isAmong, .static yX7_isAmong, .initialized RX7, .code yX7_isAmong cX7_isAmong 2 (some .boolean), .methodLink RX7 84 yX0_part, .instanceMethod yX0_part, .selects RX0 yX0_part yX0_part, .initialized RX0, .code yX0_part cX0_part 3 (some .int), .fieldLink RX0 19 "ForgettingLines$Machine" "rows" "[I"] ++ wsX70 ++ wsX00)
def wsX7_type : List Cond := .code yX7_type cX7_type 4 (some .int) :: ([.fieldLink RX7 19 "ForgettingLines" "tape" "LForgettingLines$Tape;", .fieldLink RX7 91 "ForgettingLines$Tape" "size" "I", .methodLink RX7 88 yX4_canHave, .static yX4_canHave, .initialized RX4, .code yX4_canHave cX4_canHave 5 (some .boolean), .methodLink RX4 19 yX4_byteOf, .static yX4_byteOf, .code yX4_byteOf cX4_byteOf 3 (some .int), .methodLink RX7 94 yX4_add, .instanceMethod yX4_add, .selects RX4 yX4_add yX4_add, .code yX4_add cX4_add 5 none, .fieldLink RX4 15 "ForgettingLines$Tape" "bytes" "[B", .fieldLink RX4 23 "ForgettingLines$Tape" "size" "I"] ++ wsX70 ++ wsX40)
def wsX7_read_r1 : List Cond := [Cond.fieldLink RX7 19 "ForgettingLines" "tape" "LForgettingLines$Tape;", Cond.fieldLink RX7 10 "ForgettingLines" "machine" "LForgettingLines$Machine;", Cond.fieldLink RX7 54 "ForgettingLines$Machine" "states" "I", Cond.fieldLink RX7 91 "ForgettingLines$Tape" "size" "I", Cond.fieldLink RX7 101 "ForgettingLines$Tape" "rows" "[I", Cond.methodLink RX7 97 yX4_parse, Cond.instanceMethod yX4_parse, Cond.selects RX4 yX4_parse yX4_parse, Cond.initialized RX4, Cond.code yX4_parse cX4_parse 3 (some .int), Cond.fieldLink RX4 27 "ForgettingLines$Tape" "at" "I", Cond.fieldLink RX4 23 "ForgettingLines$Tape" "size" "I", Cond.fieldLink RX4 15 "ForgettingLines$Tape" "bytes" "[B", Cond.methodLink RX4 30 yX4_parseArc, Cond.instanceMethod yX4_parseArc, Cond.selects RX4 yX4_parseArc yX4_parseArc, Cond.code yX4_parseArc cX4_parseArc 4 (some .boolean), Cond.fieldLink RX4 9 "ForgettingLines$Tape" "rows" "[I", Cond.methodLink RX4 37 yX4_oneOf, Cond.instanceMethod yX4_oneOf, Cond.selects RX4 yX4_oneOf yX4_oneOf, Cond.code yX4_oneOf cX4_oneOf 3 (some .int), Cond.methodLink RX4 34 yX4_skipBlanks, Cond.instanceMethod yX4_skipBlanks]
def wsX7_read_r2 : List Cond := [Cond.selects RX4 yX4_skipBlanks yX4_skipBlanks, Cond.code yX4_skipBlanks cX4_skipBlanks 1 none, Cond.static yX7_isAmong, Cond.initialized RX7, Cond.code yX7_isAmong cX7_isAmong 2 (some .boolean), Cond.methodLink RX4 41 yX4_parseAct, Cond.instanceMethod yX4_parseAct, Cond.selects RX4 yX4_parseAct yX4_parseAct, Cond.code yX4_parseAct cX4_parseAct 1 (some .int), Cond.methodLink RX4 45 yX4_parseLetterAndLine, Cond.instanceMethod yX4_parseLetterAndLine, Cond.selects RX4 yX4_parseLetterAndLine yX4_parseLetterAndLine, Cond.code yX4_parseLetterAndLine cX4_parseLetterAndLine 2 (some .boolean), Cond.methodLink RX7 105 yX0_replace, Cond.instanceMethod yX0_replace, Cond.selects RX0 yX0_replace yX0_replace, Cond.initialized RX0, Cond.code yX0_replace cX0_replace 3 none, Cond.fieldLink RX0 31 "ForgettingLines$Machine" "count" "I", Cond.methodLink RX0 38 yX0_addAll, Cond.instanceMethod yX0_addAll, Cond.selects RX0 yX0_addAll yX0_addAll, Cond.code yX0_addAll cX0_addAll 6 none, Cond.methodLink RX0 34 yX0_add]
def wsX7_read_r3 : List Cond := [Cond.instanceMethod yX0_add, Cond.selects RX0 yX0_add yX0_add, Cond.code yX0_add cX0_add 7 none, Cond.fieldLink RX0 19 "ForgettingLines$Machine" "rows" "[I", Cond.methodLink RX7 65 yX7_startAgain, Cond.instanceMethod yX7_startAgain, Cond.selects RX7 yX7_startAgain yX7_startAgain, Cond.code yX7_startAgain cX7_startAgain 1 none, Cond.fieldLink RX7 26 "ForgettingLines" "here" "LForgettingLines$Place;", Cond.fieldLink RX7 146 "ForgettingLines" "searched" "Z", Cond.methodLink RX7 61 yX1_clear, Cond.instanceMethod yX1_clear, Cond.selects RX1 yX1_clear yX1_clear, Cond.initialized RX1, Cond.code yX1_clear cX1_clear 2 none, Cond.fieldLink RX1 15 "ForgettingLines$Place" "state" "I", Cond.fieldLink RX1 9 "ForgettingLines$Place" "words" "[I"]
def wsX7_read : List Cond := .code yX7_read cX7_read 2 (some .int) :: ((wsX7_read_r1 ++ (wsX7_read_r2 ++ wsX7_read_r3)) ++ wsX70 ++ wsX00 ++ wsX40 ++ wsX10)
def wsX7_arcs_r1 : List Cond := [Cond.fieldLink RX7 50 "ForgettingLines" "sheets" "[LForgettingLines$Sheet;", Cond.fieldLink RX7 112 "ForgettingLines$Sheet" "size" "I", Cond.fieldLink RX7 10 "ForgettingLines" "machine" "LForgettingLines$Machine;", Cond.fieldLink RX7 113 "ForgettingLines$Sheet" "items" "[I", Cond.fieldLink RX7 58 "ForgettingLines$Machine" "count" "I", Cond.methodLink RX7 68 yX7_isAmong, Cond.static yX7_isAmong, Cond.initialized RX7, Cond.code yX7_isAmong cX7_isAmong 2 (some .boolean), Cond.methodLink RX7 109 yX3_faultAs, Cond.instanceMethod yX3_faultAs, Cond.selects RX3 yX3_faultAs yX3_faultAs, Cond.initialized RX3, Cond.code yX3_faultAs cX3_faultAs 2 (some .int), Cond.fieldLink RX3 15 "ForgettingLines$Sheet" "held" "Z", Cond.fieldLink RX3 19 "ForgettingLines$Sheet" "lane" "I", Cond.methodLink RX7 116 yX0_canHaveAll, Cond.instanceMethod yX0_canHaveAll, Cond.selects RX0 yX0_canHaveAll yX0_canHaveAll, Cond.initialized RX0, Cond.code yX0_canHaveAll cX0_canHaveAll 6 (some .boolean), Cond.methodLink RX0 27 yX0_canHave, Cond.instanceMethod yX0_canHave, Cond.selects RX0 yX0_canHave yX0_canHave]
def wsX7_arcs_r2 : List Cond := [Cond.code yX0_canHave cX0_canHave 6 (some .boolean), Cond.fieldLink RX0 9 "ForgettingLines$Machine" "states" "I", Cond.methodLink RX7 120 yX0_addAll, Cond.instanceMethod yX0_addAll, Cond.selects RX0 yX0_addAll yX0_addAll, Cond.code yX0_addAll cX0_addAll 6 none, Cond.methodLink RX0 34 yX0_add, Cond.instanceMethod yX0_add, Cond.selects RX0 yX0_add yX0_add, Cond.code yX0_add cX0_add 7 none, Cond.fieldLink RX0 31 "ForgettingLines$Machine" "count" "I", Cond.fieldLink RX0 19 "ForgettingLines$Machine" "rows" "[I", Cond.methodLink RX7 65 yX7_startAgain, Cond.instanceMethod yX7_startAgain, Cond.selects RX7 yX7_startAgain yX7_startAgain, Cond.code yX7_startAgain cX7_startAgain 1 none, Cond.fieldLink RX7 26 "ForgettingLines" "here" "LForgettingLines$Place;", Cond.fieldLink RX7 146 "ForgettingLines" "searched" "Z", Cond.methodLink RX7 61 yX1_clear, Cond.instanceMethod yX1_clear, Cond.selects RX1 yX1_clear yX1_clear, Cond.initialized RX1, Cond.code yX1_clear cX1_clear 2 none, Cond.fieldLink RX1 15 "ForgettingLines$Place" "state" "I"]
def wsX7_arcs_r3 : List Cond := [Cond.fieldLink RX1 9 "ForgettingLines$Place" "words" "[I"]
def wsX7_arcs : List Cond := .code yX7_arcs cX7_arcs 7 (some .int) :: ((wsX7_arcs_r1 ++ (wsX7_arcs_r2 ++ wsX7_arcs_r3)) ++ wsX70 ++ wsX30 ++ wsX00 ++ wsX10)
def wsX7_go_r1 : List Cond := [Cond.fieldLink RX7 10 "ForgettingLines" "machine" "LForgettingLines$Machine;", Cond.fieldLink RX7 58 "ForgettingLines$Machine" "count" "I", Cond.fieldLink RX7 26 "ForgettingLines" "here" "LForgettingLines$Place;", Cond.fieldLink RX7 124 "ForgettingLines$Place" "state" "I", Cond.fieldLink RX7 127 "ForgettingLines$Place" "words" "[I", Cond.methodLink RX7 68 yX7_isAmong, Cond.static yX7_isAmong, Cond.initialized RX7, Cond.code yX7_isAmong cX7_isAmong 2 (some .boolean), Cond.methodLink RX7 84 yX0_part, Cond.instanceMethod yX0_part, Cond.selects RX0 yX0_part yX0_part, Cond.initialized RX0, Cond.code yX0_part cX0_part 3 (some .int), Cond.fieldLink RX0 19 "ForgettingLines$Machine" "rows" "[I", Cond.methodLink RX7 130 yX0_wordBehind, Cond.instanceMethod yX0_wordBehind, Cond.selects RX0 yX0_wordBehind yX0_wordBehind, Cond.code yX0_wordBehind cX0_wordBehind 7 (some .int), Cond.fieldLink RX0 15 "ForgettingLines$Machine" "isBag" "[Z", Cond.methodLink RX0 56 yX0_part, Cond.methodLink RX0 59 yX0_wordWith, Cond.instanceMethod yX0_wordWith, Cond.selects RX0 yX0_wordWith yX0_wordWith]
def wsX7_go_r2 : List Cond := [Cond.code yX0_wordWith cX0_wordWith 5 (some .int), Cond.methodLink RX0 42 yX6_placeInOrder, Cond.static yX6_placeInOrder, Cond.initialized RX6, Cond.code yX6_placeInOrder cX6_placeInOrder 4 (some .int), Cond.methodLink RX0 48 yX6_size, Cond.static yX6_size, Cond.code yX6_size cX6_size 2 (some .int), Cond.methodLink RX0 52 yX6_with, Cond.static yX6_with, Cond.code yX6_with cX6_with 5 (some .int), Cond.methodLink RX0 62 yX6_find, Cond.static yX6_find, Cond.code yX6_find cX6_find 3 (some .int), Cond.methodLink RX0 65 yX6_without, Cond.static yX6_without, Cond.code yX6_without cX6_without 4 (some .int), Cond.methodLink RX7 135 yX6_isLonger, Cond.static yX6_isLonger, Cond.code yX6_isLonger cX6_isLonger 2 (some .boolean)]
def wsX7_go : List Cond := .code yX7_go cX7_go 4 (some .int) :: ((wsX7_go_r1 ++ wsX7_go_r2) ++ wsX70 ++ wsX00 ++ wsX10)
def wsX7_lose : List Cond := .code yX7_lose cX7_lose 4 (some .int) :: ([.fieldLink RX7 26 "ForgettingLines" "here" "LForgettingLines$Place;", .fieldLink RX7 127 "ForgettingLines$Place" "words" "[I", .methodLink RX7 68 yX7_isAmong, .static yX7_isAmong, .initialized RX7, .code yX7_isAmong cX7_isAmong 2 (some .boolean), .methodLink RX7 138 yX6_size, .static yX6_size, .initialized RX6, .code yX6_size cX6_size 2 (some .int), .methodLink RX7 140 yX6_at, .static yX6_at, .code yX6_at cX6_at 2 (some .int), .methodLink RX7 143 yX6_without, .static yX6_without, .code yX6_without cX6_without 4 (some .int)] ++ wsX70 ++ wsX10)
def wsX7_now : List Cond := .code yX7_now cX7_now 4 (some .int) :: ([.fieldLink RX7 26 "ForgettingLines" "here" "LForgettingLines$Place;", .fieldLink RX7 124 "ForgettingLines$Place" "state" "I", .fieldLink RX7 127 "ForgettingLines$Place" "words" "[I", .methodLink RX7 68 yX7_isAmong, .static yX7_isAmong, .initialized RX7, .code yX7_isAmong cX7_isAmong 2 (some .boolean), .methodLink RX7 138 yX6_size, .static yX6_size, .initialized RX6, .code yX6_size cX6_size 2 (some .int), .methodLink RX7 140 yX6_at, .static yX6_at, .code yX6_at cX6_at 2 (some .int)] ++ wsX70 ++ wsX10)
def wsX7_reset : List Cond := .code yX7_reset cX7_reset 1 (some .int) :: ([.fieldLink RX7 26 "ForgettingLines" "here" "LForgettingLines$Place;", .methodLink RX7 61 yX1_clear, .instanceMethod yX1_clear, .selects RX1 yX1_clear yX1_clear, .initialized RX1, .code yX1_clear cX1_clear 2 none, .fieldLink RX1 15 "ForgettingLines$Place" "state" "I", .fieldLink RX1 9 "ForgettingLines$Place" "words" "[I"] ++ wsX70 ++ wsX10)
def wsX7_aim : List Cond := .code yX7_aim cX7_aim 2 (some .int) :: ([.fieldLink RX7 10 "ForgettingLines" "machine" "LForgettingLines$Machine;", .fieldLink RX7 54 "ForgettingLines$Machine" "states" "I", .fieldLink RX7 30 "ForgettingLines" "target" "LForgettingLines$Place;", .fieldLink RX7 146 "ForgettingLines" "searched" "Z", .methodLink RX7 68 yX7_isAmong, .static yX7_isAmong, .initialized RX7, .code yX7_isAmong cX7_isAmong 2 (some .boolean), .methodLink RX7 61 yX1_clear, .instanceMethod yX1_clear, .selects RX1 yX1_clear yX1_clear, .initialized RX1, .code yX1_clear cX1_clear 2 none, .fieldLink RX1 15 "ForgettingLines$Place" "state" "I", .fieldLink RX1 9 "ForgettingLines$Place" "words" "[I"] ++ wsX70 ++ wsX00 ++ wsX10)
def wsX7_want_r1 : List Cond := [Cond.fieldLink RX7 30 "ForgettingLines" "target" "LForgettingLines$Place;", Cond.fieldLink RX7 127 "ForgettingLines$Place" "words" "[I", Cond.fieldLink RX7 10 "ForgettingLines" "machine" "LForgettingLines$Machine;", Cond.fieldLink RX7 146 "ForgettingLines" "searched" "Z", Cond.methodLink RX7 68 yX7_isAmong, Cond.static yX7_isAmong, Cond.initialized RX7, Cond.code yX7_isAmong cX7_isAmong 2 (some .boolean), Cond.methodLink RX7 138 yX6_size, Cond.static yX6_size, Cond.initialized RX6, Cond.code yX6_size cX6_size 2 (some .int), Cond.methodLink RX7 150 yX0_wordWith, Cond.instanceMethod yX0_wordWith, Cond.selects RX0 yX0_wordWith yX0_wordWith, Cond.initialized RX0, Cond.code yX0_wordWith cX0_wordWith 5 (some .int), Cond.fieldLink RX0 15 "ForgettingLines$Machine" "isBag" "[Z", Cond.methodLink RX0 42 yX6_placeInOrder, Cond.static yX6_placeInOrder, Cond.code yX6_placeInOrder cX6_placeInOrder 4 (some .int), Cond.methodLink RX0 48 yX6_size, Cond.methodLink RX0 52 yX6_with, Cond.static yX6_with]
def wsX7_want_r2 : List Cond := [Cond.code yX6_with cX6_with 5 (some .int)]
def wsX7_want : List Cond := .code yX7_want cX7_want 4 (some .int) :: ((wsX7_want_r1 ++ wsX7_want_r2) ++ wsX70 ++ wsX10 ++ wsX00)
def wsX7_searchOnce_r1 : List Cond := [Cond.fieldLink RX7 146 "ForgettingLines" "searched" "Z", Cond.fieldLink RX7 36 "ForgettingLines" "search" "LForgettingLines$Search;", Cond.fieldLink RX7 10 "ForgettingLines" "machine" "LForgettingLines$Machine;", Cond.fieldLink RX7 30 "ForgettingLines" "target" "LForgettingLines$Place;", Cond.methodLink RX7 197 yX2_run, Cond.instanceMethod yX2_run, Cond.selects RX2 yX2_run yX2_run, Cond.initialized RX2, Cond.code yX2_run cX2_run 5 none, Cond.fieldLink RX2 30 "ForgettingLines$Search" "count" "I", Cond.fieldLink RX2 34 "ForgettingLines$Search" "spent" "Z", Cond.fieldLink RX2 38 "ForgettingLines$Place" "state" "I", Cond.fieldLink RX2 43 "ForgettingLines$Place" "words" "[I", Cond.fieldLink RX2 50 "ForgettingLines$Machine" "count" "I", Cond.fieldLink RX2 15 "ForgettingLines$Search" "states" "[I", Cond.methodLink RX2 46 yX2_add, Cond.instanceMethod yX2_add, Cond.selects RX2 yX2_add yX2_add, Cond.code yX2_add cX2_add 6 none, Cond.fieldLink RX2 18 "ForgettingLines$Search" "words0" "[I", Cond.fieldLink RX2 21 "ForgettingLines$Search" "words1" "[I", Cond.fieldLink RX2 24 "ForgettingLines$Search" "arcs" "[I", Cond.fieldLink RX2 27 "ForgettingLines$Search" "origins" "[I", Cond.fieldLink RX2 9 "ForgettingLines$Search" "rounds" "[I"]
def wsX7_searchOnce_r2 : List Cond := [Cond.methodLink RX2 53 yX0_part, Cond.instanceMethod yX0_part, Cond.selects RX0 yX0_part yX0_part, Cond.initialized RX0, Cond.code yX0_part cX0_part 3 (some .int), Cond.fieldLink RX0 19 "ForgettingLines$Machine" "rows" "[I", Cond.methodLink RX2 57 yX2_lookAhead, Cond.instanceMethod yX2_lookAhead, Cond.selects RX2 yX2_lookAhead yX2_lookAhead, Cond.code yX2_lookAhead cX2_lookAhead 8 none, Cond.methodLink RX2 61 yX0_wordAhead, Cond.instanceMethod yX0_wordAhead, Cond.selects RX0 yX0_wordAhead yX0_wordAhead, Cond.code yX0_wordAhead cX0_wordAhead 6 (some .int), Cond.fieldLink RX0 15 "ForgettingLines$Machine" "isBag" "[Z", Cond.methodLink RX0 56 yX0_part, Cond.methodLink RX0 62 yX6_find, Cond.static yX6_find, Cond.initialized RX6, Cond.code yX6_find cX6_find 3 (some .int), Cond.methodLink RX0 48 yX6_size, Cond.static yX6_size, Cond.code yX6_size cX6_size 2 (some .int), Cond.methodLink RX0 68 yX6_at]
def wsX7_searchOnce_r3 : List Cond := [Cond.static yX6_at, Cond.code yX6_at cX6_at 2 (some .int), Cond.methodLink RX0 65 yX6_without, Cond.static yX6_without, Cond.code yX6_without cX6_without 4 (some .int), Cond.methodLink RX0 59 yX0_wordWith, Cond.instanceMethod yX0_wordWith, Cond.selects RX0 yX0_wordWith yX0_wordWith, Cond.code yX0_wordWith cX0_wordWith 5 (some .int), Cond.methodLink RX0 42 yX6_placeInOrder, Cond.static yX6_placeInOrder, Cond.code yX6_placeInOrder cX6_placeInOrder 4 (some .int), Cond.methodLink RX0 52 yX6_with, Cond.static yX6_with, Cond.code yX6_with cX6_with 5 (some .int), Cond.methodLink RX2 64 yX2_firstBelow, Cond.instanceMethod yX2_firstBelow, Cond.selects RX2 yX2_firstBelow yX2_firstBelow, Cond.code yX2_firstBelow cX2_firstBelow 5 (some .int), Cond.methodLink RX2 74 yX2_isBelowPlace, Cond.instanceMethod yX2_isBelowPlace, Cond.selects RX2 yX2_isBelowPlace yX2_isBelowPlace, Cond.code yX2_isBelowPlace cX2_isBelowPlace 5 (some .boolean), Cond.methodLink RX2 78 yX6_isIn]
def wsX7_searchOnce_r4 : List Cond := [Cond.static yX6_isIn, Cond.code yX6_isIn cX6_isIn 5 (some .boolean), Cond.methodLink RX2 68 yX6_isLonger, Cond.static yX6_isLonger, Cond.code yX6_isLonger cX6_isLonger 2 (some .boolean)]
def wsX7_searchOnce : List Cond := .code yX7_searchOnce cX7_searchOnce 1 none :: ((wsX7_searchOnce_r1 ++ (wsX7_searchOnce_r2 ++ (wsX7_searchOnce_r3 ++ wsX7_searchOnce_r4))) ++ wsX70 ++ wsX20 ++ wsX10 ++ wsX00)
def wsX7_found_r1 : List Cond := [Cond.fieldLink RX7 36 "ForgettingLines" "search" "LForgettingLines$Search;", Cond.fieldLink RX7 157 "ForgettingLines$Search" "spent" "Z", Cond.fieldLink RX7 160 "ForgettingLines$Search" "count" "I", Cond.methodLink RX7 154 yX7_searchOnce, Cond.instanceMethod yX7_searchOnce, Cond.selects RX7 yX7_searchOnce yX7_searchOnce, Cond.initialized RX7, Cond.code yX7_searchOnce cX7_searchOnce 1 none, Cond.fieldLink RX7 146 "ForgettingLines" "searched" "Z", Cond.fieldLink RX7 10 "ForgettingLines" "machine" "LForgettingLines$Machine;", Cond.fieldLink RX7 30 "ForgettingLines" "target" "LForgettingLines$Place;", Cond.methodLink RX7 197 yX2_run, Cond.instanceMethod yX2_run, Cond.selects RX2 yX2_run yX2_run, Cond.initialized RX2, Cond.code yX2_run cX2_run 5 none, Cond.fieldLink RX2 30 "ForgettingLines$Search" "count" "I", Cond.fieldLink RX2 34 "ForgettingLines$Search" "spent" "Z", Cond.fieldLink RX2 38 "ForgettingLines$Place" "state" "I", Cond.fieldLink RX2 43 "ForgettingLines$Place" "words" "[I", Cond.fieldLink RX2 50 "ForgettingLines$Machine" "count" "I", Cond.fieldLink RX2 15 "ForgettingLines$Search" "states" "[I", Cond.methodLink RX2 46 yX2_add, Cond.instanceMethod yX2_add]
def wsX7_found_r2 : List Cond := [Cond.selects RX2 yX2_add yX2_add, Cond.code yX2_add cX2_add 6 none, Cond.fieldLink RX2 18 "ForgettingLines$Search" "words0" "[I", Cond.fieldLink RX2 21 "ForgettingLines$Search" "words1" "[I", Cond.fieldLink RX2 24 "ForgettingLines$Search" "arcs" "[I", Cond.fieldLink RX2 27 "ForgettingLines$Search" "origins" "[I", Cond.fieldLink RX2 9 "ForgettingLines$Search" "rounds" "[I", Cond.methodLink RX2 53 yX0_part, Cond.instanceMethod yX0_part, Cond.selects RX0 yX0_part yX0_part, Cond.initialized RX0, Cond.code yX0_part cX0_part 3 (some .int), Cond.fieldLink RX0 19 "ForgettingLines$Machine" "rows" "[I", Cond.methodLink RX2 57 yX2_lookAhead, Cond.instanceMethod yX2_lookAhead, Cond.selects RX2 yX2_lookAhead yX2_lookAhead, Cond.code yX2_lookAhead cX2_lookAhead 8 none, Cond.methodLink RX2 61 yX0_wordAhead, Cond.instanceMethod yX0_wordAhead, Cond.selects RX0 yX0_wordAhead yX0_wordAhead, Cond.code yX0_wordAhead cX0_wordAhead 6 (some .int), Cond.fieldLink RX0 15 "ForgettingLines$Machine" "isBag" "[Z", Cond.methodLink RX0 56 yX0_part, Cond.methodLink RX0 62 yX6_find]
def wsX7_found_r3 : List Cond := [Cond.static yX6_find, Cond.initialized RX6, Cond.code yX6_find cX6_find 3 (some .int), Cond.methodLink RX0 48 yX6_size, Cond.static yX6_size, Cond.code yX6_size cX6_size 2 (some .int), Cond.methodLink RX0 68 yX6_at, Cond.static yX6_at, Cond.code yX6_at cX6_at 2 (some .int), Cond.methodLink RX0 65 yX6_without, Cond.static yX6_without, Cond.code yX6_without cX6_without 4 (some .int), Cond.methodLink RX0 59 yX0_wordWith, Cond.instanceMethod yX0_wordWith, Cond.selects RX0 yX0_wordWith yX0_wordWith, Cond.code yX0_wordWith cX0_wordWith 5 (some .int), Cond.methodLink RX0 42 yX6_placeInOrder, Cond.static yX6_placeInOrder, Cond.code yX6_placeInOrder cX6_placeInOrder 4 (some .int), Cond.methodLink RX0 52 yX6_with, Cond.static yX6_with, Cond.code yX6_with cX6_with 5 (some .int), Cond.methodLink RX2 64 yX2_firstBelow, Cond.instanceMethod yX2_firstBelow]
def wsX7_found_r4 : List Cond := [Cond.selects RX2 yX2_firstBelow yX2_firstBelow, Cond.code yX2_firstBelow cX2_firstBelow 5 (some .int), Cond.methodLink RX2 74 yX2_isBelowPlace, Cond.instanceMethod yX2_isBelowPlace, Cond.selects RX2 yX2_isBelowPlace yX2_isBelowPlace, Cond.code yX2_isBelowPlace cX2_isBelowPlace 5 (some .boolean), Cond.methodLink RX2 78 yX6_isIn, Cond.static yX6_isIn, Cond.code yX6_isIn cX6_isIn 5 (some .boolean), Cond.methodLink RX2 68 yX6_isLonger, Cond.static yX6_isLonger, Cond.code yX6_isLonger cX6_isLonger 2 (some .boolean)]
def wsX7_found : List Cond := .code yX7_found cX7_found 1 (some .int) :: ((wsX7_found_r1 ++ (wsX7_found_r2 ++ (wsX7_found_r3 ++ wsX7_found_r4))) ++ wsX70 ++ wsX20 ++ wsX10 ++ wsX00)
def wsX7_about_r1 : List Cond := [Cond.fieldLink RX7 36 "ForgettingLines" "search" "LForgettingLines$Search;", Cond.fieldLink RX7 157 "ForgettingLines$Search" "spent" "Z", Cond.fieldLink RX7 160 "ForgettingLines$Search" "count" "I", Cond.methodLink RX7 154 yX7_searchOnce, Cond.instanceMethod yX7_searchOnce, Cond.selects RX7 yX7_searchOnce yX7_searchOnce, Cond.initialized RX7, Cond.code yX7_searchOnce cX7_searchOnce 1 none, Cond.fieldLink RX7 146 "ForgettingLines" "searched" "Z", Cond.fieldLink RX7 10 "ForgettingLines" "machine" "LForgettingLines$Machine;", Cond.fieldLink RX7 30 "ForgettingLines" "target" "LForgettingLines$Place;", Cond.methodLink RX7 197 yX2_run, Cond.instanceMethod yX2_run, Cond.selects RX2 yX2_run yX2_run, Cond.initialized RX2, Cond.code yX2_run cX2_run 5 none, Cond.fieldLink RX2 30 "ForgettingLines$Search" "count" "I", Cond.fieldLink RX2 34 "ForgettingLines$Search" "spent" "Z", Cond.fieldLink RX2 38 "ForgettingLines$Place" "state" "I", Cond.fieldLink RX2 43 "ForgettingLines$Place" "words" "[I", Cond.fieldLink RX2 50 "ForgettingLines$Machine" "count" "I", Cond.fieldLink RX2 15 "ForgettingLines$Search" "states" "[I", Cond.methodLink RX2 46 yX2_add, Cond.instanceMethod yX2_add]
def wsX7_about_r2 : List Cond := [Cond.selects RX2 yX2_add yX2_add, Cond.code yX2_add cX2_add 6 none, Cond.fieldLink RX2 18 "ForgettingLines$Search" "words0" "[I", Cond.fieldLink RX2 21 "ForgettingLines$Search" "words1" "[I", Cond.fieldLink RX2 24 "ForgettingLines$Search" "arcs" "[I", Cond.fieldLink RX2 27 "ForgettingLines$Search" "origins" "[I", Cond.fieldLink RX2 9 "ForgettingLines$Search" "rounds" "[I", Cond.methodLink RX2 53 yX0_part, Cond.instanceMethod yX0_part, Cond.selects RX0 yX0_part yX0_part, Cond.initialized RX0, Cond.code yX0_part cX0_part 3 (some .int), Cond.fieldLink RX0 19 "ForgettingLines$Machine" "rows" "[I", Cond.methodLink RX2 57 yX2_lookAhead, Cond.instanceMethod yX2_lookAhead, Cond.selects RX2 yX2_lookAhead yX2_lookAhead, Cond.code yX2_lookAhead cX2_lookAhead 8 none, Cond.methodLink RX2 61 yX0_wordAhead, Cond.instanceMethod yX0_wordAhead, Cond.selects RX0 yX0_wordAhead yX0_wordAhead, Cond.code yX0_wordAhead cX0_wordAhead 6 (some .int), Cond.fieldLink RX0 15 "ForgettingLines$Machine" "isBag" "[Z", Cond.methodLink RX0 56 yX0_part, Cond.methodLink RX0 62 yX6_find]
def wsX7_about_r3 : List Cond := [Cond.static yX6_find, Cond.initialized RX6, Cond.code yX6_find cX6_find 3 (some .int), Cond.methodLink RX0 48 yX6_size, Cond.static yX6_size, Cond.code yX6_size cX6_size 2 (some .int), Cond.methodLink RX0 68 yX6_at, Cond.static yX6_at, Cond.code yX6_at cX6_at 2 (some .int), Cond.methodLink RX0 65 yX6_without, Cond.static yX6_without, Cond.code yX6_without cX6_without 4 (some .int), Cond.methodLink RX0 59 yX0_wordWith, Cond.instanceMethod yX0_wordWith, Cond.selects RX0 yX0_wordWith yX0_wordWith, Cond.code yX0_wordWith cX0_wordWith 5 (some .int), Cond.methodLink RX0 42 yX6_placeInOrder, Cond.static yX6_placeInOrder, Cond.code yX6_placeInOrder cX6_placeInOrder 4 (some .int), Cond.methodLink RX0 52 yX6_with, Cond.static yX6_with, Cond.code yX6_with cX6_with 5 (some .int), Cond.methodLink RX2 64 yX2_firstBelow, Cond.instanceMethod yX2_firstBelow]
def wsX7_about_r4 : List Cond := [Cond.selects RX2 yX2_firstBelow yX2_firstBelow, Cond.code yX2_firstBelow cX2_firstBelow 5 (some .int), Cond.methodLink RX2 74 yX2_isBelowPlace, Cond.instanceMethod yX2_isBelowPlace, Cond.selects RX2 yX2_isBelowPlace yX2_isBelowPlace, Cond.code yX2_isBelowPlace cX2_isBelowPlace 5 (some .boolean), Cond.methodLink RX2 78 yX6_isIn, Cond.static yX6_isIn, Cond.code yX6_isIn cX6_isIn 5 (some .boolean), Cond.methodLink RX2 68 yX6_isLonger, Cond.static yX6_isLonger, Cond.code yX6_isLonger cX6_isLonger 2 (some .boolean), Cond.methodLink RX7 161 yX2_fact, Cond.instanceMethod yX2_fact, Cond.selects RX2 yX2_fact yX2_fact, Cond.code yX2_fact cX2_fact 3 (some .int), Cond.methodLink RX2 85 yX6_size, Cond.methodLink RX2 81 yX2_isLeast, Cond.instanceMethod yX2_isLeast, Cond.selects RX2 yX2_isLeast yX2_isLeast, Cond.code yX2_isLeast cX2_isLeast 3 (some .boolean)]
def wsX7_about : List Cond := .code yX7_about cX7_about 3 (some .int) :: ((wsX7_about_r1 ++ (wsX7_about_r2 ++ (wsX7_about_r3 ++ wsX7_about_r4))) ++ wsX70 ++ wsX20 ++ wsX10 ++ wsX00)
def wsX7_letter_r1 : List Cond := [Cond.fieldLink RX7 36 "ForgettingLines" "search" "LForgettingLines$Search;", Cond.fieldLink RX7 157 "ForgettingLines$Search" "spent" "Z", Cond.fieldLink RX7 160 "ForgettingLines$Search" "count" "I", Cond.methodLink RX7 68 yX7_isAmong, Cond.static yX7_isAmong, Cond.initialized RX7, Cond.code yX7_isAmong cX7_isAmong 2 (some .boolean), Cond.methodLink RX7 154 yX7_searchOnce, Cond.instanceMethod yX7_searchOnce, Cond.selects RX7 yX7_searchOnce yX7_searchOnce, Cond.code yX7_searchOnce cX7_searchOnce 1 none, Cond.fieldLink RX7 146 "ForgettingLines" "searched" "Z", Cond.fieldLink RX7 10 "ForgettingLines" "machine" "LForgettingLines$Machine;", Cond.fieldLink RX7 30 "ForgettingLines" "target" "LForgettingLines$Place;", Cond.methodLink RX7 197 yX2_run, Cond.instanceMethod yX2_run, Cond.selects RX2 yX2_run yX2_run, Cond.initialized RX2, Cond.code yX2_run cX2_run 5 none, Cond.fieldLink RX2 30 "ForgettingLines$Search" "count" "I", Cond.fieldLink RX2 34 "ForgettingLines$Search" "spent" "Z", Cond.fieldLink RX2 38 "ForgettingLines$Place" "state" "I", Cond.fieldLink RX2 43 "ForgettingLines$Place" "words" "[I", Cond.fieldLink RX2 50 "ForgettingLines$Machine" "count" "I"]
def wsX7_letter_r2 : List Cond := [Cond.fieldLink RX2 15 "ForgettingLines$Search" "states" "[I", Cond.methodLink RX2 46 yX2_add, Cond.instanceMethod yX2_add, Cond.selects RX2 yX2_add yX2_add, Cond.code yX2_add cX2_add 6 none, Cond.fieldLink RX2 18 "ForgettingLines$Search" "words0" "[I", Cond.fieldLink RX2 21 "ForgettingLines$Search" "words1" "[I", Cond.fieldLink RX2 24 "ForgettingLines$Search" "arcs" "[I", Cond.fieldLink RX2 27 "ForgettingLines$Search" "origins" "[I", Cond.fieldLink RX2 9 "ForgettingLines$Search" "rounds" "[I", Cond.methodLink RX2 53 yX0_part, Cond.instanceMethod yX0_part, Cond.selects RX0 yX0_part yX0_part, Cond.initialized RX0, Cond.code yX0_part cX0_part 3 (some .int), Cond.fieldLink RX0 19 "ForgettingLines$Machine" "rows" "[I", Cond.methodLink RX2 57 yX2_lookAhead, Cond.instanceMethod yX2_lookAhead, Cond.selects RX2 yX2_lookAhead yX2_lookAhead, Cond.code yX2_lookAhead cX2_lookAhead 8 none, Cond.methodLink RX2 61 yX0_wordAhead, Cond.instanceMethod yX0_wordAhead, Cond.selects RX0 yX0_wordAhead yX0_wordAhead, Cond.code yX0_wordAhead cX0_wordAhead 6 (some .int)]
def wsX7_letter_r3 : List Cond := [Cond.fieldLink RX0 15 "ForgettingLines$Machine" "isBag" "[Z", Cond.methodLink RX0 56 yX0_part, Cond.methodLink RX0 62 yX6_find, Cond.static yX6_find, Cond.initialized RX6, Cond.code yX6_find cX6_find 3 (some .int), Cond.methodLink RX0 48 yX6_size, Cond.static yX6_size, Cond.code yX6_size cX6_size 2 (some .int), Cond.methodLink RX0 68 yX6_at, Cond.static yX6_at, Cond.code yX6_at cX6_at 2 (some .int), Cond.methodLink RX0 65 yX6_without, Cond.static yX6_without, Cond.code yX6_without cX6_without 4 (some .int), Cond.methodLink RX0 59 yX0_wordWith, Cond.instanceMethod yX0_wordWith, Cond.selects RX0 yX0_wordWith yX0_wordWith, Cond.code yX0_wordWith cX0_wordWith 5 (some .int), Cond.methodLink RX0 42 yX6_placeInOrder, Cond.static yX6_placeInOrder, Cond.code yX6_placeInOrder cX6_placeInOrder 4 (some .int), Cond.methodLink RX0 52 yX6_with, Cond.static yX6_with]
def wsX7_letter_r4 : List Cond := [Cond.code yX6_with cX6_with 5 (some .int), Cond.methodLink RX2 64 yX2_firstBelow, Cond.instanceMethod yX2_firstBelow, Cond.selects RX2 yX2_firstBelow yX2_firstBelow, Cond.code yX2_firstBelow cX2_firstBelow 5 (some .int), Cond.methodLink RX2 74 yX2_isBelowPlace, Cond.instanceMethod yX2_isBelowPlace, Cond.selects RX2 yX2_isBelowPlace yX2_isBelowPlace, Cond.code yX2_isBelowPlace cX2_isBelowPlace 5 (some .boolean), Cond.methodLink RX2 78 yX6_isIn, Cond.static yX6_isIn, Cond.code yX6_isIn cX6_isIn 5 (some .boolean), Cond.methodLink RX2 68 yX6_isLonger, Cond.static yX6_isLonger, Cond.code yX6_isLonger cX6_isLonger 2 (some .boolean), Cond.methodLink RX7 164 yX2_wordOf, Cond.instanceMethod yX2_wordOf, Cond.selects RX2 yX2_wordOf yX2_wordOf, Cond.code yX2_wordOf cX2_wordOf 3 (some .int), Cond.methodLink RX7 138 yX6_size, Cond.methodLink RX7 140 yX6_at]
def wsX7_letter : List Cond := .code yX7_letter cX7_letter 5 (some .int) :: ((wsX7_letter_r1 ++ (wsX7_letter_r2 ++ (wsX7_letter_r3 ++ wsX7_letter_r4))) ++ wsX70 ++ wsX20 ++ wsX10 ++ wsX00)
def wsX7_least_r1 : List Cond := [Cond.fieldLink RX7 36 "ForgettingLines" "search" "LForgettingLines$Search;", Cond.fieldLink RX7 157 "ForgettingLines$Search" "spent" "Z", Cond.methodLink RX7 154 yX7_searchOnce, Cond.instanceMethod yX7_searchOnce, Cond.selects RX7 yX7_searchOnce yX7_searchOnce, Cond.initialized RX7, Cond.code yX7_searchOnce cX7_searchOnce 1 none, Cond.fieldLink RX7 146 "ForgettingLines" "searched" "Z", Cond.fieldLink RX7 10 "ForgettingLines" "machine" "LForgettingLines$Machine;", Cond.fieldLink RX7 30 "ForgettingLines" "target" "LForgettingLines$Place;", Cond.methodLink RX7 197 yX2_run, Cond.instanceMethod yX2_run, Cond.selects RX2 yX2_run yX2_run, Cond.initialized RX2, Cond.code yX2_run cX2_run 5 none, Cond.fieldLink RX2 30 "ForgettingLines$Search" "count" "I", Cond.fieldLink RX2 34 "ForgettingLines$Search" "spent" "Z", Cond.fieldLink RX2 38 "ForgettingLines$Place" "state" "I", Cond.fieldLink RX2 43 "ForgettingLines$Place" "words" "[I", Cond.fieldLink RX2 50 "ForgettingLines$Machine" "count" "I", Cond.fieldLink RX2 15 "ForgettingLines$Search" "states" "[I", Cond.methodLink RX2 46 yX2_add, Cond.instanceMethod yX2_add, Cond.selects RX2 yX2_add yX2_add]
def wsX7_least_r2 : List Cond := [Cond.code yX2_add cX2_add 6 none, Cond.fieldLink RX2 18 "ForgettingLines$Search" "words0" "[I", Cond.fieldLink RX2 21 "ForgettingLines$Search" "words1" "[I", Cond.fieldLink RX2 24 "ForgettingLines$Search" "arcs" "[I", Cond.fieldLink RX2 27 "ForgettingLines$Search" "origins" "[I", Cond.fieldLink RX2 9 "ForgettingLines$Search" "rounds" "[I", Cond.methodLink RX2 53 yX0_part, Cond.instanceMethod yX0_part, Cond.selects RX0 yX0_part yX0_part, Cond.initialized RX0, Cond.code yX0_part cX0_part 3 (some .int), Cond.fieldLink RX0 19 "ForgettingLines$Machine" "rows" "[I", Cond.methodLink RX2 57 yX2_lookAhead, Cond.instanceMethod yX2_lookAhead, Cond.selects RX2 yX2_lookAhead yX2_lookAhead, Cond.code yX2_lookAhead cX2_lookAhead 8 none, Cond.methodLink RX2 61 yX0_wordAhead, Cond.instanceMethod yX0_wordAhead, Cond.selects RX0 yX0_wordAhead yX0_wordAhead, Cond.code yX0_wordAhead cX0_wordAhead 6 (some .int), Cond.fieldLink RX0 15 "ForgettingLines$Machine" "isBag" "[Z", Cond.methodLink RX0 56 yX0_part, Cond.methodLink RX0 62 yX6_find, Cond.static yX6_find]
def wsX7_least_r3 : List Cond := [Cond.initialized RX6, Cond.code yX6_find cX6_find 3 (some .int), Cond.methodLink RX0 48 yX6_size, Cond.static yX6_size, Cond.code yX6_size cX6_size 2 (some .int), Cond.methodLink RX0 68 yX6_at, Cond.static yX6_at, Cond.code yX6_at cX6_at 2 (some .int), Cond.methodLink RX0 65 yX6_without, Cond.static yX6_without, Cond.code yX6_without cX6_without 4 (some .int), Cond.methodLink RX0 59 yX0_wordWith, Cond.instanceMethod yX0_wordWith, Cond.selects RX0 yX0_wordWith yX0_wordWith, Cond.code yX0_wordWith cX0_wordWith 5 (some .int), Cond.methodLink RX0 42 yX6_placeInOrder, Cond.static yX6_placeInOrder, Cond.code yX6_placeInOrder cX6_placeInOrder 4 (some .int), Cond.methodLink RX0 52 yX6_with, Cond.static yX6_with, Cond.code yX6_with cX6_with 5 (some .int), Cond.methodLink RX2 64 yX2_firstBelow, Cond.instanceMethod yX2_firstBelow, Cond.selects RX2 yX2_firstBelow yX2_firstBelow]
def wsX7_least_r4 : List Cond := [Cond.code yX2_firstBelow cX2_firstBelow 5 (some .int), Cond.methodLink RX2 74 yX2_isBelowPlace, Cond.instanceMethod yX2_isBelowPlace, Cond.selects RX2 yX2_isBelowPlace yX2_isBelowPlace, Cond.code yX2_isBelowPlace cX2_isBelowPlace 5 (some .boolean), Cond.methodLink RX2 78 yX6_isIn, Cond.static yX6_isIn, Cond.code yX6_isIn cX6_isIn 5 (some .boolean), Cond.methodLink RX2 68 yX6_isLonger, Cond.static yX6_isLonger, Cond.code yX6_isLonger cX6_isLonger 2 (some .boolean), Cond.methodLink RX7 167 yX2_countLeast, Cond.instanceMethod yX2_countLeast, Cond.selects RX2 yX2_countLeast yX2_countLeast, Cond.code yX2_countLeast cX2_countLeast 3 (some .int), Cond.methodLink RX2 81 yX2_isLeast, Cond.instanceMethod yX2_isLeast, Cond.selects RX2 yX2_isLeast yX2_isLeast, Cond.code yX2_isLeast cX2_isLeast 3 (some .boolean)]
def wsX7_least : List Cond := .code yX7_least cX7_least 1 (some .int) :: ((wsX7_least_r1 ++ (wsX7_least_r2 ++ (wsX7_least_r3 ++ wsX7_least_r4))) ++ wsX70 ++ wsX20 ++ wsX10 ++ wsX00)
def wsX7_far_r1 : List Cond := [Cond.fieldLink RX7 36 "ForgettingLines" "search" "LForgettingLines$Search;", Cond.fieldLink RX7 157 "ForgettingLines$Search" "spent" "Z", Cond.fieldLink RX7 26 "ForgettingLines" "here" "LForgettingLines$Place;", Cond.fieldLink RX7 124 "ForgettingLines$Place" "state" "I", Cond.fieldLink RX7 127 "ForgettingLines$Place" "words" "[I", Cond.fieldLink RX7 174 "ForgettingLines$Search" "rounds" "[I", Cond.methodLink RX7 154 yX7_searchOnce, Cond.instanceMethod yX7_searchOnce, Cond.selects RX7 yX7_searchOnce yX7_searchOnce, Cond.initialized RX7, Cond.code yX7_searchOnce cX7_searchOnce 1 none, Cond.fieldLink RX7 146 "ForgettingLines" "searched" "Z", Cond.fieldLink RX7 10 "ForgettingLines" "machine" "LForgettingLines$Machine;", Cond.fieldLink RX7 30 "ForgettingLines" "target" "LForgettingLines$Place;", Cond.methodLink RX7 197 yX2_run, Cond.instanceMethod yX2_run, Cond.selects RX2 yX2_run yX2_run, Cond.initialized RX2, Cond.code yX2_run cX2_run 5 none, Cond.fieldLink RX2 30 "ForgettingLines$Search" "count" "I", Cond.fieldLink RX2 34 "ForgettingLines$Search" "spent" "Z", Cond.fieldLink RX2 38 "ForgettingLines$Place" "state" "I", Cond.fieldLink RX2 43 "ForgettingLines$Place" "words" "[I", Cond.fieldLink RX2 50 "ForgettingLines$Machine" "count" "I"]
def wsX7_far_r2 : List Cond := [Cond.fieldLink RX2 15 "ForgettingLines$Search" "states" "[I", Cond.methodLink RX2 46 yX2_add, Cond.instanceMethod yX2_add, Cond.selects RX2 yX2_add yX2_add, Cond.code yX2_add cX2_add 6 none, Cond.fieldLink RX2 18 "ForgettingLines$Search" "words0" "[I", Cond.fieldLink RX2 21 "ForgettingLines$Search" "words1" "[I", Cond.fieldLink RX2 24 "ForgettingLines$Search" "arcs" "[I", Cond.fieldLink RX2 27 "ForgettingLines$Search" "origins" "[I", Cond.fieldLink RX2 9 "ForgettingLines$Search" "rounds" "[I", Cond.methodLink RX2 53 yX0_part, Cond.instanceMethod yX0_part, Cond.selects RX0 yX0_part yX0_part, Cond.initialized RX0, Cond.code yX0_part cX0_part 3 (some .int), Cond.fieldLink RX0 19 "ForgettingLines$Machine" "rows" "[I", Cond.methodLink RX2 57 yX2_lookAhead, Cond.instanceMethod yX2_lookAhead, Cond.selects RX2 yX2_lookAhead yX2_lookAhead, Cond.code yX2_lookAhead cX2_lookAhead 8 none, Cond.methodLink RX2 61 yX0_wordAhead, Cond.instanceMethod yX0_wordAhead, Cond.selects RX0 yX0_wordAhead yX0_wordAhead, Cond.code yX0_wordAhead cX0_wordAhead 6 (some .int)]
def wsX7_far_r3 : List Cond := [Cond.fieldLink RX0 15 "ForgettingLines$Machine" "isBag" "[Z", Cond.methodLink RX0 56 yX0_part, Cond.methodLink RX0 62 yX6_find, Cond.static yX6_find, Cond.initialized RX6, Cond.code yX6_find cX6_find 3 (some .int), Cond.methodLink RX0 48 yX6_size, Cond.static yX6_size, Cond.code yX6_size cX6_size 2 (some .int), Cond.methodLink RX0 68 yX6_at, Cond.static yX6_at, Cond.code yX6_at cX6_at 2 (some .int), Cond.methodLink RX0 65 yX6_without, Cond.static yX6_without, Cond.code yX6_without cX6_without 4 (some .int), Cond.methodLink RX0 59 yX0_wordWith, Cond.instanceMethod yX0_wordWith, Cond.selects RX0 yX0_wordWith yX0_wordWith, Cond.code yX0_wordWith cX0_wordWith 5 (some .int), Cond.methodLink RX0 42 yX6_placeInOrder, Cond.static yX6_placeInOrder, Cond.code yX6_placeInOrder cX6_placeInOrder 4 (some .int), Cond.methodLink RX0 52 yX6_with, Cond.static yX6_with]
def wsX7_far_r4 : List Cond := [Cond.code yX6_with cX6_with 5 (some .int), Cond.methodLink RX2 64 yX2_firstBelow, Cond.instanceMethod yX2_firstBelow, Cond.selects RX2 yX2_firstBelow yX2_firstBelow, Cond.code yX2_firstBelow cX2_firstBelow 5 (some .int), Cond.methodLink RX2 74 yX2_isBelowPlace, Cond.instanceMethod yX2_isBelowPlace, Cond.selects RX2 yX2_isBelowPlace yX2_isBelowPlace, Cond.code yX2_isBelowPlace cX2_isBelowPlace 5 (some .boolean), Cond.methodLink RX2 78 yX6_isIn, Cond.static yX6_isIn, Cond.code yX6_isIn cX6_isIn 5 (some .boolean), Cond.methodLink RX2 68 yX6_isLonger, Cond.static yX6_isLonger, Cond.code yX6_isLonger cX6_isLonger 2 (some .boolean), Cond.methodLink RX7 171 yX2_firstBelow]
def wsX7_far : List Cond := .code yX7_far cX7_far 2 (some .int) :: ((wsX7_far_r1 ++ (wsX7_far_r2 ++ (wsX7_far_r3 ++ wsX7_far_r4))) ++ wsX70 ++ wsX20 ++ wsX10 ++ wsX00)
def wsX7_way_r1 : List Cond := [Cond.fieldLink RX7 36 "ForgettingLines" "search" "LForgettingLines$Search;", Cond.fieldLink RX7 157 "ForgettingLines$Search" "spent" "Z", Cond.fieldLink RX7 26 "ForgettingLines" "here" "LForgettingLines$Place;", Cond.fieldLink RX7 124 "ForgettingLines$Place" "state" "I", Cond.fieldLink RX7 127 "ForgettingLines$Place" "words" "[I", Cond.fieldLink RX7 174 "ForgettingLines$Search" "rounds" "[I", Cond.methodLink RX7 154 yX7_searchOnce, Cond.instanceMethod yX7_searchOnce, Cond.selects RX7 yX7_searchOnce yX7_searchOnce, Cond.initialized RX7, Cond.code yX7_searchOnce cX7_searchOnce 1 none, Cond.fieldLink RX7 146 "ForgettingLines" "searched" "Z", Cond.fieldLink RX7 10 "ForgettingLines" "machine" "LForgettingLines$Machine;", Cond.fieldLink RX7 30 "ForgettingLines" "target" "LForgettingLines$Place;", Cond.methodLink RX7 197 yX2_run, Cond.instanceMethod yX2_run, Cond.selects RX2 yX2_run yX2_run, Cond.initialized RX2, Cond.code yX2_run cX2_run 5 none, Cond.fieldLink RX2 30 "ForgettingLines$Search" "count" "I", Cond.fieldLink RX2 34 "ForgettingLines$Search" "spent" "Z", Cond.fieldLink RX2 38 "ForgettingLines$Place" "state" "I", Cond.fieldLink RX2 43 "ForgettingLines$Place" "words" "[I", Cond.fieldLink RX2 50 "ForgettingLines$Machine" "count" "I"]
def wsX7_way_r2 : List Cond := [Cond.fieldLink RX2 15 "ForgettingLines$Search" "states" "[I", Cond.methodLink RX2 46 yX2_add, Cond.instanceMethod yX2_add, Cond.selects RX2 yX2_add yX2_add, Cond.code yX2_add cX2_add 6 none, Cond.fieldLink RX2 18 "ForgettingLines$Search" "words0" "[I", Cond.fieldLink RX2 21 "ForgettingLines$Search" "words1" "[I", Cond.fieldLink RX2 24 "ForgettingLines$Search" "arcs" "[I", Cond.fieldLink RX2 27 "ForgettingLines$Search" "origins" "[I", Cond.fieldLink RX2 9 "ForgettingLines$Search" "rounds" "[I", Cond.methodLink RX2 53 yX0_part, Cond.instanceMethod yX0_part, Cond.selects RX0 yX0_part yX0_part, Cond.initialized RX0, Cond.code yX0_part cX0_part 3 (some .int), Cond.fieldLink RX0 19 "ForgettingLines$Machine" "rows" "[I", Cond.methodLink RX2 57 yX2_lookAhead, Cond.instanceMethod yX2_lookAhead, Cond.selects RX2 yX2_lookAhead yX2_lookAhead, Cond.code yX2_lookAhead cX2_lookAhead 8 none, Cond.methodLink RX2 61 yX0_wordAhead, Cond.instanceMethod yX0_wordAhead, Cond.selects RX0 yX0_wordAhead yX0_wordAhead, Cond.code yX0_wordAhead cX0_wordAhead 6 (some .int)]
def wsX7_way_r3 : List Cond := [Cond.fieldLink RX0 15 "ForgettingLines$Machine" "isBag" "[Z", Cond.methodLink RX0 56 yX0_part, Cond.methodLink RX0 62 yX6_find, Cond.static yX6_find, Cond.initialized RX6, Cond.code yX6_find cX6_find 3 (some .int), Cond.methodLink RX0 48 yX6_size, Cond.static yX6_size, Cond.code yX6_size cX6_size 2 (some .int), Cond.methodLink RX0 68 yX6_at, Cond.static yX6_at, Cond.code yX6_at cX6_at 2 (some .int), Cond.methodLink RX0 65 yX6_without, Cond.static yX6_without, Cond.code yX6_without cX6_without 4 (some .int), Cond.methodLink RX0 59 yX0_wordWith, Cond.instanceMethod yX0_wordWith, Cond.selects RX0 yX0_wordWith yX0_wordWith, Cond.code yX0_wordWith cX0_wordWith 5 (some .int), Cond.methodLink RX0 42 yX6_placeInOrder, Cond.static yX6_placeInOrder, Cond.code yX6_placeInOrder cX6_placeInOrder 4 (some .int), Cond.methodLink RX0 52 yX6_with, Cond.static yX6_with]
def wsX7_way_r4 : List Cond := [Cond.code yX6_with cX6_with 5 (some .int), Cond.methodLink RX2 64 yX2_firstBelow, Cond.instanceMethod yX2_firstBelow, Cond.selects RX2 yX2_firstBelow yX2_firstBelow, Cond.code yX2_firstBelow cX2_firstBelow 5 (some .int), Cond.methodLink RX2 74 yX2_isBelowPlace, Cond.instanceMethod yX2_isBelowPlace, Cond.selects RX2 yX2_isBelowPlace yX2_isBelowPlace, Cond.code yX2_isBelowPlace cX2_isBelowPlace 5 (some .boolean), Cond.methodLink RX2 78 yX6_isIn, Cond.static yX6_isIn, Cond.code yX6_isIn cX6_isIn 5 (some .boolean), Cond.methodLink RX2 68 yX6_isLonger, Cond.static yX6_isLonger, Cond.code yX6_isLonger cX6_isLonger 2 (some .boolean), Cond.methodLink RX7 171 yX2_firstBelow, Cond.methodLink RX7 177 yX2_arcOfWay, Cond.instanceMethod yX2_arcOfWay, Cond.selects RX2 yX2_arcOfWay yX2_arcOfWay, Cond.code yX2_arcOfWay cX2_arcOfWay 5 (some .int)]
def wsX7_way : List Cond := .code yX7_way cX7_way 3 (some .int) :: ((wsX7_way_r1 ++ (wsX7_way_r2 ++ (wsX7_way_r3 ++ wsX7_way_r4))) ++ wsX70 ++ wsX20 ++ wsX10 ++ wsX00)
def wsX7_strict_r1 : List Cond := [Cond.fieldLink RX7 26 "ForgettingLines" "here" "LForgettingLines$Place;", Cond.fieldLink RX7 30 "ForgettingLines" "target" "LForgettingLines$Place;", Cond.fieldLink RX7 43 "ForgettingLines" "walk" "LForgettingLines$Walk;", Cond.fieldLink RX7 10 "ForgettingLines" "machine" "LForgettingLines$Machine;", Cond.methodLink RX7 180 yX1_isLonger, Cond.instanceMethod yX1_isLonger, Cond.selects RX1 yX1_isLonger yX1_isLonger, Cond.initialized RX1, Cond.code yX1_isLonger cX1_isLonger 2 (some .boolean), Cond.fieldLink RX1 9 "ForgettingLines$Place" "words" "[I", Cond.methodLink RX1 19 yX6_isLonger, Cond.static yX6_isLonger, Cond.initialized RX6, Cond.code yX6_isLonger cX6_isLonger 2 (some .boolean), Cond.methodLink RX7 183 yX5_fewest, Cond.instanceMethod yX5_fewest, Cond.selects RX5 yX5_fewest yX5_fewest, Cond.initialized RX5, Cond.code yX5_fewest cX5_fewest 8 (some .int), Cond.fieldLink RX5 11 "ForgettingLines$Walk" "seen" "[J", Cond.fieldLink RX5 25 "ForgettingLines$Walk" "tail" "I", Cond.fieldLink RX5 29 "ForgettingLines$Place" "state" "I", Cond.fieldLink RX5 34 "ForgettingLines$Place" "words" "[I", Cond.fieldLink RX5 15 "ForgettingLines$Walk" "queue" "[I"]
def wsX7_strict_r2 : List Cond := [Cond.methodLink RX5 19 yJ7_fill_d0a16, Cond.static yJ7_fill_d0a16, Cond.initialized RJ7, Cond.code yJ7_fill_d0a16 cJ7_fill_d0a16 5 none, Cond.methodLink RX5 37 yX5_add, Cond.instanceMethod yX5_add, Cond.selects RX5 yX5_add yX5_add, Cond.code yX5_add cX5_add 7 none, Cond.methodLink RX5 41 yX5_isAimed, Cond.static yX5_isAimed, Cond.code yX5_isAimed cX5_isAimed 2 (some .boolean), Cond.methodLink RX5 49 yX5_stateOf, Cond.static yX5_stateOf, Cond.code yX5_stateOf cX5_stateOf 1 (some .int), Cond.methodLink RX5 53 yX5_wordOf, Cond.static yX5_wordOf, Cond.code yX5_wordOf cX5_wordOf 2 (some .int), Cond.methodLink RX5 57 yX6_isIn, Cond.static yX6_isIn, Cond.code yX6_isIn cX6_isIn 5 (some .boolean), Cond.methodLink RX5 45 yX5_goOn, Cond.instanceMethod yX5_goOn, Cond.selects RX5 yX5_goOn yX5_goOn, Cond.code yX5_goOn cX5_goOn 5 none]
def wsX7_strict_r3 : List Cond := [Cond.fieldLink RX5 63 "ForgettingLines$Machine" "count" "I", Cond.methodLink RX5 68 yX0_part, Cond.instanceMethod yX0_part, Cond.selects RX0 yX0_part yX0_part, Cond.initialized RX0, Cond.code yX0_part cX0_part 3 (some .int), Cond.fieldLink RX0 19 "ForgettingLines$Machine" "rows" "[I", Cond.methodLink RX5 71 yX5_goBy, Cond.instanceMethod yX5_goBy, Cond.selects RX5 yX5_goBy yX5_goBy, Cond.code yX5_goBy cX5_goBy 8 none, Cond.methodLink RX5 75 yX0_wordBehind, Cond.instanceMethod yX0_wordBehind, Cond.selects RX0 yX0_wordBehind yX0_wordBehind, Cond.code yX0_wordBehind cX0_wordBehind 7 (some .int), Cond.fieldLink RX0 15 "ForgettingLines$Machine" "isBag" "[Z", Cond.methodLink RX0 56 yX0_part, Cond.methodLink RX0 59 yX0_wordWith, Cond.instanceMethod yX0_wordWith, Cond.selects RX0 yX0_wordWith yX0_wordWith, Cond.code yX0_wordWith cX0_wordWith 5 (some .int), Cond.methodLink RX0 42 yX6_placeInOrder, Cond.static yX6_placeInOrder, Cond.code yX6_placeInOrder cX6_placeInOrder 4 (some .int)]
def wsX7_strict_r4 : List Cond := [Cond.methodLink RX0 48 yX6_size, Cond.static yX6_size, Cond.code yX6_size cX6_size 2 (some .int), Cond.methodLink RX0 52 yX6_with, Cond.static yX6_with, Cond.code yX6_with cX6_with 5 (some .int), Cond.methodLink RX0 62 yX6_find, Cond.static yX6_find, Cond.code yX6_find cX6_find 3 (some .int), Cond.methodLink RX0 65 yX6_without, Cond.static yX6_without, Cond.code yX6_without cX6_without 4 (some .int), Cond.methodLink RX5 78 yX6_isLonger]
def wsX7_strict : List Cond := .code yX7_strict cX7_strict 2 (some .int) :: ((wsX7_strict_r1 ++ (wsX7_strict_r2 ++ (wsX7_strict_r3 ++ wsX7_strict_r4))) ++ wsX70 ++ wsX10 ++ wsX50 ++ wsX00)
def wsX7_sheet : List Cond := .code yX7_sheet cX7_sheet 4 (some .int) :: ([.fieldLink RX7 50 "ForgettingLines" "sheets" "[LForgettingLines$Sheet;", .methodLink RX7 68 yX7_isAmong, .static yX7_isAmong, .initialized RX7, .code yX7_isAmong cX7_isAmong 2 (some .boolean), .methodLink RX7 187 yX3_hold, .instanceMethod yX3_hold, .selects RX3 yX3_hold yX3_hold, .initialized RX3, .code yX3_hold cX3_hold 3 none, .fieldLink RX3 15 "ForgettingLines$Sheet" "held" "Z", .fieldLink RX3 19 "ForgettingLines$Sheet" "lane" "I", .fieldLink RX3 23 "ForgettingLines$Sheet" "size" "I", .fieldLink RX3 9 "ForgettingLines$Sheet" "items" "[I", .methodLink RX3 26 yJ7_fill_53178, .static yJ7_fill_53178, .initialized RJ7, .code yJ7_fill_53178 cJ7_fill_53178 4 none] ++ wsX70 ++ wsX30)
def wsX7_drop : List Cond := .code yX7_drop cX7_drop 2 (some .int) :: ([.fieldLink RX7 50 "ForgettingLines" "sheets" "[LForgettingLines$Sheet;", .fieldLink RX7 191 "ForgettingLines$Sheet" "held" "Z", .fieldLink RX7 112 "ForgettingLines$Sheet" "size" "I", .methodLink RX7 68 yX7_isAmong, .static yX7_isAmong, .initialized RX7, .code yX7_isAmong cX7_isAmong 2 (some .boolean)] ++ wsX70 ++ wsX30)
def wsX7_item : List Cond := .code yX7_item cX7_item 7 (some .int) :: ([.fieldLink RX7 50 "ForgettingLines" "sheets" "[LForgettingLines$Sheet;", .fieldLink RX7 112 "ForgettingLines$Sheet" "size" "I", .methodLink RX7 68 yX7_isAmong, .static yX7_isAmong, .initialized RX7, .code yX7_isAmong cX7_isAmong 2 (some .boolean), .methodLink RX7 109 yX3_faultAs, .instanceMethod yX3_faultAs, .selects RX3 yX3_faultAs yX3_faultAs, .initialized RX3, .code yX3_faultAs cX3_faultAs 2 (some .int), .fieldLink RX3 15 "ForgettingLines$Sheet" "held" "Z", .fieldLink RX3 19 "ForgettingLines$Sheet" "lane" "I", .methodLink RX7 194 yX3_put, .instanceMethod yX3_put, .selects RX3 yX3_put yX3_put, .code yX3_put cX3_put 3 none, .fieldLink RX3 9 "ForgettingLines$Sheet" "items" "[I"] ++ wsX70 ++ wsX30)
def wsX8_in : List Cond := .code yX8_in cX8_in 3 (some .boolean) :: ([])
def wsX8_init_r1 : List Cond := [Cond.methodLink RX8 1 objectInit, Cond.instanceMethod objectInit, Cond.code objectInit ⟨#[0xb1]⟩ 1 none, Cond.fieldLink RX8 7 "ForgettingLinesModel" "states" "I", Cond.arrayClass .boolean, Cond.fieldLink RX8 13 "ForgettingLinesModel" "bags" "[Z", Cond.arrayClass .int, Cond.fieldLink RX8 17 "ForgettingLinesModel" "froms" "[I", Cond.fieldLink RX8 21 "ForgettingLinesModel" "acts" "[I", Cond.fieldLink RX8 24 "ForgettingLinesModel" "lines" "[I", Cond.fieldLink RX8 27 "ForgettingLinesModel" "letters" "[I", Cond.fieldLink RX8 30 "ForgettingLinesModel" "tos" "[I", Cond.fieldLink RX8 33 "ForgettingLinesModel" "tape" "[I", Cond.fieldLink RX8 36 "ForgettingLinesModel" "readArcs" "[I", Cond.fieldLink RX8 39 "ForgettingLinesModel" "stateOf" "[I", Cond.fieldLink RX8 42 "ForgettingLinesModel" "sizes" "[I", Cond.fieldLink RX8 45 "ForgettingLinesModel" "words" "[I", Cond.fieldLink RX8 48 "ForgettingLinesModel" "rounds" "[I", Cond.fieldLink RX8 51 "ForgettingLinesModel" "byArc" "[I", Cond.fieldLink RX8 54 "ForgettingLinesModel" "aheadOf" "[I", Cond.constant RX8 57 (32768), Cond.fieldLink RX8 58 "ForgettingLinesModel" "queue" "[I", Cond.fieldLink RX8 61 "ForgettingLinesModel" "steps" "[I", Cond.fieldLink RX8 64 "ForgettingLinesModel" "lanes" "[I"]
def wsX8_init_r2 : List Cond := [Cond.fieldLink RX8 67 "ForgettingLinesModel" "longs" "[I", Cond.fieldLink RX8 70 "ForgettingLinesModel" "items" "[I"]
def wsX8_init : List Cond := .code yX8_init cX8_init 1 none :: ((wsX8_init_r1 ++ wsX8_init_r2) ++ wsX80)
def wsX8_empty : List Cond := .code yX8_empty cX8_empty 3 none :: ([.fieldLink RX8 39 "ForgettingLinesModel" "stateOf" "[I", .fieldLink RX8 42 "ForgettingLinesModel" "sizes" "[I"] ++ wsX80)
def wsX8_states : List Cond := .code yX8_states cX8_states 3 (some .int) :: ([.fieldLink RX8 7 "ForgettingLinesModel" "states" "I", .fieldLink RX8 77 "ForgettingLinesModel" "arcs" "I", .methodLink RX8 73 yX8_in, .static yX8_in, .initialized RX8, .code yX8_in cX8_in 3 (some .boolean), .methodLink RX8 80 yX8_empty, .instanceMethod yX8_empty, .selects RX8 yX8_empty yX8_empty, .code yX8_empty cX8_empty 3 none, .fieldLink RX8 39 "ForgettingLinesModel" "stateOf" "[I", .fieldLink RX8 42 "ForgettingLinesModel" "sizes" "[I"] ++ wsX80)
def wsX8_bag : List Cond := .code yX8_bag cX8_bag 4 (some .int) :: ([.fieldLink RX8 13 "ForgettingLinesModel" "bags" "[Z", .methodLink RX8 73 yX8_in, .static yX8_in, .initialized RX8, .code yX8_in cX8_in 3 (some .boolean), .methodLink RX8 80 yX8_empty, .instanceMethod yX8_empty, .selects RX8 yX8_empty yX8_empty, .code yX8_empty cX8_empty 3 none, .fieldLink RX8 39 "ForgettingLinesModel" "stateOf" "[I", .fieldLink RX8 42 "ForgettingLinesModel" "sizes" "[I"] ++ wsX80)
def wsX8_isState : List Cond := .code yX8_isState cX8_isState 2 (some .boolean) :: ([.fieldLink RX8 7 "ForgettingLinesModel" "states" "I", .methodLink RX8 73 yX8_in, .static yX8_in, .initialized RX8, .code yX8_in cX8_in 3 (some .boolean)] ++ wsX80)
def wsX8_isGood : List Cond := .code yX8_isGood cX8_isGood 7 (some .boolean) :: ([.methodLink RX8 84 yX8_isState, .instanceMethod yX8_isState, .selects RX8 yX8_isState yX8_isState, .initialized RX8, .code yX8_isState cX8_isState 2 (some .boolean), .fieldLink RX8 7 "ForgettingLinesModel" "states" "I", .methodLink RX8 73 yX8_in, .static yX8_in, .code yX8_in cX8_in 3 (some .boolean)] ++ wsX80)
def wsX8_put : List Cond := .code yX8_put cX8_put 6 none :: ([.fieldLink RX8 17 "ForgettingLinesModel" "froms" "[I", .fieldLink RX8 77 "ForgettingLinesModel" "arcs" "I", .fieldLink RX8 21 "ForgettingLinesModel" "acts" "[I", .fieldLink RX8 24 "ForgettingLinesModel" "lines" "[I", .fieldLink RX8 27 "ForgettingLinesModel" "letters" "[I", .fieldLink RX8 30 "ForgettingLinesModel" "tos" "[I", .methodLink RX8 80 yX8_empty, .instanceMethod yX8_empty, .selects RX8 yX8_empty yX8_empty, .initialized RX8, .code yX8_empty cX8_empty 3 none, .fieldLink RX8 39 "ForgettingLinesModel" "stateOf" "[I", .fieldLink RX8 42 "ForgettingLinesModel" "sizes" "[I"] ++ wsX80)
def wsX8_arc_r1 : List Cond := [Cond.fieldLink RX8 77 "ForgettingLinesModel" "arcs" "I", Cond.methodLink RX8 88 yX8_isGood, Cond.instanceMethod yX8_isGood, Cond.selects RX8 yX8_isGood yX8_isGood, Cond.initialized RX8, Cond.code yX8_isGood cX8_isGood 7 (some .boolean), Cond.methodLink RX8 84 yX8_isState, Cond.instanceMethod yX8_isState, Cond.selects RX8 yX8_isState yX8_isState, Cond.code yX8_isState cX8_isState 2 (some .boolean), Cond.fieldLink RX8 7 "ForgettingLinesModel" "states" "I", Cond.methodLink RX8 73 yX8_in, Cond.static yX8_in, Cond.code yX8_in cX8_in 3 (some .boolean), Cond.methodLink RX8 92 yX8_put, Cond.instanceMethod yX8_put, Cond.selects RX8 yX8_put yX8_put, Cond.code yX8_put cX8_put 6 none, Cond.fieldLink RX8 17 "ForgettingLinesModel" "froms" "[I", Cond.fieldLink RX8 21 "ForgettingLinesModel" "acts" "[I", Cond.fieldLink RX8 24 "ForgettingLinesModel" "lines" "[I", Cond.fieldLink RX8 27 "ForgettingLinesModel" "letters" "[I", Cond.fieldLink RX8 30 "ForgettingLinesModel" "tos" "[I", Cond.methodLink RX8 80 yX8_empty]
def wsX8_arc_r2 : List Cond := [Cond.instanceMethod yX8_empty, Cond.selects RX8 yX8_empty yX8_empty, Cond.code yX8_empty cX8_empty 3 none, Cond.fieldLink RX8 39 "ForgettingLinesModel" "stateOf" "[I", Cond.fieldLink RX8 42 "ForgettingLinesModel" "sizes" "[I"]
def wsX8_arc : List Cond := .code yX8_arc cX8_arc 6 (some .int) :: ((wsX8_arc_r1 ++ wsX8_arc_r2) ++ wsX80)
def wsX8_unarc : List Cond := .code yX8_unarc cX8_unarc 1 (some .int) :: ([.fieldLink RX8 77 "ForgettingLinesModel" "arcs" "I", .methodLink RX8 80 yX8_empty, .instanceMethod yX8_empty, .selects RX8 yX8_empty yX8_empty, .initialized RX8, .code yX8_empty cX8_empty 3 none, .fieldLink RX8 39 "ForgettingLinesModel" "stateOf" "[I", .fieldLink RX8 42 "ForgettingLinesModel" "sizes" "[I"] ++ wsX80)
def wsX8_isArc : List Cond := .code yX8_isArc cX8_isArc 2 (some .boolean) :: ([.fieldLink RX8 77 "ForgettingLinesModel" "arcs" "I", .methodLink RX8 73 yX8_in, .static yX8_in, .initialized RX8, .code yX8_in cX8_in 3 (some .boolean)] ++ wsX80)
def wsX8_told : List Cond := .code yX8_told cX8_told 3 (some .int) :: ([.fieldLink RX8 17 "ForgettingLinesModel" "froms" "[I", .fieldLink RX8 21 "ForgettingLinesModel" "acts" "[I", .fieldLink RX8 24 "ForgettingLinesModel" "lines" "[I", .fieldLink RX8 27 "ForgettingLinesModel" "letters" "[I", .fieldLink RX8 30 "ForgettingLinesModel" "tos" "[I", .methodLink RX8 96 yX8_isArc, .instanceMethod yX8_isArc, .selects RX8 yX8_isArc yX8_isArc, .initialized RX8, .code yX8_isArc cX8_isArc 2 (some .boolean), .fieldLink RX8 77 "ForgettingLinesModel" "arcs" "I", .methodLink RX8 73 yX8_in, .static yX8_in, .code yX8_in cX8_in 3 (some .boolean)] ++ wsX80)
def wsX8_type : List Cond := .code yX8_type cX8_type 5 (some .int) :: ([.constantLong RX8 99 (255), .fieldLink RX8 101 "ForgettingLinesModel" "taped" "I", .fieldLink RX8 33 "ForgettingLinesModel" "tape" "[I", .methodLink RX8 73 yX8_in, .static yX8_in, .initialized RX8, .code yX8_in cX8_in 3 (some .boolean)] ++ wsX80)
def wsX8_next : List Cond := .code yX8_next cX8_next 1 (some .int) :: ([.fieldLink RX8 104 "ForgettingLinesModel" "at" "I", .fieldLink RX8 101 "ForgettingLinesModel" "taped" "I", .fieldLink RX8 33 "ForgettingLinesModel" "tape" "[I"] ++ wsX80)
def wsX8_passed : List Cond := .code yX8_passed cX8_passed 4 (some .int) :: ([.fieldLink RX8 111 "ForgettingLinesModel" "isWrong" "Z", .fieldLink RX8 104 "ForgettingLinesModel" "at" "I", .methodLink RX8 107 yX8_next, .instanceMethod yX8_next, .selects RX8 yX8_next yX8_next, .initialized RX8, .code yX8_next cX8_next 1 (some .int), .fieldLink RX8 101 "ForgettingLinesModel" "taped" "I", .fieldLink RX8 33 "ForgettingLinesModel" "tape" "[I", .methodLink RX8 73 yX8_in, .static yX8_in, .code yX8_in cX8_in 3 (some .boolean)] ++ wsX80)
def wsX8_act : List Cond := .code yX8_act cX8_act 3 (some .int) :: ([.fieldLink RX8 111 "ForgettingLinesModel" "isWrong" "Z", .fieldLink RX8 104 "ForgettingLinesModel" "at" "I", .methodLink RX8 107 yX8_next, .instanceMethod yX8_next, .selects RX8 yX8_next yX8_next, .initialized RX8, .code yX8_next cX8_next 1 (some .int), .fieldLink RX8 101 "ForgettingLinesModel" "taped" "I", .fieldLink RX8 33 "ForgettingLinesModel" "tape" "[I"] ++ wsX80)
def wsX8_read_r1 : List Cond := [Cond.fieldLink RX8 104 "ForgettingLinesModel" "at" "I", Cond.fieldLink RX8 111 "ForgettingLinesModel" "isWrong" "Z", Cond.fieldLink RX8 36 "ForgettingLinesModel" "readArcs" "[I", Cond.fieldLink RX8 7 "ForgettingLinesModel" "states" "I", Cond.fieldLink RX8 101 "ForgettingLinesModel" "taped" "I", Cond.fieldLink RX8 77 "ForgettingLinesModel" "arcs" "I", Cond.methodLink RX8 115 yX8_passed, Cond.instanceMethod yX8_passed, Cond.selects RX8 yX8_passed yX8_passed, Cond.initialized RX8, Cond.code yX8_passed cX8_passed 4 (some .int), Cond.methodLink RX8 107 yX8_next, Cond.instanceMethod yX8_next, Cond.selects RX8 yX8_next yX8_next, Cond.code yX8_next cX8_next 1 (some .int), Cond.fieldLink RX8 33 "ForgettingLinesModel" "tape" "[I", Cond.methodLink RX8 73 yX8_in, Cond.static yX8_in, Cond.code yX8_in cX8_in 3 (some .boolean), Cond.methodLink RX8 119 yX8_act, Cond.instanceMethod yX8_act, Cond.selects RX8 yX8_act yX8_act, Cond.code yX8_act cX8_act 3 (some .int), Cond.methodLink RX8 92 yX8_put]
def wsX8_read_r2 : List Cond := [Cond.instanceMethod yX8_put, Cond.selects RX8 yX8_put yX8_put, Cond.code yX8_put cX8_put 6 none, Cond.fieldLink RX8 17 "ForgettingLinesModel" "froms" "[I", Cond.fieldLink RX8 21 "ForgettingLinesModel" "acts" "[I", Cond.fieldLink RX8 24 "ForgettingLinesModel" "lines" "[I", Cond.fieldLink RX8 27 "ForgettingLinesModel" "letters" "[I", Cond.fieldLink RX8 30 "ForgettingLinesModel" "tos" "[I", Cond.methodLink RX8 80 yX8_empty, Cond.instanceMethod yX8_empty, Cond.selects RX8 yX8_empty yX8_empty, Cond.code yX8_empty cX8_empty 3 none, Cond.fieldLink RX8 39 "ForgettingLinesModel" "stateOf" "[I", Cond.fieldLink RX8 42 "ForgettingLinesModel" "sizes" "[I"]
def wsX8_read : List Cond := .code yX8_read cX8_read 6 (some .int) :: ((wsX8_read_r1 ++ wsX8_read_r2) ++ wsX80)
def wsX8_spot : List Cond := .code yX8_spot cX8_spot 3 (some .int) :: ([])
def wsX8_copy : List Cond := .code yX8_copy cX8_copy 5 none :: ([.fieldLink RX8 39 "ForgettingLinesModel" "stateOf" "[I", .fieldLink RX8 42 "ForgettingLinesModel" "sizes" "[I", .fieldLink RX8 45 "ForgettingLinesModel" "words" "[I", .methodLink RX8 122 yX8_spot, .static yX8_spot, .initialized RX8, .code yX8_spot cX8_spot 3 (some .int)] ++ wsX80)
def wsX8_takeOut : List Cond := .code yX8_takeOut cX8_takeOut 5 none :: ([.fieldLink RX8 42 "ForgettingLinesModel" "sizes" "[I", .fieldLink RX8 45 "ForgettingLinesModel" "words" "[I", .methodLink RX8 122 yX8_spot, .static yX8_spot, .initialized RX8, .code yX8_spot cX8_spot 3 (some .int)] ++ wsX80)
def wsX8_putIn : List Cond := .code yX8_putIn cX8_putIn 6 none :: ([.fieldLink RX8 42 "ForgettingLinesModel" "sizes" "[I", .fieldLink RX8 45 "ForgettingLinesModel" "words" "[I", .methodLink RX8 122 yX8_spot, .static yX8_spot, .initialized RX8, .code yX8_spot cX8_spot 3 (some .int)] ++ wsX80)
def wsX8_inOrder : List Cond := .code yX8_inOrder cX8_inOrder 5 (some .int) :: ([.fieldLink RX8 42 "ForgettingLinesModel" "sizes" "[I", .fieldLink RX8 45 "ForgettingLinesModel" "words" "[I", .methodLink RX8 122 yX8_spot, .static yX8_spot, .initialized RX8, .code yX8_spot cX8_spot 3 (some .int)] ++ wsX80)
def wsX8_firstOf : List Cond := .code yX8_firstOf cX8_firstOf 5 (some .int) :: ([.fieldLink RX8 42 "ForgettingLinesModel" "sizes" "[I", .fieldLink RX8 45 "ForgettingLinesModel" "words" "[I", .methodLink RX8 122 yX8_spot, .static yX8_spot, .initialized RX8, .code yX8_spot cX8_spot 3 (some .int)] ++ wsX80)
def wsX8_isBelow : List Cond := .code yX8_isBelow cX8_isBelow 7 (some .boolean) :: ([.fieldLink RX8 39 "ForgettingLinesModel" "stateOf" "[I", .fieldLink RX8 42 "ForgettingLinesModel" "sizes" "[I", .fieldLink RX8 45 "ForgettingLinesModel" "words" "[I", .methodLink RX8 122 yX8_spot, .static yX8_spot, .initialized RX8, .code yX8_spot cX8_spot 3 (some .int)] ++ wsX80)
def wsX8_go_r1 : List Cond := [Cond.fieldLink RX8 24 "ForgettingLinesModel" "lines" "[I", Cond.fieldLink RX8 27 "ForgettingLinesModel" "letters" "[I", Cond.fieldLink RX8 17 "ForgettingLinesModel" "froms" "[I", Cond.fieldLink RX8 39 "ForgettingLinesModel" "stateOf" "[I", Cond.fieldLink RX8 21 "ForgettingLinesModel" "acts" "[I", Cond.fieldLink RX8 13 "ForgettingLinesModel" "bags" "[Z", Cond.fieldLink RX8 42 "ForgettingLinesModel" "sizes" "[I", Cond.fieldLink RX8 30 "ForgettingLinesModel" "tos" "[I", Cond.methodLink RX8 96 yX8_isArc, Cond.instanceMethod yX8_isArc, Cond.selects RX8 yX8_isArc yX8_isArc, Cond.initialized RX8, Cond.code yX8_isArc cX8_isArc 2 (some .boolean), Cond.fieldLink RX8 77 "ForgettingLinesModel" "arcs" "I", Cond.methodLink RX8 73 yX8_in, Cond.static yX8_in, Cond.code yX8_in cX8_in 3 (some .boolean), Cond.methodLink RX8 126 yX8_firstOf, Cond.instanceMethod yX8_firstOf, Cond.selects RX8 yX8_firstOf yX8_firstOf, Cond.code yX8_firstOf cX8_firstOf 5 (some .int), Cond.fieldLink RX8 45 "ForgettingLinesModel" "words" "[I", Cond.methodLink RX8 122 yX8_spot, Cond.static yX8_spot]
def wsX8_go_r2 : List Cond := [Cond.code yX8_spot cX8_spot 3 (some .int), Cond.methodLink RX8 129 yX8_takeOut, Cond.instanceMethod yX8_takeOut, Cond.selects RX8 yX8_takeOut yX8_takeOut, Cond.code yX8_takeOut cX8_takeOut 5 none, Cond.methodLink RX8 133 yX8_inOrder, Cond.instanceMethod yX8_inOrder, Cond.selects RX8 yX8_inOrder yX8_inOrder, Cond.code yX8_inOrder cX8_inOrder 5 (some .int), Cond.methodLink RX8 136 yX8_putIn, Cond.instanceMethod yX8_putIn, Cond.selects RX8 yX8_putIn yX8_putIn, Cond.code yX8_putIn cX8_putIn 6 none]
def wsX8_go : List Cond := .code yX8_go cX8_go 5 (some .int) :: ((wsX8_go_r1 ++ wsX8_go_r2) ++ wsX80)
def wsX8_lose : List Cond := .code yX8_lose cX8_lose 4 (some .int) :: ([.fieldLink RX8 42 "ForgettingLinesModel" "sizes" "[I", .fieldLink RX8 45 "ForgettingLinesModel" "words" "[I", .methodLink RX8 73 yX8_in, .static yX8_in, .initialized RX8, .code yX8_in cX8_in 3 (some .boolean), .methodLink RX8 122 yX8_spot, .static yX8_spot, .code yX8_spot cX8_spot 3 (some .int), .methodLink RX8 129 yX8_takeOut, .instanceMethod yX8_takeOut, .selects RX8 yX8_takeOut yX8_takeOut, .code yX8_takeOut cX8_takeOut 5 none] ++ wsX80)
def wsX8_now : List Cond := .code yX8_now cX8_now 3 (some .int) :: ([.fieldLink RX8 39 "ForgettingLinesModel" "stateOf" "[I", .fieldLink RX8 42 "ForgettingLinesModel" "sizes" "[I", .fieldLink RX8 45 "ForgettingLinesModel" "words" "[I", .methodLink RX8 73 yX8_in, .static yX8_in, .initialized RX8, .code yX8_in cX8_in 3 (some .boolean), .methodLink RX8 122 yX8_spot, .static yX8_spot, .code yX8_spot cX8_spot 3 (some .int)] ++ wsX80)
def wsX8_reset : List Cond := .code yX8_reset cX8_reset 1 (some .int) :: ([.methodLink RX8 80 yX8_empty, .instanceMethod yX8_empty, .selects RX8 yX8_empty yX8_empty, .initialized RX8, .code yX8_empty cX8_empty 3 none, .fieldLink RX8 39 "ForgettingLinesModel" "stateOf" "[I", .fieldLink RX8 42 "ForgettingLinesModel" "sizes" "[I"] ++ wsX80)
def wsX8_aim : List Cond := .code yX8_aim cX8_aim 2 (some .int) :: ([.methodLink RX8 84 yX8_isState, .instanceMethod yX8_isState, .selects RX8 yX8_isState yX8_isState, .initialized RX8, .code yX8_isState cX8_isState 2 (some .boolean), .fieldLink RX8 7 "ForgettingLinesModel" "states" "I", .methodLink RX8 73 yX8_in, .static yX8_in, .code yX8_in cX8_in 3 (some .boolean), .methodLink RX8 80 yX8_empty, .instanceMethod yX8_empty, .selects RX8 yX8_empty yX8_empty, .code yX8_empty cX8_empty 3 none, .fieldLink RX8 39 "ForgettingLinesModel" "stateOf" "[I", .fieldLink RX8 42 "ForgettingLinesModel" "sizes" "[I"] ++ wsX80)
def wsX8_want : List Cond := .code yX8_want cX8_want 3 (some .int) :: ([.fieldLink RX8 42 "ForgettingLinesModel" "sizes" "[I", .fieldLink RX8 13 "ForgettingLinesModel" "bags" "[Z", .methodLink RX8 73 yX8_in, .static yX8_in, .initialized RX8, .code yX8_in cX8_in 3 (some .boolean), .methodLink RX8 133 yX8_inOrder, .instanceMethod yX8_inOrder, .selects RX8 yX8_inOrder yX8_inOrder, .code yX8_inOrder cX8_inOrder 5 (some .int), .fieldLink RX8 45 "ForgettingLinesModel" "words" "[I", .methodLink RX8 122 yX8_spot, .static yX8_spot, .code yX8_spot cX8_spot 3 (some .int), .methodLink RX8 136 yX8_putIn, .instanceMethod yX8_putIn, .selects RX8 yX8_putIn yX8_putIn, .code yX8_putIn cX8_putIn 6 none] ++ wsX80)
def wsX8_ahead_r1 : List Cond := [Cond.fieldLink RX8 39 "ForgettingLinesModel" "stateOf" "[I", Cond.fieldLink RX8 17 "ForgettingLinesModel" "froms" "[I", Cond.fieldLink RX8 24 "ForgettingLinesModel" "lines" "[I", Cond.fieldLink RX8 27 "ForgettingLinesModel" "letters" "[I", Cond.fieldLink RX8 42 "ForgettingLinesModel" "sizes" "[I", Cond.fieldLink RX8 21 "ForgettingLinesModel" "acts" "[I", Cond.fieldLink RX8 13 "ForgettingLinesModel" "bags" "[Z", Cond.fieldLink RX8 45 "ForgettingLinesModel" "words" "[I", Cond.methodLink RX8 140 yX8_copy, Cond.instanceMethod yX8_copy, Cond.selects RX8 yX8_copy yX8_copy, Cond.initialized RX8, Cond.code yX8_copy cX8_copy 5 none, Cond.methodLink RX8 122 yX8_spot, Cond.static yX8_spot, Cond.code yX8_spot cX8_spot 3 (some .int), Cond.methodLink RX8 133 yX8_inOrder, Cond.instanceMethod yX8_inOrder, Cond.selects RX8 yX8_inOrder yX8_inOrder, Cond.code yX8_inOrder cX8_inOrder 5 (some .int), Cond.methodLink RX8 136 yX8_putIn, Cond.instanceMethod yX8_putIn, Cond.selects RX8 yX8_putIn yX8_putIn, Cond.code yX8_putIn cX8_putIn 6 none]
def wsX8_ahead_r2 : List Cond := [Cond.methodLink RX8 126 yX8_firstOf, Cond.instanceMethod yX8_firstOf, Cond.selects RX8 yX8_firstOf yX8_firstOf, Cond.code yX8_firstOf cX8_firstOf 5 (some .int), Cond.methodLink RX8 129 yX8_takeOut, Cond.instanceMethod yX8_takeOut, Cond.selects RX8 yX8_takeOut yX8_takeOut, Cond.code yX8_takeOut cX8_takeOut 5 none]
def wsX8_ahead : List Cond := .code yX8_ahead cX8_ahead 7 none :: ((wsX8_ahead_r1 ++ wsX8_ahead_r2) ++ wsX80)
def wsX8_isNew : List Cond := .code yX8_isNew cX8_isNew 3 (some .boolean) :: ([.fieldLink RX8 143 "ForgettingLinesModel" "many" "I", .methodLink RX8 146 yX8_isBelow, .instanceMethod yX8_isBelow, .selects RX8 yX8_isBelow yX8_isBelow, .initialized RX8, .code yX8_isBelow cX8_isBelow 7 (some .boolean), .fieldLink RX8 39 "ForgettingLinesModel" "stateOf" "[I", .fieldLink RX8 42 "ForgettingLinesModel" "sizes" "[I", .fieldLink RX8 45 "ForgettingLinesModel" "words" "[I", .methodLink RX8 122 yX8_spot, .static yX8_spot, .code yX8_spot cX8_spot 3 (some .int)] ++ wsX80)
def wsX8_find : List Cond := .code yX8_find cX8_find 4 none :: ([.fieldLink RX8 143 "ForgettingLinesModel" "many" "I", .fieldLink RX8 48 "ForgettingLinesModel" "rounds" "[I", .fieldLink RX8 51 "ForgettingLinesModel" "byArc" "[I", .fieldLink RX8 54 "ForgettingLinesModel" "aheadOf" "[I", .methodLink RX8 140 yX8_copy, .instanceMethod yX8_copy, .selects RX8 yX8_copy yX8_copy, .initialized RX8, .code yX8_copy cX8_copy 5 none, .fieldLink RX8 39 "ForgettingLinesModel" "stateOf" "[I", .fieldLink RX8 42 "ForgettingLinesModel" "sizes" "[I", .fieldLink RX8 45 "ForgettingLinesModel" "words" "[I", .methodLink RX8 122 yX8_spot, .static yX8_spot, .code yX8_spot cX8_spot 3 (some .int)] ++ wsX80)
def wsX8_search_r1 : List Cond := [Cond.fieldLink RX8 143 "ForgettingLinesModel" "many" "I", Cond.fieldLink RX8 77 "ForgettingLinesModel" "arcs" "I", Cond.fieldLink RX8 30 "ForgettingLinesModel" "tos" "[I", Cond.fieldLink RX8 39 "ForgettingLinesModel" "stateOf" "[I", Cond.fieldLink RX8 42 "ForgettingLinesModel" "sizes" "[I", Cond.fieldLink RX8 48 "ForgettingLinesModel" "rounds" "[I", Cond.methodLink RX8 140 yX8_copy, Cond.instanceMethod yX8_copy, Cond.selects RX8 yX8_copy yX8_copy, Cond.initialized RX8, Cond.code yX8_copy cX8_copy 5 none, Cond.fieldLink RX8 45 "ForgettingLinesModel" "words" "[I", Cond.methodLink RX8 122 yX8_spot, Cond.static yX8_spot, Cond.code yX8_spot cX8_spot 3 (some .int), Cond.methodLink RX8 150 yX8_find, Cond.instanceMethod yX8_find, Cond.selects RX8 yX8_find yX8_find, Cond.code yX8_find cX8_find 4 none, Cond.fieldLink RX8 51 "ForgettingLinesModel" "byArc" "[I", Cond.fieldLink RX8 54 "ForgettingLinesModel" "aheadOf" "[I", Cond.methodLink RX8 153 yX8_ahead, Cond.instanceMethod yX8_ahead, Cond.selects RX8 yX8_ahead yX8_ahead]
def wsX8_search_r2 : List Cond := [Cond.code yX8_ahead cX8_ahead 7 none, Cond.fieldLink RX8 17 "ForgettingLinesModel" "froms" "[I", Cond.fieldLink RX8 24 "ForgettingLinesModel" "lines" "[I", Cond.fieldLink RX8 27 "ForgettingLinesModel" "letters" "[I", Cond.fieldLink RX8 21 "ForgettingLinesModel" "acts" "[I", Cond.fieldLink RX8 13 "ForgettingLinesModel" "bags" "[Z", Cond.methodLink RX8 133 yX8_inOrder, Cond.instanceMethod yX8_inOrder, Cond.selects RX8 yX8_inOrder yX8_inOrder, Cond.code yX8_inOrder cX8_inOrder 5 (some .int), Cond.methodLink RX8 136 yX8_putIn, Cond.instanceMethod yX8_putIn, Cond.selects RX8 yX8_putIn yX8_putIn, Cond.code yX8_putIn cX8_putIn 6 none, Cond.methodLink RX8 126 yX8_firstOf, Cond.instanceMethod yX8_firstOf, Cond.selects RX8 yX8_firstOf yX8_firstOf, Cond.code yX8_firstOf cX8_firstOf 5 (some .int), Cond.methodLink RX8 129 yX8_takeOut, Cond.instanceMethod yX8_takeOut, Cond.selects RX8 yX8_takeOut yX8_takeOut, Cond.code yX8_takeOut cX8_takeOut 5 none, Cond.methodLink RX8 156 yX8_isNew, Cond.instanceMethod yX8_isNew]
def wsX8_search_r3 : List Cond := [Cond.selects RX8 yX8_isNew yX8_isNew, Cond.code yX8_isNew cX8_isNew 3 (some .boolean), Cond.methodLink RX8 146 yX8_isBelow, Cond.instanceMethod yX8_isBelow, Cond.selects RX8 yX8_isBelow yX8_isBelow, Cond.code yX8_isBelow cX8_isBelow 7 (some .boolean)]
def wsX8_search : List Cond := .code yX8_search cX8_search 3 (some .boolean) :: ((wsX8_search_r1 ++ (wsX8_search_r2 ++ wsX8_search_r3)) ++ wsX80)
def wsX8_isLeast : List Cond := .code yX8_isLeast cX8_isLeast 4 (some .boolean) :: ([.fieldLink RX8 143 "ForgettingLinesModel" "many" "I", .methodLink RX8 146 yX8_isBelow, .instanceMethod yX8_isBelow, .selects RX8 yX8_isBelow yX8_isBelow, .initialized RX8, .code yX8_isBelow cX8_isBelow 7 (some .boolean), .fieldLink RX8 39 "ForgettingLinesModel" "stateOf" "[I", .fieldLink RX8 42 "ForgettingLinesModel" "sizes" "[I", .fieldLink RX8 45 "ForgettingLinesModel" "words" "[I", .methodLink RX8 122 yX8_spot, .static yX8_spot, .code yX8_spot cX8_spot 3 (some .int)] ++ wsX80)
def wsX8_found_r1 : List Cond := [Cond.fieldLink RX8 143 "ForgettingLinesModel" "many" "I", Cond.methodLink RX8 160 yX8_search, Cond.instanceMethod yX8_search, Cond.selects RX8 yX8_search yX8_search, Cond.initialized RX8, Cond.code yX8_search cX8_search 3 (some .boolean), Cond.fieldLink RX8 77 "ForgettingLinesModel" "arcs" "I", Cond.fieldLink RX8 30 "ForgettingLinesModel" "tos" "[I", Cond.fieldLink RX8 39 "ForgettingLinesModel" "stateOf" "[I", Cond.fieldLink RX8 42 "ForgettingLinesModel" "sizes" "[I", Cond.fieldLink RX8 48 "ForgettingLinesModel" "rounds" "[I", Cond.methodLink RX8 140 yX8_copy, Cond.instanceMethod yX8_copy, Cond.selects RX8 yX8_copy yX8_copy, Cond.code yX8_copy cX8_copy 5 none, Cond.fieldLink RX8 45 "ForgettingLinesModel" "words" "[I", Cond.methodLink RX8 122 yX8_spot, Cond.static yX8_spot, Cond.code yX8_spot cX8_spot 3 (some .int), Cond.methodLink RX8 150 yX8_find, Cond.instanceMethod yX8_find, Cond.selects RX8 yX8_find yX8_find, Cond.code yX8_find cX8_find 4 none, Cond.fieldLink RX8 51 "ForgettingLinesModel" "byArc" "[I"]
def wsX8_found_r2 : List Cond := [Cond.fieldLink RX8 54 "ForgettingLinesModel" "aheadOf" "[I", Cond.methodLink RX8 153 yX8_ahead, Cond.instanceMethod yX8_ahead, Cond.selects RX8 yX8_ahead yX8_ahead, Cond.code yX8_ahead cX8_ahead 7 none, Cond.fieldLink RX8 17 "ForgettingLinesModel" "froms" "[I", Cond.fieldLink RX8 24 "ForgettingLinesModel" "lines" "[I", Cond.fieldLink RX8 27 "ForgettingLinesModel" "letters" "[I", Cond.fieldLink RX8 21 "ForgettingLinesModel" "acts" "[I", Cond.fieldLink RX8 13 "ForgettingLinesModel" "bags" "[Z", Cond.methodLink RX8 133 yX8_inOrder, Cond.instanceMethod yX8_inOrder, Cond.selects RX8 yX8_inOrder yX8_inOrder, Cond.code yX8_inOrder cX8_inOrder 5 (some .int), Cond.methodLink RX8 136 yX8_putIn, Cond.instanceMethod yX8_putIn, Cond.selects RX8 yX8_putIn yX8_putIn, Cond.code yX8_putIn cX8_putIn 6 none, Cond.methodLink RX8 126 yX8_firstOf, Cond.instanceMethod yX8_firstOf, Cond.selects RX8 yX8_firstOf yX8_firstOf, Cond.code yX8_firstOf cX8_firstOf 5 (some .int), Cond.methodLink RX8 129 yX8_takeOut, Cond.instanceMethod yX8_takeOut]
def wsX8_found_r3 : List Cond := [Cond.selects RX8 yX8_takeOut yX8_takeOut, Cond.code yX8_takeOut cX8_takeOut 5 none, Cond.methodLink RX8 156 yX8_isNew, Cond.instanceMethod yX8_isNew, Cond.selects RX8 yX8_isNew yX8_isNew, Cond.code yX8_isNew cX8_isNew 3 (some .boolean), Cond.methodLink RX8 146 yX8_isBelow, Cond.instanceMethod yX8_isBelow, Cond.selects RX8 yX8_isBelow yX8_isBelow, Cond.code yX8_isBelow cX8_isBelow 7 (some .boolean)]
def wsX8_found : List Cond := .code yX8_found cX8_found 1 (some .int) :: ((wsX8_found_r1 ++ (wsX8_found_r2 ++ wsX8_found_r3)) ++ wsX80)
def wsX8_about_r1 : List Cond := [Cond.fieldLink RX8 143 "ForgettingLinesModel" "many" "I", Cond.fieldLink RX8 39 "ForgettingLinesModel" "stateOf" "[I", Cond.fieldLink RX8 48 "ForgettingLinesModel" "rounds" "[I", Cond.fieldLink RX8 42 "ForgettingLinesModel" "sizes" "[I", Cond.fieldLink RX8 51 "ForgettingLinesModel" "byArc" "[I", Cond.fieldLink RX8 54 "ForgettingLinesModel" "aheadOf" "[I", Cond.methodLink RX8 73 yX8_in, Cond.static yX8_in, Cond.initialized RX8, Cond.code yX8_in cX8_in 3 (some .boolean), Cond.methodLink RX8 160 yX8_search, Cond.instanceMethod yX8_search, Cond.selects RX8 yX8_search yX8_search, Cond.code yX8_search cX8_search 3 (some .boolean), Cond.fieldLink RX8 77 "ForgettingLinesModel" "arcs" "I", Cond.fieldLink RX8 30 "ForgettingLinesModel" "tos" "[I", Cond.methodLink RX8 140 yX8_copy, Cond.instanceMethod yX8_copy, Cond.selects RX8 yX8_copy yX8_copy, Cond.code yX8_copy cX8_copy 5 none, Cond.fieldLink RX8 45 "ForgettingLinesModel" "words" "[I", Cond.methodLink RX8 122 yX8_spot, Cond.static yX8_spot, Cond.code yX8_spot cX8_spot 3 (some .int)]
def wsX8_about_r2 : List Cond := [Cond.methodLink RX8 150 yX8_find, Cond.instanceMethod yX8_find, Cond.selects RX8 yX8_find yX8_find, Cond.code yX8_find cX8_find 4 none, Cond.methodLink RX8 153 yX8_ahead, Cond.instanceMethod yX8_ahead, Cond.selects RX8 yX8_ahead yX8_ahead, Cond.code yX8_ahead cX8_ahead 7 none, Cond.fieldLink RX8 17 "ForgettingLinesModel" "froms" "[I", Cond.fieldLink RX8 24 "ForgettingLinesModel" "lines" "[I", Cond.fieldLink RX8 27 "ForgettingLinesModel" "letters" "[I", Cond.fieldLink RX8 21 "ForgettingLinesModel" "acts" "[I", Cond.fieldLink RX8 13 "ForgettingLinesModel" "bags" "[Z", Cond.methodLink RX8 133 yX8_inOrder, Cond.instanceMethod yX8_inOrder, Cond.selects RX8 yX8_inOrder yX8_inOrder, Cond.code yX8_inOrder cX8_inOrder 5 (some .int), Cond.methodLink RX8 136 yX8_putIn, Cond.instanceMethod yX8_putIn, Cond.selects RX8 yX8_putIn yX8_putIn, Cond.code yX8_putIn cX8_putIn 6 none, Cond.methodLink RX8 126 yX8_firstOf, Cond.instanceMethod yX8_firstOf, Cond.selects RX8 yX8_firstOf yX8_firstOf]
def wsX8_about_r3 : List Cond := [Cond.code yX8_firstOf cX8_firstOf 5 (some .int), Cond.methodLink RX8 129 yX8_takeOut, Cond.instanceMethod yX8_takeOut, Cond.selects RX8 yX8_takeOut yX8_takeOut, Cond.code yX8_takeOut cX8_takeOut 5 none, Cond.methodLink RX8 156 yX8_isNew, Cond.instanceMethod yX8_isNew, Cond.selects RX8 yX8_isNew yX8_isNew, Cond.code yX8_isNew cX8_isNew 3 (some .boolean), Cond.methodLink RX8 146 yX8_isBelow, Cond.instanceMethod yX8_isBelow, Cond.selects RX8 yX8_isBelow yX8_isBelow, Cond.code yX8_isBelow cX8_isBelow 7 (some .boolean), Cond.methodLink RX8 163 yX8_isLeast, Cond.instanceMethod yX8_isLeast, Cond.selects RX8 yX8_isLeast yX8_isLeast, Cond.code yX8_isLeast cX8_isLeast 4 (some .boolean)]
def wsX8_about : List Cond := .code yX8_about cX8_about 3 (some .int) :: ((wsX8_about_r1 ++ (wsX8_about_r2 ++ wsX8_about_r3)) ++ wsX80)
def wsX8_letter_r1 : List Cond := [Cond.fieldLink RX8 143 "ForgettingLinesModel" "many" "I", Cond.fieldLink RX8 42 "ForgettingLinesModel" "sizes" "[I", Cond.fieldLink RX8 45 "ForgettingLinesModel" "words" "[I", Cond.methodLink RX8 73 yX8_in, Cond.static yX8_in, Cond.initialized RX8, Cond.code yX8_in cX8_in 3 (some .boolean), Cond.methodLink RX8 160 yX8_search, Cond.instanceMethod yX8_search, Cond.selects RX8 yX8_search yX8_search, Cond.code yX8_search cX8_search 3 (some .boolean), Cond.fieldLink RX8 77 "ForgettingLinesModel" "arcs" "I", Cond.fieldLink RX8 30 "ForgettingLinesModel" "tos" "[I", Cond.fieldLink RX8 39 "ForgettingLinesModel" "stateOf" "[I", Cond.fieldLink RX8 48 "ForgettingLinesModel" "rounds" "[I", Cond.methodLink RX8 140 yX8_copy, Cond.instanceMethod yX8_copy, Cond.selects RX8 yX8_copy yX8_copy, Cond.code yX8_copy cX8_copy 5 none, Cond.methodLink RX8 122 yX8_spot, Cond.static yX8_spot, Cond.code yX8_spot cX8_spot 3 (some .int), Cond.methodLink RX8 150 yX8_find, Cond.instanceMethod yX8_find]
def wsX8_letter_r2 : List Cond := [Cond.selects RX8 yX8_find yX8_find, Cond.code yX8_find cX8_find 4 none, Cond.fieldLink RX8 51 "ForgettingLinesModel" "byArc" "[I", Cond.fieldLink RX8 54 "ForgettingLinesModel" "aheadOf" "[I", Cond.methodLink RX8 153 yX8_ahead, Cond.instanceMethod yX8_ahead, Cond.selects RX8 yX8_ahead yX8_ahead, Cond.code yX8_ahead cX8_ahead 7 none, Cond.fieldLink RX8 17 "ForgettingLinesModel" "froms" "[I", Cond.fieldLink RX8 24 "ForgettingLinesModel" "lines" "[I", Cond.fieldLink RX8 27 "ForgettingLinesModel" "letters" "[I", Cond.fieldLink RX8 21 "ForgettingLinesModel" "acts" "[I", Cond.fieldLink RX8 13 "ForgettingLinesModel" "bags" "[Z", Cond.methodLink RX8 133 yX8_inOrder, Cond.instanceMethod yX8_inOrder, Cond.selects RX8 yX8_inOrder yX8_inOrder, Cond.code yX8_inOrder cX8_inOrder 5 (some .int), Cond.methodLink RX8 136 yX8_putIn, Cond.instanceMethod yX8_putIn, Cond.selects RX8 yX8_putIn yX8_putIn, Cond.code yX8_putIn cX8_putIn 6 none, Cond.methodLink RX8 126 yX8_firstOf, Cond.instanceMethod yX8_firstOf, Cond.selects RX8 yX8_firstOf yX8_firstOf]
def wsX8_letter_r3 : List Cond := [Cond.code yX8_firstOf cX8_firstOf 5 (some .int), Cond.methodLink RX8 129 yX8_takeOut, Cond.instanceMethod yX8_takeOut, Cond.selects RX8 yX8_takeOut yX8_takeOut, Cond.code yX8_takeOut cX8_takeOut 5 none, Cond.methodLink RX8 156 yX8_isNew, Cond.instanceMethod yX8_isNew, Cond.selects RX8 yX8_isNew yX8_isNew, Cond.code yX8_isNew cX8_isNew 3 (some .boolean), Cond.methodLink RX8 146 yX8_isBelow, Cond.instanceMethod yX8_isBelow, Cond.selects RX8 yX8_isBelow yX8_isBelow, Cond.code yX8_isBelow cX8_isBelow 7 (some .boolean)]
def wsX8_letter : List Cond := .code yX8_letter cX8_letter 4 (some .int) :: ((wsX8_letter_r1 ++ (wsX8_letter_r2 ++ wsX8_letter_r3)) ++ wsX80)
def wsX8_least_r1 : List Cond := [Cond.fieldLink RX8 143 "ForgettingLinesModel" "many" "I", Cond.methodLink RX8 160 yX8_search, Cond.instanceMethod yX8_search, Cond.selects RX8 yX8_search yX8_search, Cond.initialized RX8, Cond.code yX8_search cX8_search 3 (some .boolean), Cond.fieldLink RX8 77 "ForgettingLinesModel" "arcs" "I", Cond.fieldLink RX8 30 "ForgettingLinesModel" "tos" "[I", Cond.fieldLink RX8 39 "ForgettingLinesModel" "stateOf" "[I", Cond.fieldLink RX8 42 "ForgettingLinesModel" "sizes" "[I", Cond.fieldLink RX8 48 "ForgettingLinesModel" "rounds" "[I", Cond.methodLink RX8 140 yX8_copy, Cond.instanceMethod yX8_copy, Cond.selects RX8 yX8_copy yX8_copy, Cond.code yX8_copy cX8_copy 5 none, Cond.fieldLink RX8 45 "ForgettingLinesModel" "words" "[I", Cond.methodLink RX8 122 yX8_spot, Cond.static yX8_spot, Cond.code yX8_spot cX8_spot 3 (some .int), Cond.methodLink RX8 150 yX8_find, Cond.instanceMethod yX8_find, Cond.selects RX8 yX8_find yX8_find, Cond.code yX8_find cX8_find 4 none, Cond.fieldLink RX8 51 "ForgettingLinesModel" "byArc" "[I"]
def wsX8_least_r2 : List Cond := [Cond.fieldLink RX8 54 "ForgettingLinesModel" "aheadOf" "[I", Cond.methodLink RX8 153 yX8_ahead, Cond.instanceMethod yX8_ahead, Cond.selects RX8 yX8_ahead yX8_ahead, Cond.code yX8_ahead cX8_ahead 7 none, Cond.fieldLink RX8 17 "ForgettingLinesModel" "froms" "[I", Cond.fieldLink RX8 24 "ForgettingLinesModel" "lines" "[I", Cond.fieldLink RX8 27 "ForgettingLinesModel" "letters" "[I", Cond.fieldLink RX8 21 "ForgettingLinesModel" "acts" "[I", Cond.fieldLink RX8 13 "ForgettingLinesModel" "bags" "[Z", Cond.methodLink RX8 133 yX8_inOrder, Cond.instanceMethod yX8_inOrder, Cond.selects RX8 yX8_inOrder yX8_inOrder, Cond.code yX8_inOrder cX8_inOrder 5 (some .int), Cond.methodLink RX8 136 yX8_putIn, Cond.instanceMethod yX8_putIn, Cond.selects RX8 yX8_putIn yX8_putIn, Cond.code yX8_putIn cX8_putIn 6 none, Cond.methodLink RX8 126 yX8_firstOf, Cond.instanceMethod yX8_firstOf, Cond.selects RX8 yX8_firstOf yX8_firstOf, Cond.code yX8_firstOf cX8_firstOf 5 (some .int), Cond.methodLink RX8 129 yX8_takeOut, Cond.instanceMethod yX8_takeOut]
def wsX8_least_r3 : List Cond := [Cond.selects RX8 yX8_takeOut yX8_takeOut, Cond.code yX8_takeOut cX8_takeOut 5 none, Cond.methodLink RX8 156 yX8_isNew, Cond.instanceMethod yX8_isNew, Cond.selects RX8 yX8_isNew yX8_isNew, Cond.code yX8_isNew cX8_isNew 3 (some .boolean), Cond.methodLink RX8 146 yX8_isBelow, Cond.instanceMethod yX8_isBelow, Cond.selects RX8 yX8_isBelow yX8_isBelow, Cond.code yX8_isBelow cX8_isBelow 7 (some .boolean), Cond.methodLink RX8 163 yX8_isLeast, Cond.instanceMethod yX8_isLeast, Cond.selects RX8 yX8_isLeast yX8_isLeast, Cond.code yX8_isLeast cX8_isLeast 4 (some .boolean)]
def wsX8_least : List Cond := .code yX8_least cX8_least 3 (some .int) :: ((wsX8_least_r1 ++ (wsX8_least_r2 ++ wsX8_least_r3)) ++ wsX80)
def wsX8_nearest : List Cond := .code yX8_nearest cX8_nearest 2 (some .int) :: ([.fieldLink RX8 143 "ForgettingLinesModel" "many" "I", .methodLink RX8 146 yX8_isBelow, .instanceMethod yX8_isBelow, .selects RX8 yX8_isBelow yX8_isBelow, .initialized RX8, .code yX8_isBelow cX8_isBelow 7 (some .boolean), .fieldLink RX8 39 "ForgettingLinesModel" "stateOf" "[I", .fieldLink RX8 42 "ForgettingLinesModel" "sizes" "[I", .fieldLink RX8 45 "ForgettingLinesModel" "words" "[I", .methodLink RX8 122 yX8_spot, .static yX8_spot, .code yX8_spot cX8_spot 3 (some .int)] ++ wsX80)
def wsX8_far_r1 : List Cond := [Cond.fieldLink RX8 48 "ForgettingLinesModel" "rounds" "[I", Cond.methodLink RX8 160 yX8_search, Cond.instanceMethod yX8_search, Cond.selects RX8 yX8_search yX8_search, Cond.initialized RX8, Cond.code yX8_search cX8_search 3 (some .boolean), Cond.fieldLink RX8 143 "ForgettingLinesModel" "many" "I", Cond.fieldLink RX8 77 "ForgettingLinesModel" "arcs" "I", Cond.fieldLink RX8 30 "ForgettingLinesModel" "tos" "[I", Cond.fieldLink RX8 39 "ForgettingLinesModel" "stateOf" "[I", Cond.fieldLink RX8 42 "ForgettingLinesModel" "sizes" "[I", Cond.methodLink RX8 140 yX8_copy, Cond.instanceMethod yX8_copy, Cond.selects RX8 yX8_copy yX8_copy, Cond.code yX8_copy cX8_copy 5 none, Cond.fieldLink RX8 45 "ForgettingLinesModel" "words" "[I", Cond.methodLink RX8 122 yX8_spot, Cond.static yX8_spot, Cond.code yX8_spot cX8_spot 3 (some .int), Cond.methodLink RX8 150 yX8_find, Cond.instanceMethod yX8_find, Cond.selects RX8 yX8_find yX8_find, Cond.code yX8_find cX8_find 4 none, Cond.fieldLink RX8 51 "ForgettingLinesModel" "byArc" "[I"]
def wsX8_far_r2 : List Cond := [Cond.fieldLink RX8 54 "ForgettingLinesModel" "aheadOf" "[I", Cond.methodLink RX8 153 yX8_ahead, Cond.instanceMethod yX8_ahead, Cond.selects RX8 yX8_ahead yX8_ahead, Cond.code yX8_ahead cX8_ahead 7 none, Cond.fieldLink RX8 17 "ForgettingLinesModel" "froms" "[I", Cond.fieldLink RX8 24 "ForgettingLinesModel" "lines" "[I", Cond.fieldLink RX8 27 "ForgettingLinesModel" "letters" "[I", Cond.fieldLink RX8 21 "ForgettingLinesModel" "acts" "[I", Cond.fieldLink RX8 13 "ForgettingLinesModel" "bags" "[Z", Cond.methodLink RX8 133 yX8_inOrder, Cond.instanceMethod yX8_inOrder, Cond.selects RX8 yX8_inOrder yX8_inOrder, Cond.code yX8_inOrder cX8_inOrder 5 (some .int), Cond.methodLink RX8 136 yX8_putIn, Cond.instanceMethod yX8_putIn, Cond.selects RX8 yX8_putIn yX8_putIn, Cond.code yX8_putIn cX8_putIn 6 none, Cond.methodLink RX8 126 yX8_firstOf, Cond.instanceMethod yX8_firstOf, Cond.selects RX8 yX8_firstOf yX8_firstOf, Cond.code yX8_firstOf cX8_firstOf 5 (some .int), Cond.methodLink RX8 129 yX8_takeOut, Cond.instanceMethod yX8_takeOut]
def wsX8_far_r3 : List Cond := [Cond.selects RX8 yX8_takeOut yX8_takeOut, Cond.code yX8_takeOut cX8_takeOut 5 none, Cond.methodLink RX8 156 yX8_isNew, Cond.instanceMethod yX8_isNew, Cond.selects RX8 yX8_isNew yX8_isNew, Cond.code yX8_isNew cX8_isNew 3 (some .boolean), Cond.methodLink RX8 146 yX8_isBelow, Cond.instanceMethod yX8_isBelow, Cond.selects RX8 yX8_isBelow yX8_isBelow, Cond.code yX8_isBelow cX8_isBelow 7 (some .boolean), Cond.methodLink RX8 166 yX8_nearest, Cond.instanceMethod yX8_nearest, Cond.selects RX8 yX8_nearest yX8_nearest, Cond.code yX8_nearest cX8_nearest 2 (some .int)]
def wsX8_far : List Cond := .code yX8_far cX8_far 2 (some .int) :: ((wsX8_far_r1 ++ (wsX8_far_r2 ++ wsX8_far_r3)) ++ wsX80)
def wsX8_way_r1 : List Cond := [Cond.fieldLink RX8 48 "ForgettingLinesModel" "rounds" "[I", Cond.fieldLink RX8 54 "ForgettingLinesModel" "aheadOf" "[I", Cond.fieldLink RX8 51 "ForgettingLinesModel" "byArc" "[I", Cond.methodLink RX8 160 yX8_search, Cond.instanceMethod yX8_search, Cond.selects RX8 yX8_search yX8_search, Cond.initialized RX8, Cond.code yX8_search cX8_search 3 (some .boolean), Cond.fieldLink RX8 143 "ForgettingLinesModel" "many" "I", Cond.fieldLink RX8 77 "ForgettingLinesModel" "arcs" "I", Cond.fieldLink RX8 30 "ForgettingLinesModel" "tos" "[I", Cond.fieldLink RX8 39 "ForgettingLinesModel" "stateOf" "[I", Cond.fieldLink RX8 42 "ForgettingLinesModel" "sizes" "[I", Cond.methodLink RX8 140 yX8_copy, Cond.instanceMethod yX8_copy, Cond.selects RX8 yX8_copy yX8_copy, Cond.code yX8_copy cX8_copy 5 none, Cond.fieldLink RX8 45 "ForgettingLinesModel" "words" "[I", Cond.methodLink RX8 122 yX8_spot, Cond.static yX8_spot, Cond.code yX8_spot cX8_spot 3 (some .int), Cond.methodLink RX8 150 yX8_find, Cond.instanceMethod yX8_find, Cond.selects RX8 yX8_find yX8_find]
def wsX8_way_r2 : List Cond := [Cond.code yX8_find cX8_find 4 none, Cond.methodLink RX8 153 yX8_ahead, Cond.instanceMethod yX8_ahead, Cond.selects RX8 yX8_ahead yX8_ahead, Cond.code yX8_ahead cX8_ahead 7 none, Cond.fieldLink RX8 17 "ForgettingLinesModel" "froms" "[I", Cond.fieldLink RX8 24 "ForgettingLinesModel" "lines" "[I", Cond.fieldLink RX8 27 "ForgettingLinesModel" "letters" "[I", Cond.fieldLink RX8 21 "ForgettingLinesModel" "acts" "[I", Cond.fieldLink RX8 13 "ForgettingLinesModel" "bags" "[Z", Cond.methodLink RX8 133 yX8_inOrder, Cond.instanceMethod yX8_inOrder, Cond.selects RX8 yX8_inOrder yX8_inOrder, Cond.code yX8_inOrder cX8_inOrder 5 (some .int), Cond.methodLink RX8 136 yX8_putIn, Cond.instanceMethod yX8_putIn, Cond.selects RX8 yX8_putIn yX8_putIn, Cond.code yX8_putIn cX8_putIn 6 none, Cond.methodLink RX8 126 yX8_firstOf, Cond.instanceMethod yX8_firstOf, Cond.selects RX8 yX8_firstOf yX8_firstOf, Cond.code yX8_firstOf cX8_firstOf 5 (some .int), Cond.methodLink RX8 129 yX8_takeOut, Cond.instanceMethod yX8_takeOut]
def wsX8_way_r3 : List Cond := [Cond.selects RX8 yX8_takeOut yX8_takeOut, Cond.code yX8_takeOut cX8_takeOut 5 none, Cond.methodLink RX8 156 yX8_isNew, Cond.instanceMethod yX8_isNew, Cond.selects RX8 yX8_isNew yX8_isNew, Cond.code yX8_isNew cX8_isNew 3 (some .boolean), Cond.methodLink RX8 146 yX8_isBelow, Cond.instanceMethod yX8_isBelow, Cond.selects RX8 yX8_isBelow yX8_isBelow, Cond.code yX8_isBelow cX8_isBelow 7 (some .boolean), Cond.methodLink RX8 166 yX8_nearest, Cond.instanceMethod yX8_nearest, Cond.selects RX8 yX8_nearest yX8_nearest, Cond.code yX8_nearest cX8_nearest 2 (some .int)]
def wsX8_way : List Cond := .code yX8_way cX8_way 4 (some .int) :: ((wsX8_way_r1 ++ (wsX8_way_r2 ++ wsX8_way_r3)) ++ wsX80)
def wsX8_codeOf : List Cond := .code yX8_codeOf cX8_codeOf 5 (some .int) :: ([.fieldLink RX8 42 "ForgettingLinesModel" "sizes" "[I", .fieldLink RX8 45 "ForgettingLinesModel" "words" "[I", .methodLink RX8 122 yX8_spot, .static yX8_spot, .initialized RX8, .code yX8_spot cX8_spot 3 (some .int)] ++ wsX80)
def wsX8_decode : List Cond := .code yX8_decode cX8_decode 5 none :: ([.fieldLink RX8 42 "ForgettingLinesModel" "sizes" "[I", .fieldLink RX8 45 "ForgettingLinesModel" "words" "[I", .methodLink RX8 122 yX8_spot, .static yX8_spot, .initialized RX8, .code yX8_spot cX8_spot 3 (some .int)] ++ wsX80)
def wsX8_wholeCode : List Cond := .code yX8_wholeCode cX8_wholeCode 2 (some .int) :: ([.fieldLink RX8 39 "ForgettingLinesModel" "stateOf" "[I", .methodLink RX8 169 yX8_codeOf, .instanceMethod yX8_codeOf, .selects RX8 yX8_codeOf yX8_codeOf, .initialized RX8, .code yX8_codeOf cX8_codeOf 5 (some .int), .fieldLink RX8 42 "ForgettingLinesModel" "sizes" "[I", .fieldLink RX8 45 "ForgettingLinesModel" "words" "[I", .methodLink RX8 122 yX8_spot, .static yX8_spot, .code yX8_spot cX8_spot 3 (some .int)] ++ wsX80)
def wsX8_goes_r1 : List Cond := [Cond.fieldLink RX8 24 "ForgettingLinesModel" "lines" "[I", Cond.fieldLink RX8 27 "ForgettingLinesModel" "letters" "[I", Cond.fieldLink RX8 17 "ForgettingLinesModel" "froms" "[I", Cond.fieldLink RX8 39 "ForgettingLinesModel" "stateOf" "[I", Cond.fieldLink RX8 21 "ForgettingLinesModel" "acts" "[I", Cond.fieldLink RX8 13 "ForgettingLinesModel" "bags" "[Z", Cond.fieldLink RX8 42 "ForgettingLinesModel" "sizes" "[I", Cond.fieldLink RX8 30 "ForgettingLinesModel" "tos" "[I", Cond.methodLink RX8 126 yX8_firstOf, Cond.instanceMethod yX8_firstOf, Cond.selects RX8 yX8_firstOf yX8_firstOf, Cond.initialized RX8, Cond.code yX8_firstOf cX8_firstOf 5 (some .int), Cond.fieldLink RX8 45 "ForgettingLinesModel" "words" "[I", Cond.methodLink RX8 122 yX8_spot, Cond.static yX8_spot, Cond.code yX8_spot cX8_spot 3 (some .int), Cond.methodLink RX8 129 yX8_takeOut, Cond.instanceMethod yX8_takeOut, Cond.selects RX8 yX8_takeOut yX8_takeOut, Cond.code yX8_takeOut cX8_takeOut 5 none, Cond.methodLink RX8 133 yX8_inOrder, Cond.instanceMethod yX8_inOrder, Cond.selects RX8 yX8_inOrder yX8_inOrder]
def wsX8_goes_r2 : List Cond := [Cond.code yX8_inOrder cX8_inOrder 5 (some .int), Cond.methodLink RX8 136 yX8_putIn, Cond.instanceMethod yX8_putIn, Cond.selects RX8 yX8_putIn yX8_putIn, Cond.code yX8_putIn cX8_putIn 6 none]
def wsX8_goes : List Cond := .code yX8_goes cX8_goes 6 (some .boolean) :: ((wsX8_goes_r1 ++ wsX8_goes_r2) ++ wsX80)
def wsX8_isLong : List Cond := .code yX8_isLong cX8_isLong 3 (some .boolean) :: ([.fieldLink RX8 42 "ForgettingLinesModel" "sizes" "[I"] ++ wsX80)
def wsX8_lay : List Cond := .code yX8_lay cX8_lay 2 none :: ([.fieldLink RX8 39 "ForgettingLinesModel" "stateOf" "[I", .methodLink RX8 186 yX8_decode, .instanceMethod yX8_decode, .selects RX8 yX8_decode yX8_decode, .initialized RX8, .code yX8_decode cX8_decode 5 none, .fieldLink RX8 42 "ForgettingLinesModel" "sizes" "[I", .fieldLink RX8 45 "ForgettingLinesModel" "words" "[I", .methodLink RX8 122 yX8_spot, .static yX8_spot, .code yX8_spot cX8_spot 3 (some .int)] ++ wsX80)
def wsX8_strict_r1 : List Cond := [Cond.constant RX8 57 (32768), Cond.fieldLink RX8 61 "ForgettingLinesModel" "steps" "[I", Cond.fieldLink RX8 58 "ForgettingLinesModel" "queue" "[I", Cond.fieldLink RX8 77 "ForgettingLinesModel" "arcs" "I", Cond.methodLink RX8 73 yX8_in, Cond.static yX8_in, Cond.initialized RX8, Cond.code yX8_in cX8_in 3 (some .boolean), Cond.methodLink RX8 172 yX8_isLong, Cond.instanceMethod yX8_isLong, Cond.selects RX8 yX8_isLong yX8_isLong, Cond.code yX8_isLong cX8_isLong 3 (some .boolean), Cond.fieldLink RX8 42 "ForgettingLinesModel" "sizes" "[I", Cond.methodLink RX8 175 yX8_wholeCode, Cond.instanceMethod yX8_wholeCode, Cond.selects RX8 yX8_wholeCode yX8_wholeCode, Cond.code yX8_wholeCode cX8_wholeCode 2 (some .int), Cond.fieldLink RX8 39 "ForgettingLinesModel" "stateOf" "[I", Cond.methodLink RX8 169 yX8_codeOf, Cond.instanceMethod yX8_codeOf, Cond.selects RX8 yX8_codeOf yX8_codeOf, Cond.code yX8_codeOf cX8_codeOf 5 (some .int), Cond.fieldLink RX8 45 "ForgettingLinesModel" "words" "[I", Cond.methodLink RX8 122 yX8_spot]
def wsX8_strict_r2 : List Cond := [Cond.static yX8_spot, Cond.code yX8_spot cX8_spot 3 (some .int), Cond.methodLink RX8 179 yX8_lay, Cond.instanceMethod yX8_lay, Cond.selects RX8 yX8_lay yX8_lay, Cond.code yX8_lay cX8_lay 2 none, Cond.methodLink RX8 186 yX8_decode, Cond.instanceMethod yX8_decode, Cond.selects RX8 yX8_decode yX8_decode, Cond.code yX8_decode cX8_decode 5 none, Cond.methodLink RX8 146 yX8_isBelow, Cond.instanceMethod yX8_isBelow, Cond.selects RX8 yX8_isBelow yX8_isBelow, Cond.code yX8_isBelow cX8_isBelow 7 (some .boolean), Cond.methodLink RX8 183 yX8_goes, Cond.instanceMethod yX8_goes, Cond.selects RX8 yX8_goes yX8_goes, Cond.code yX8_goes cX8_goes 6 (some .boolean), Cond.fieldLink RX8 24 "ForgettingLinesModel" "lines" "[I", Cond.fieldLink RX8 27 "ForgettingLinesModel" "letters" "[I", Cond.fieldLink RX8 17 "ForgettingLinesModel" "froms" "[I", Cond.fieldLink RX8 21 "ForgettingLinesModel" "acts" "[I", Cond.fieldLink RX8 13 "ForgettingLinesModel" "bags" "[Z", Cond.fieldLink RX8 30 "ForgettingLinesModel" "tos" "[I"]
def wsX8_strict_r3 : List Cond := [Cond.methodLink RX8 126 yX8_firstOf, Cond.instanceMethod yX8_firstOf, Cond.selects RX8 yX8_firstOf yX8_firstOf, Cond.code yX8_firstOf cX8_firstOf 5 (some .int), Cond.methodLink RX8 129 yX8_takeOut, Cond.instanceMethod yX8_takeOut, Cond.selects RX8 yX8_takeOut yX8_takeOut, Cond.code yX8_takeOut cX8_takeOut 5 none, Cond.methodLink RX8 133 yX8_inOrder, Cond.instanceMethod yX8_inOrder, Cond.selects RX8 yX8_inOrder yX8_inOrder, Cond.code yX8_inOrder cX8_inOrder 5 (some .int), Cond.methodLink RX8 136 yX8_putIn, Cond.instanceMethod yX8_putIn, Cond.selects RX8 yX8_putIn yX8_putIn, Cond.code yX8_putIn cX8_putIn 6 none]
def wsX8_strict : List Cond := .code yX8_strict cX8_strict 6 (some .int) :: ((wsX8_strict_r1 ++ (wsX8_strict_r2 ++ wsX8_strict_r3)) ++ wsX80)
def wsX8_isSheet : List Cond := .code yX8_isSheet cX8_isSheet 1 (some .boolean) :: ([.methodLink RX8 73 yX8_in, .static yX8_in, .initialized RX8, .code yX8_in cX8_in 3 (some .boolean)])
def wsX8_sheet : List Cond := .code yX8_sheet cX8_sheet 5 (some .int) :: ([.fieldLink RX8 64 "ForgettingLinesModel" "lanes" "[I", .fieldLink RX8 67 "ForgettingLinesModel" "longs" "[I", .fieldLink RX8 70 "ForgettingLinesModel" "items" "[I", .methodLink RX8 189 yX8_isSheet, .static yX8_isSheet, .initialized RX8, .code yX8_isSheet cX8_isSheet 1 (some .boolean), .methodLink RX8 73 yX8_in, .static yX8_in, .code yX8_in cX8_in 3 (some .boolean)] ++ wsX80)
def wsX8_drop : List Cond := .code yX8_drop cX8_drop 2 (some .int) :: ([.fieldLink RX8 64 "ForgettingLinesModel" "lanes" "[I", .fieldLink RX8 67 "ForgettingLinesModel" "longs" "[I", .methodLink RX8 189 yX8_isSheet, .static yX8_isSheet, .initialized RX8, .code yX8_isSheet cX8_isSheet 1 (some .boolean), .methodLink RX8 73 yX8_in, .static yX8_in, .code yX8_in cX8_in 3 (some .boolean)] ++ wsX80)
def wsX8_item : List Cond := .code yX8_item cX8_item 5 (some .int) :: ([.fieldLink RX8 64 "ForgettingLinesModel" "lanes" "[I", .fieldLink RX8 67 "ForgettingLinesModel" "longs" "[I", .fieldLink RX8 70 "ForgettingLinesModel" "items" "[I", .methodLink RX8 189 yX8_isSheet, .static yX8_isSheet, .initialized RX8, .code yX8_isSheet cX8_isSheet 1 (some .boolean), .methodLink RX8 73 yX8_in, .static yX8_in, .code yX8_in cX8_in 3 (some .boolean)] ++ wsX80)
def wsX8_arcs_r1 : List Cond := [Cond.fieldLink RX8 64 "ForgettingLinesModel" "lanes" "[I", Cond.fieldLink RX8 67 "ForgettingLinesModel" "longs" "[I", Cond.fieldLink RX8 70 "ForgettingLinesModel" "items" "[I", Cond.fieldLink RX8 77 "ForgettingLinesModel" "arcs" "I", Cond.methodLink RX8 189 yX8_isSheet, Cond.static yX8_isSheet, Cond.initialized RX8, Cond.code yX8_isSheet cX8_isSheet 1 (some .boolean), Cond.methodLink RX8 73 yX8_in, Cond.static yX8_in, Cond.code yX8_in cX8_in 3 (some .boolean), Cond.methodLink RX8 88 yX8_isGood, Cond.instanceMethod yX8_isGood, Cond.selects RX8 yX8_isGood yX8_isGood, Cond.code yX8_isGood cX8_isGood 7 (some .boolean), Cond.methodLink RX8 84 yX8_isState, Cond.instanceMethod yX8_isState, Cond.selects RX8 yX8_isState yX8_isState, Cond.code yX8_isState cX8_isState 2 (some .boolean), Cond.fieldLink RX8 7 "ForgettingLinesModel" "states" "I", Cond.methodLink RX8 92 yX8_put, Cond.instanceMethod yX8_put, Cond.selects RX8 yX8_put yX8_put, Cond.code yX8_put cX8_put 6 none]
def wsX8_arcs_r2 : List Cond := [Cond.fieldLink RX8 17 "ForgettingLinesModel" "froms" "[I", Cond.fieldLink RX8 21 "ForgettingLinesModel" "acts" "[I", Cond.fieldLink RX8 24 "ForgettingLinesModel" "lines" "[I", Cond.fieldLink RX8 27 "ForgettingLinesModel" "letters" "[I", Cond.fieldLink RX8 30 "ForgettingLinesModel" "tos" "[I", Cond.methodLink RX8 80 yX8_empty, Cond.instanceMethod yX8_empty, Cond.selects RX8 yX8_empty yX8_empty, Cond.code yX8_empty cX8_empty 3 none, Cond.fieldLink RX8 39 "ForgettingLinesModel" "stateOf" "[I", Cond.fieldLink RX8 42 "ForgettingLinesModel" "sizes" "[I"]
def wsX8_arcs : List Cond := .code yX8_arcs cX8_arcs 7 (some .int) :: ((wsX8_arcs_r1 ++ wsX8_arcs_r2) ++ wsX80)
def wsL_law_r1 : List Cond := [Cond.classLink RL 7 RX7, Cond.instantiable RX7 8, Cond.initialized RX7, Cond.classLink RL 10 RX8, Cond.instantiable RX8 25, Cond.initialized RX8, Cond.constantLong RL 38 (4294967295), Cond.methodLink RL 9 yX7_init, Cond.instanceMethod yX7_init, Cond.code yX7_init cX7_init 1 none, Cond.methodLink RX7 1 objectInit, Cond.instanceMethod objectInit, Cond.code objectInit ⟨#[0xb1]⟩ 1 none, Cond.classLink RX7 7 RX0, Cond.instantiable RX0 4, Cond.initialized RX0, Cond.fieldLink RX7 10 "ForgettingLines" "machine" "LForgettingLines$Machine;", Cond.classLink RX7 16 RX4, Cond.instantiable RX4 4, Cond.initialized RX4, Cond.fieldLink RX7 19 "ForgettingLines" "tape" "LForgettingLines$Tape;", Cond.classLink RX7 23 RX1, Cond.instantiable RX1 2, Cond.initialized RX1]
def wsL_law_r2 : List Cond := [Cond.fieldLink RX7 26 "ForgettingLines" "here" "LForgettingLines$Place;", Cond.fieldLink RX7 30 "ForgettingLines" "target" "LForgettingLines$Place;", Cond.classLink RX7 33 RX2, Cond.instantiable RX2 8, Cond.initialized RX2, Cond.fieldLink RX7 36 "ForgettingLines" "search" "LForgettingLines$Search;", Cond.classLink RX7 40 RX5, Cond.instantiable RX5 3, Cond.initialized RX5, Cond.fieldLink RX7 43 "ForgettingLines" "walk" "LForgettingLines$Walk;", Cond.classLink RX7 47 RX3, Cond.instantiable RX3 4, Cond.initialized RX3, Cond.fieldLink RX7 50 "ForgettingLines" "sheets" "[LForgettingLines$Sheet;", Cond.instanceMethod yX0_init, Cond.code yX0_init cX0_init 1 none, Cond.methodLink RX0 3 objectInit, Cond.fieldLink RX0 9 "ForgettingLines$Machine" "states" "I", Cond.arrayClass .boolean, Cond.fieldLink RX0 15 "ForgettingLines$Machine" "isBag" "[Z", Cond.arrayClass .int, Cond.fieldLink RX0 19 "ForgettingLines$Machine" "rows" "[I", Cond.instanceMethod yX4_init, Cond.code yX4_init cX4_init 1 none]
def wsL_law_r3 : List Cond := [Cond.methodLink RX4 3 objectInit, Cond.fieldLink RX4 9 "ForgettingLines$Tape" "rows" "[I", Cond.arrayClass .byte, Cond.fieldLink RX4 15 "ForgettingLines$Tape" "bytes" "[B", Cond.instanceMethod yX1_init, Cond.code yX1_init cX1_init 1 none, Cond.methodLink RX1 3 objectInit, Cond.fieldLink RX1 9 "ForgettingLines$Place" "words" "[I", Cond.instanceMethod yX2_init, Cond.code yX2_init cX2_init 1 none, Cond.methodLink RX2 3 objectInit, Cond.fieldLink RX2 9 "ForgettingLines$Search" "rounds" "[I", Cond.fieldLink RX2 15 "ForgettingLines$Search" "states" "[I", Cond.fieldLink RX2 18 "ForgettingLines$Search" "words0" "[I", Cond.fieldLink RX2 21 "ForgettingLines$Search" "words1" "[I", Cond.fieldLink RX2 24 "ForgettingLines$Search" "arcs" "[I", Cond.fieldLink RX2 27 "ForgettingLines$Search" "origins" "[I", Cond.instanceMethod yX5_init, Cond.code yX5_init cX5_init 1 none, Cond.methodLink RX5 5 objectInit, Cond.arrayClass .long, Cond.fieldLink RX5 11 "ForgettingLines$Walk" "seen" "[J", Cond.fieldLink RX5 15 "ForgettingLines$Walk" "queue" "[I", Cond.instanceMethod yX3_init]
def wsL_law_r4 : List Cond := [Cond.code yX3_init cX3_init 1 none, Cond.methodLink RX3 3 objectInit, Cond.fieldLink RX3 9 "ForgettingLines$Sheet" "items" "[I", Cond.methodLink RL 12 yX8_init, Cond.instanceMethod yX8_init, Cond.code yX8_init cX8_init 1 none, Cond.methodLink RX8 1 objectInit, Cond.fieldLink RX8 7 "ForgettingLinesModel" "states" "I", Cond.fieldLink RX8 13 "ForgettingLinesModel" "bags" "[Z", Cond.fieldLink RX8 17 "ForgettingLinesModel" "froms" "[I", Cond.fieldLink RX8 21 "ForgettingLinesModel" "acts" "[I", Cond.fieldLink RX8 24 "ForgettingLinesModel" "lines" "[I", Cond.fieldLink RX8 27 "ForgettingLinesModel" "letters" "[I", Cond.fieldLink RX8 30 "ForgettingLinesModel" "tos" "[I", Cond.fieldLink RX8 33 "ForgettingLinesModel" "tape" "[I", Cond.fieldLink RX8 36 "ForgettingLinesModel" "readArcs" "[I", Cond.fieldLink RX8 39 "ForgettingLinesModel" "stateOf" "[I", Cond.fieldLink RX8 42 "ForgettingLinesModel" "sizes" "[I", Cond.fieldLink RX8 45 "ForgettingLinesModel" "words" "[I", Cond.fieldLink RX8 48 "ForgettingLinesModel" "rounds" "[I", Cond.fieldLink RX8 51 "ForgettingLinesModel" "byArc" "[I", Cond.fieldLink RX8 54 "ForgettingLinesModel" "aheadOf" "[I", Cond.constant RX8 57 (32768), Cond.fieldLink RX8 58 "ForgettingLinesModel" "queue" "[I"]
def wsL_law_r5 : List Cond := [Cond.fieldLink RX8 61 "ForgettingLinesModel" "steps" "[I", Cond.fieldLink RX8 64 "ForgettingLinesModel" "lanes" "[I", Cond.fieldLink RX8 67 "ForgettingLinesModel" "longs" "[I", Cond.fieldLink RX8 70 "ForgettingLinesModel" "items" "[I", Cond.methodLink RL 13 yX7_states, Cond.instanceMethod yX7_states, Cond.selects RX7 yX7_states yX7_states, Cond.code yX7_states cX7_states 3 (some .int), Cond.fieldLink RX7 54 "ForgettingLines$Machine" "states" "I", Cond.fieldLink RX7 58 "ForgettingLines$Machine" "count" "I", Cond.methodLink RX7 61 yX1_clear, Cond.instanceMethod yX1_clear, Cond.selects RX1 yX1_clear yX1_clear, Cond.code yX1_clear cX1_clear 2 none, Cond.fieldLink RX1 15 "ForgettingLines$Place" "state" "I", Cond.methodLink RX7 65 yX7_startAgain, Cond.instanceMethod yX7_startAgain, Cond.selects RX7 yX7_startAgain yX7_startAgain, Cond.code yX7_startAgain cX7_startAgain 1 none, Cond.fieldLink RX7 146 "ForgettingLines" "searched" "Z", Cond.methodLink RL 17 yX8_states, Cond.instanceMethod yX8_states, Cond.selects RX8 yX8_states yX8_states, Cond.code yX8_states cX8_states 3 (some .int)]
def wsL_law_r6 : List Cond := [Cond.fieldLink RX8 77 "ForgettingLinesModel" "arcs" "I", Cond.methodLink RX8 73 yX8_in, Cond.static yX8_in, Cond.code yX8_in cX8_in 3 (some .boolean), Cond.methodLink RX8 80 yX8_empty, Cond.instanceMethod yX8_empty, Cond.selects RX8 yX8_empty yX8_empty, Cond.code yX8_empty cX8_empty 3 none, Cond.methodLink RL 18 yX7_bag, Cond.instanceMethod yX7_bag, Cond.selects RX7 yX7_bag yX7_bag, Cond.code yX7_bag cX7_bag 4 (some .int), Cond.fieldLink RX7 72 "ForgettingLines$Machine" "isBag" "[Z", Cond.methodLink RX7 68 yX7_isAmong, Cond.static yX7_isAmong, Cond.code yX7_isAmong cX7_isAmong 2 (some .boolean), Cond.methodLink RL 22 yX8_bag, Cond.instanceMethod yX8_bag, Cond.selects RX8 yX8_bag yX8_bag, Cond.code yX8_bag cX8_bag 4 (some .int), Cond.methodLink RL 23 yX7_arc, Cond.instanceMethod yX7_arc, Cond.selects RX7 yX7_arc yX7_arc, Cond.code yX7_arc cX7_arc 6 (some .int)]
def wsL_law_r7 : List Cond := [Cond.methodLink RX7 76 yX0_canHave, Cond.instanceMethod yX0_canHave, Cond.selects RX0 yX0_canHave yX0_canHave, Cond.code yX0_canHave cX0_canHave 6 (some .boolean), Cond.methodLink RX7 80 yX0_add, Cond.instanceMethod yX0_add, Cond.selects RX0 yX0_add yX0_add, Cond.code yX0_add cX0_add 7 none, Cond.fieldLink RX0 31 "ForgettingLines$Machine" "count" "I", Cond.methodLink RL 27 yX8_arc, Cond.instanceMethod yX8_arc, Cond.selects RX8 yX8_arc yX8_arc, Cond.code yX8_arc cX8_arc 6 (some .int), Cond.methodLink RX8 88 yX8_isGood, Cond.instanceMethod yX8_isGood, Cond.selects RX8 yX8_isGood yX8_isGood, Cond.code yX8_isGood cX8_isGood 7 (some .boolean), Cond.methodLink RX8 84 yX8_isState, Cond.instanceMethod yX8_isState, Cond.selects RX8 yX8_isState yX8_isState, Cond.code yX8_isState cX8_isState 2 (some .boolean), Cond.methodLink RX8 92 yX8_put, Cond.instanceMethod yX8_put, Cond.selects RX8 yX8_put yX8_put]
def wsL_law_r8 : List Cond := [Cond.code yX8_put cX8_put 6 none, Cond.methodLink RL 28 yX7_unarc, Cond.instanceMethod yX7_unarc, Cond.selects RX7 yX7_unarc yX7_unarc, Cond.code yX7_unarc cX7_unarc 1 (some .int), Cond.methodLink RL 32 yX8_unarc, Cond.instanceMethod yX8_unarc, Cond.selects RX8 yX8_unarc yX8_unarc, Cond.code yX8_unarc cX8_unarc 1 (some .int), Cond.methodLink RL 33 yX7_told, Cond.instanceMethod yX7_told, Cond.selects RX7 yX7_told yX7_told, Cond.code yX7_told cX7_told 3 (some .int), Cond.methodLink RX7 84 yX0_part, Cond.instanceMethod yX0_part, Cond.selects RX0 yX0_part yX0_part, Cond.code yX0_part cX0_part 3 (some .int), Cond.methodLink RL 37 yX8_told, Cond.instanceMethod yX8_told, Cond.selects RX8 yX8_told yX8_told, Cond.code yX8_told cX8_told 3 (some .int), Cond.methodLink RX8 96 yX8_isArc, Cond.instanceMethod yX8_isArc, Cond.selects RX8 yX8_isArc yX8_isArc]
def wsL_law_r9 : List Cond := [Cond.code yX8_isArc cX8_isArc 2 (some .boolean), Cond.methodLink RL 40 yX7_type, Cond.instanceMethod yX7_type, Cond.selects RX7 yX7_type yX7_type, Cond.code yX7_type cX7_type 4 (some .int), Cond.fieldLink RX7 91 "ForgettingLines$Tape" "size" "I", Cond.methodLink RX7 88 yX4_canHave, Cond.static yX4_canHave, Cond.code yX4_canHave cX4_canHave 5 (some .boolean), Cond.methodLink RX4 19 yX4_byteOf, Cond.static yX4_byteOf, Cond.code yX4_byteOf cX4_byteOf 3 (some .int), Cond.methodLink RX7 94 yX4_add, Cond.instanceMethod yX4_add, Cond.selects RX4 yX4_add yX4_add, Cond.code yX4_add cX4_add 5 none, Cond.fieldLink RX4 23 "ForgettingLines$Tape" "size" "I", Cond.methodLink RL 44 yX8_type, Cond.instanceMethod yX8_type, Cond.selects RX8 yX8_type yX8_type, Cond.code yX8_type cX8_type 5 (some .int), Cond.constantLong RX8 99 (255), Cond.fieldLink RX8 101 "ForgettingLinesModel" "taped" "I", Cond.methodLink RL 45 yX7_read]
def wsL_law_r10 : List Cond := [Cond.instanceMethod yX7_read, Cond.selects RX7 yX7_read yX7_read, Cond.code yX7_read cX7_read 2 (some .int), Cond.fieldLink RX7 101 "ForgettingLines$Tape" "rows" "[I", Cond.methodLink RX7 97 yX4_parse, Cond.instanceMethod yX4_parse, Cond.selects RX4 yX4_parse yX4_parse, Cond.code yX4_parse cX4_parse 3 (some .int), Cond.fieldLink RX4 27 "ForgettingLines$Tape" "at" "I", Cond.methodLink RX4 30 yX4_parseArc, Cond.instanceMethod yX4_parseArc, Cond.selects RX4 yX4_parseArc yX4_parseArc, Cond.code yX4_parseArc cX4_parseArc 4 (some .boolean), Cond.methodLink RX4 37 yX4_oneOf, Cond.instanceMethod yX4_oneOf, Cond.selects RX4 yX4_oneOf yX4_oneOf, Cond.code yX4_oneOf cX4_oneOf 3 (some .int), Cond.methodLink RX4 34 yX4_skipBlanks, Cond.instanceMethod yX4_skipBlanks, Cond.selects RX4 yX4_skipBlanks yX4_skipBlanks, Cond.code yX4_skipBlanks cX4_skipBlanks 1 none, Cond.methodLink RX4 41 yX4_parseAct, Cond.instanceMethod yX4_parseAct, Cond.selects RX4 yX4_parseAct yX4_parseAct]
def wsL_law_r11 : List Cond := [Cond.code yX4_parseAct cX4_parseAct 1 (some .int), Cond.methodLink RX4 45 yX4_parseLetterAndLine, Cond.instanceMethod yX4_parseLetterAndLine, Cond.selects RX4 yX4_parseLetterAndLine yX4_parseLetterAndLine, Cond.code yX4_parseLetterAndLine cX4_parseLetterAndLine 2 (some .boolean), Cond.methodLink RX7 105 yX0_replace, Cond.instanceMethod yX0_replace, Cond.selects RX0 yX0_replace yX0_replace, Cond.code yX0_replace cX0_replace 3 none, Cond.methodLink RX0 38 yX0_addAll, Cond.instanceMethod yX0_addAll, Cond.selects RX0 yX0_addAll yX0_addAll, Cond.code yX0_addAll cX0_addAll 6 none, Cond.methodLink RX0 34 yX0_add, Cond.methodLink RL 48 yX8_read, Cond.instanceMethod yX8_read, Cond.selects RX8 yX8_read yX8_read, Cond.code yX8_read cX8_read 6 (some .int), Cond.fieldLink RX8 104 "ForgettingLinesModel" "at" "I", Cond.fieldLink RX8 111 "ForgettingLinesModel" "isWrong" "Z", Cond.methodLink RX8 115 yX8_passed, Cond.instanceMethod yX8_passed, Cond.selects RX8 yX8_passed yX8_passed, Cond.code yX8_passed cX8_passed 4 (some .int)]
def wsL_law_r12 : List Cond := [Cond.methodLink RX8 107 yX8_next, Cond.instanceMethod yX8_next, Cond.selects RX8 yX8_next yX8_next, Cond.code yX8_next cX8_next 1 (some .int), Cond.methodLink RX8 119 yX8_act, Cond.instanceMethod yX8_act, Cond.selects RX8 yX8_act yX8_act, Cond.code yX8_act cX8_act 3 (some .int), Cond.methodLink RL 49 yX7_arcs, Cond.instanceMethod yX7_arcs, Cond.selects RX7 yX7_arcs yX7_arcs, Cond.code yX7_arcs cX7_arcs 7 (some .int), Cond.fieldLink RX7 112 "ForgettingLines$Sheet" "size" "I", Cond.fieldLink RX7 113 "ForgettingLines$Sheet" "items" "[I", Cond.methodLink RX7 109 yX3_faultAs, Cond.instanceMethod yX3_faultAs, Cond.selects RX3 yX3_faultAs yX3_faultAs, Cond.code yX3_faultAs cX3_faultAs 2 (some .int), Cond.fieldLink RX3 15 "ForgettingLines$Sheet" "held" "Z", Cond.fieldLink RX3 19 "ForgettingLines$Sheet" "lane" "I", Cond.methodLink RX7 116 yX0_canHaveAll, Cond.instanceMethod yX0_canHaveAll, Cond.selects RX0 yX0_canHaveAll yX0_canHaveAll, Cond.code yX0_canHaveAll cX0_canHaveAll 6 (some .boolean)]
def wsL_law_r13 : List Cond := [Cond.methodLink RX0 27 yX0_canHave, Cond.methodLink RX7 120 yX0_addAll, Cond.methodLink RL 53 yX8_arcs, Cond.instanceMethod yX8_arcs, Cond.selects RX8 yX8_arcs yX8_arcs, Cond.code yX8_arcs cX8_arcs 7 (some .int), Cond.methodLink RX8 189 yX8_isSheet, Cond.static yX8_isSheet, Cond.code yX8_isSheet cX8_isSheet 1 (some .boolean), Cond.methodLink RL 54 yX7_go, Cond.instanceMethod yX7_go, Cond.selects RX7 yX7_go yX7_go, Cond.code yX7_go cX7_go 4 (some .int), Cond.fieldLink RX7 124 "ForgettingLines$Place" "state" "I", Cond.fieldLink RX7 127 "ForgettingLines$Place" "words" "[I", Cond.methodLink RX7 130 yX0_wordBehind, Cond.instanceMethod yX0_wordBehind, Cond.selects RX0 yX0_wordBehind yX0_wordBehind, Cond.code yX0_wordBehind cX0_wordBehind 7 (some .int), Cond.methodLink RX0 56 yX0_part, Cond.methodLink RX0 59 yX0_wordWith, Cond.instanceMethod yX0_wordWith, Cond.selects RX0 yX0_wordWith yX0_wordWith, Cond.code yX0_wordWith cX0_wordWith 5 (some .int)]
def wsL_law_r14 : List Cond := [Cond.methodLink RX0 42 yX6_placeInOrder, Cond.static yX6_placeInOrder, Cond.initialized RX6, Cond.code yX6_placeInOrder cX6_placeInOrder 4 (some .int), Cond.methodLink RX0 48 yX6_size, Cond.static yX6_size, Cond.code yX6_size cX6_size 2 (some .int), Cond.methodLink RX0 52 yX6_with, Cond.static yX6_with, Cond.code yX6_with cX6_with 5 (some .int), Cond.methodLink RX0 62 yX6_find, Cond.static yX6_find, Cond.code yX6_find cX6_find 3 (some .int), Cond.methodLink RX0 65 yX6_without, Cond.static yX6_without, Cond.code yX6_without cX6_without 4 (some .int), Cond.methodLink RX7 135 yX6_isLonger, Cond.static yX6_isLonger, Cond.code yX6_isLonger cX6_isLonger 2 (some .boolean), Cond.methodLink RL 57 yX8_go, Cond.instanceMethod yX8_go, Cond.selects RX8 yX8_go yX8_go, Cond.code yX8_go cX8_go 5 (some .int), Cond.methodLink RX8 126 yX8_firstOf]
def wsL_law_r15 : List Cond := [Cond.instanceMethod yX8_firstOf, Cond.selects RX8 yX8_firstOf yX8_firstOf, Cond.code yX8_firstOf cX8_firstOf 5 (some .int), Cond.methodLink RX8 122 yX8_spot, Cond.static yX8_spot, Cond.code yX8_spot cX8_spot 3 (some .int), Cond.methodLink RX8 129 yX8_takeOut, Cond.instanceMethod yX8_takeOut, Cond.selects RX8 yX8_takeOut yX8_takeOut, Cond.code yX8_takeOut cX8_takeOut 5 none, Cond.methodLink RX8 133 yX8_inOrder, Cond.instanceMethod yX8_inOrder, Cond.selects RX8 yX8_inOrder yX8_inOrder, Cond.code yX8_inOrder cX8_inOrder 5 (some .int), Cond.methodLink RX8 136 yX8_putIn, Cond.instanceMethod yX8_putIn, Cond.selects RX8 yX8_putIn yX8_putIn, Cond.code yX8_putIn cX8_putIn 6 none, Cond.methodLink RL 58 yX7_lose, Cond.instanceMethod yX7_lose, Cond.selects RX7 yX7_lose yX7_lose, Cond.code yX7_lose cX7_lose 4 (some .int), Cond.methodLink RX7 138 yX6_size, Cond.methodLink RX7 140 yX6_at]
def wsL_law_r16 : List Cond := [Cond.static yX6_at, Cond.code yX6_at cX6_at 2 (some .int), Cond.methodLink RX7 143 yX6_without, Cond.methodLink RL 61 yX8_lose, Cond.instanceMethod yX8_lose, Cond.selects RX8 yX8_lose yX8_lose, Cond.code yX8_lose cX8_lose 4 (some .int), Cond.methodLink RL 62 yX7_now, Cond.instanceMethod yX7_now, Cond.selects RX7 yX7_now yX7_now, Cond.code yX7_now cX7_now 4 (some .int), Cond.methodLink RL 65 yX8_now, Cond.instanceMethod yX8_now, Cond.selects RX8 yX8_now yX8_now, Cond.code yX8_now cX8_now 3 (some .int), Cond.methodLink RL 66 yX7_reset, Cond.instanceMethod yX7_reset, Cond.selects RX7 yX7_reset yX7_reset, Cond.code yX7_reset cX7_reset 1 (some .int), Cond.methodLink RL 69 yX8_reset, Cond.instanceMethod yX8_reset, Cond.selects RX8 yX8_reset yX8_reset, Cond.code yX8_reset cX8_reset 1 (some .int), Cond.methodLink RL 70 yX7_aim]
def wsL_law_r17 : List Cond := [Cond.instanceMethod yX7_aim, Cond.selects RX7 yX7_aim yX7_aim, Cond.code yX7_aim cX7_aim 2 (some .int), Cond.methodLink RL 73 yX8_aim, Cond.instanceMethod yX8_aim, Cond.selects RX8 yX8_aim yX8_aim, Cond.code yX8_aim cX8_aim 2 (some .int), Cond.methodLink RL 74 yX7_want, Cond.instanceMethod yX7_want, Cond.selects RX7 yX7_want yX7_want, Cond.code yX7_want cX7_want 4 (some .int), Cond.methodLink RX7 150 yX0_wordWith, Cond.methodLink RL 77 yX8_want, Cond.instanceMethod yX8_want, Cond.selects RX8 yX8_want yX8_want, Cond.code yX8_want cX8_want 3 (some .int), Cond.methodLink RL 78 yX7_found, Cond.instanceMethod yX7_found, Cond.selects RX7 yX7_found yX7_found, Cond.code yX7_found cX7_found 1 (some .int), Cond.fieldLink RX7 157 "ForgettingLines$Search" "spent" "Z", Cond.fieldLink RX7 160 "ForgettingLines$Search" "count" "I", Cond.methodLink RX7 154 yX7_searchOnce, Cond.instanceMethod yX7_searchOnce]
def wsL_law_r18 : List Cond := [Cond.selects RX7 yX7_searchOnce yX7_searchOnce, Cond.code yX7_searchOnce cX7_searchOnce 1 none, Cond.methodLink RX7 197 yX2_run, Cond.instanceMethod yX2_run, Cond.selects RX2 yX2_run yX2_run, Cond.code yX2_run cX2_run 5 none, Cond.fieldLink RX2 30 "ForgettingLines$Search" "count" "I", Cond.fieldLink RX2 34 "ForgettingLines$Search" "spent" "Z", Cond.fieldLink RX2 38 "ForgettingLines$Place" "state" "I", Cond.fieldLink RX2 43 "ForgettingLines$Place" "words" "[I", Cond.fieldLink RX2 50 "ForgettingLines$Machine" "count" "I", Cond.methodLink RX2 46 yX2_add, Cond.instanceMethod yX2_add, Cond.selects RX2 yX2_add yX2_add, Cond.code yX2_add cX2_add 6 none, Cond.methodLink RX2 53 yX0_part, Cond.methodLink RX2 57 yX2_lookAhead, Cond.instanceMethod yX2_lookAhead, Cond.selects RX2 yX2_lookAhead yX2_lookAhead, Cond.code yX2_lookAhead cX2_lookAhead 8 none, Cond.methodLink RX2 61 yX0_wordAhead, Cond.instanceMethod yX0_wordAhead, Cond.selects RX0 yX0_wordAhead yX0_wordAhead, Cond.code yX0_wordAhead cX0_wordAhead 6 (some .int)]
def wsL_law_r19 : List Cond := [Cond.methodLink RX0 68 yX6_at, Cond.methodLink RX2 64 yX2_firstBelow, Cond.instanceMethod yX2_firstBelow, Cond.selects RX2 yX2_firstBelow yX2_firstBelow, Cond.code yX2_firstBelow cX2_firstBelow 5 (some .int), Cond.methodLink RX2 74 yX2_isBelowPlace, Cond.instanceMethod yX2_isBelowPlace, Cond.selects RX2 yX2_isBelowPlace yX2_isBelowPlace, Cond.code yX2_isBelowPlace cX2_isBelowPlace 5 (some .boolean), Cond.methodLink RX2 78 yX6_isIn, Cond.static yX6_isIn, Cond.code yX6_isIn cX6_isIn 5 (some .boolean), Cond.methodLink RX2 68 yX6_isLonger, Cond.methodLink RL 81 yX8_found, Cond.instanceMethod yX8_found, Cond.selects RX8 yX8_found yX8_found, Cond.code yX8_found cX8_found 1 (some .int), Cond.fieldLink RX8 143 "ForgettingLinesModel" "many" "I", Cond.methodLink RX8 160 yX8_search, Cond.instanceMethod yX8_search, Cond.selects RX8 yX8_search yX8_search, Cond.code yX8_search cX8_search 3 (some .boolean), Cond.methodLink RX8 140 yX8_copy, Cond.instanceMethod yX8_copy]
def wsL_law_r20 : List Cond := [Cond.selects RX8 yX8_copy yX8_copy, Cond.code yX8_copy cX8_copy 5 none, Cond.methodLink RX8 150 yX8_find, Cond.instanceMethod yX8_find, Cond.selects RX8 yX8_find yX8_find, Cond.code yX8_find cX8_find 4 none, Cond.methodLink RX8 153 yX8_ahead, Cond.instanceMethod yX8_ahead, Cond.selects RX8 yX8_ahead yX8_ahead, Cond.code yX8_ahead cX8_ahead 7 none, Cond.methodLink RX8 156 yX8_isNew, Cond.instanceMethod yX8_isNew, Cond.selects RX8 yX8_isNew yX8_isNew, Cond.code yX8_isNew cX8_isNew 3 (some .boolean), Cond.methodLink RX8 146 yX8_isBelow, Cond.instanceMethod yX8_isBelow, Cond.selects RX8 yX8_isBelow yX8_isBelow, Cond.code yX8_isBelow cX8_isBelow 7 (some .boolean), Cond.methodLink RL 82 yX7_about, Cond.instanceMethod yX7_about, Cond.selects RX7 yX7_about yX7_about, Cond.code yX7_about cX7_about 3 (some .int), Cond.methodLink RX7 161 yX2_fact, Cond.instanceMethod yX2_fact]
def wsL_law_r21 : List Cond := [Cond.selects RX2 yX2_fact yX2_fact, Cond.code yX2_fact cX2_fact 3 (some .int), Cond.methodLink RX2 85 yX6_size, Cond.methodLink RX2 81 yX2_isLeast, Cond.instanceMethod yX2_isLeast, Cond.selects RX2 yX2_isLeast yX2_isLeast, Cond.code yX2_isLeast cX2_isLeast 3 (some .boolean), Cond.methodLink RL 85 yX8_about, Cond.instanceMethod yX8_about, Cond.selects RX8 yX8_about yX8_about, Cond.code yX8_about cX8_about 3 (some .int), Cond.methodLink RX8 163 yX8_isLeast, Cond.instanceMethod yX8_isLeast, Cond.selects RX8 yX8_isLeast yX8_isLeast, Cond.code yX8_isLeast cX8_isLeast 4 (some .boolean), Cond.methodLink RL 86 yX7_letter, Cond.instanceMethod yX7_letter, Cond.selects RX7 yX7_letter yX7_letter, Cond.code yX7_letter cX7_letter 5 (some .int), Cond.methodLink RX7 164 yX2_wordOf, Cond.instanceMethod yX2_wordOf, Cond.selects RX2 yX2_wordOf yX2_wordOf, Cond.code yX2_wordOf cX2_wordOf 3 (some .int), Cond.methodLink RL 90 yX8_letter]
def wsL_law_r22 : List Cond := [Cond.instanceMethod yX8_letter, Cond.selects RX8 yX8_letter yX8_letter, Cond.code yX8_letter cX8_letter 4 (some .int), Cond.methodLink RL 91 yX7_least, Cond.instanceMethod yX7_least, Cond.selects RX7 yX7_least yX7_least, Cond.code yX7_least cX7_least 1 (some .int), Cond.methodLink RX7 167 yX2_countLeast, Cond.instanceMethod yX2_countLeast, Cond.selects RX2 yX2_countLeast yX2_countLeast, Cond.code yX2_countLeast cX2_countLeast 3 (some .int), Cond.methodLink RL 94 yX8_least, Cond.instanceMethod yX8_least, Cond.selects RX8 yX8_least yX8_least, Cond.code yX8_least cX8_least 3 (some .int), Cond.methodLink RL 95 yX7_far, Cond.instanceMethod yX7_far, Cond.selects RX7 yX7_far yX7_far, Cond.code yX7_far cX7_far 2 (some .int), Cond.fieldLink RX7 174 "ForgettingLines$Search" "rounds" "[I", Cond.methodLink RX7 171 yX2_firstBelow, Cond.methodLink RL 98 yX8_far, Cond.instanceMethod yX8_far, Cond.selects RX8 yX8_far yX8_far]
def wsL_law_r23 : List Cond := [Cond.code yX8_far cX8_far 2 (some .int), Cond.methodLink RX8 166 yX8_nearest, Cond.instanceMethod yX8_nearest, Cond.selects RX8 yX8_nearest yX8_nearest, Cond.code yX8_nearest cX8_nearest 2 (some .int), Cond.methodLink RL 99 yX7_way, Cond.instanceMethod yX7_way, Cond.selects RX7 yX7_way yX7_way, Cond.code yX7_way cX7_way 3 (some .int), Cond.methodLink RX7 177 yX2_arcOfWay, Cond.instanceMethod yX2_arcOfWay, Cond.selects RX2 yX2_arcOfWay yX2_arcOfWay, Cond.code yX2_arcOfWay cX2_arcOfWay 5 (some .int), Cond.methodLink RL 102 yX8_way, Cond.instanceMethod yX8_way, Cond.selects RX8 yX8_way yX8_way, Cond.code yX8_way cX8_way 4 (some .int), Cond.methodLink RL 103 yX7_strict, Cond.instanceMethod yX7_strict, Cond.selects RX7 yX7_strict yX7_strict, Cond.code yX7_strict cX7_strict 2 (some .int), Cond.methodLink RX7 180 yX1_isLonger, Cond.instanceMethod yX1_isLonger, Cond.selects RX1 yX1_isLonger yX1_isLonger]
def wsL_law_r24 : List Cond := [Cond.code yX1_isLonger cX1_isLonger 2 (some .boolean), Cond.methodLink RX1 19 yX6_isLonger, Cond.methodLink RX7 183 yX5_fewest, Cond.instanceMethod yX5_fewest, Cond.selects RX5 yX5_fewest yX5_fewest, Cond.code yX5_fewest cX5_fewest 8 (some .int), Cond.fieldLink RX5 25 "ForgettingLines$Walk" "tail" "I", Cond.fieldLink RX5 29 "ForgettingLines$Place" "state" "I", Cond.fieldLink RX5 34 "ForgettingLines$Place" "words" "[I", Cond.methodLink RX5 19 yJ7_fill_d0a16, Cond.static yJ7_fill_d0a16, Cond.initialized RJ7, Cond.code yJ7_fill_d0a16 cJ7_fill_d0a16 5 none, Cond.methodLink RX5 37 yX5_add, Cond.instanceMethod yX5_add, Cond.selects RX5 yX5_add yX5_add, Cond.code yX5_add cX5_add 7 none, Cond.methodLink RX5 41 yX5_isAimed, Cond.static yX5_isAimed, Cond.code yX5_isAimed cX5_isAimed 2 (some .boolean), Cond.methodLink RX5 49 yX5_stateOf, Cond.static yX5_stateOf, Cond.code yX5_stateOf cX5_stateOf 1 (some .int), Cond.methodLink RX5 53 yX5_wordOf]
def wsL_law_r25 : List Cond := [Cond.static yX5_wordOf, Cond.code yX5_wordOf cX5_wordOf 2 (some .int), Cond.methodLink RX5 57 yX6_isIn, Cond.methodLink RX5 45 yX5_goOn, Cond.instanceMethod yX5_goOn, Cond.selects RX5 yX5_goOn yX5_goOn, Cond.code yX5_goOn cX5_goOn 5 none, Cond.fieldLink RX5 63 "ForgettingLines$Machine" "count" "I", Cond.methodLink RX5 68 yX0_part, Cond.methodLink RX5 71 yX5_goBy, Cond.instanceMethod yX5_goBy, Cond.selects RX5 yX5_goBy yX5_goBy, Cond.code yX5_goBy cX5_goBy 8 none, Cond.methodLink RX5 75 yX0_wordBehind, Cond.methodLink RX5 78 yX6_isLonger, Cond.methodLink RL 106 yX8_strict, Cond.instanceMethod yX8_strict, Cond.selects RX8 yX8_strict yX8_strict, Cond.code yX8_strict cX8_strict 6 (some .int), Cond.methodLink RX8 172 yX8_isLong, Cond.instanceMethod yX8_isLong, Cond.selects RX8 yX8_isLong yX8_isLong, Cond.code yX8_isLong cX8_isLong 3 (some .boolean), Cond.methodLink RX8 175 yX8_wholeCode]
def wsL_law_r26 : List Cond := [Cond.instanceMethod yX8_wholeCode, Cond.selects RX8 yX8_wholeCode yX8_wholeCode, Cond.code yX8_wholeCode cX8_wholeCode 2 (some .int), Cond.methodLink RX8 169 yX8_codeOf, Cond.instanceMethod yX8_codeOf, Cond.selects RX8 yX8_codeOf yX8_codeOf, Cond.code yX8_codeOf cX8_codeOf 5 (some .int), Cond.methodLink RX8 179 yX8_lay, Cond.instanceMethod yX8_lay, Cond.selects RX8 yX8_lay yX8_lay, Cond.code yX8_lay cX8_lay 2 none, Cond.methodLink RX8 186 yX8_decode, Cond.instanceMethod yX8_decode, Cond.selects RX8 yX8_decode yX8_decode, Cond.code yX8_decode cX8_decode 5 none, Cond.methodLink RX8 183 yX8_goes, Cond.instanceMethod yX8_goes, Cond.selects RX8 yX8_goes yX8_goes, Cond.code yX8_goes cX8_goes 6 (some .boolean), Cond.methodLink RL 107 yX7_sheet, Cond.instanceMethod yX7_sheet, Cond.selects RX7 yX7_sheet yX7_sheet, Cond.code yX7_sheet cX7_sheet 4 (some .int), Cond.methodLink RX7 187 yX3_hold]
def wsL_law_r27 : List Cond := [Cond.instanceMethod yX3_hold, Cond.selects RX3 yX3_hold yX3_hold, Cond.code yX3_hold cX3_hold 3 none, Cond.fieldLink RX3 23 "ForgettingLines$Sheet" "size" "I", Cond.methodLink RX3 26 yJ7_fill_53178, Cond.static yJ7_fill_53178, Cond.code yJ7_fill_53178 cJ7_fill_53178 4 none, Cond.methodLink RL 110 yX8_sheet, Cond.instanceMethod yX8_sheet, Cond.selects RX8 yX8_sheet yX8_sheet, Cond.code yX8_sheet cX8_sheet 5 (some .int), Cond.methodLink RL 111 yX7_drop, Cond.instanceMethod yX7_drop, Cond.selects RX7 yX7_drop yX7_drop, Cond.code yX7_drop cX7_drop 2 (some .int), Cond.fieldLink RX7 191 "ForgettingLines$Sheet" "held" "Z", Cond.methodLink RL 114 yX8_drop, Cond.instanceMethod yX8_drop, Cond.selects RX8 yX8_drop yX8_drop, Cond.code yX8_drop cX8_drop 2 (some .int), Cond.methodLink RL 115 yX7_item, Cond.instanceMethod yX7_item, Cond.selects RX7 yX7_item yX7_item, Cond.code yX7_item cX7_item 7 (some .int)]
def wsL_law_r28 : List Cond := [Cond.methodLink RX7 194 yX3_put, Cond.instanceMethod yX3_put, Cond.selects RX3 yX3_put yX3_put, Cond.code yX3_put cX3_put 3 none, Cond.methodLink RL 118 yX8_item, Cond.instanceMethod yX8_item, Cond.selects RX8 yX8_item yX8_item, Cond.code yX8_item cX8_item 5 (some .int)]
def wsL_law : List Cond := (wsL_law_r1 ++ (wsL_law_r2 ++ (wsL_law_r3 ++ (wsL_law_r4 ++ (wsL_law_r5 ++ (wsL_law_r6 ++ (wsL_law_r7 ++ (wsL_law_r8 ++ (wsL_law_r9 ++ (wsL_law_r10 ++ (wsL_law_r11 ++ (wsL_law_r12 ++ (wsL_law_r13 ++ (wsL_law_r14 ++ (wsL_law_r15 ++ (wsL_law_r16 ++ (wsL_law_r17 ++ (wsL_law_r18 ++ (wsL_law_r19 ++ (wsL_law_r20 ++ (wsL_law_r21 ++ (wsL_law_r22 ++ (wsL_law_r23 ++ (wsL_law_r24 ++ (wsL_law_r25 ++ (wsL_law_r26 ++ (wsL_law_r27 ++ wsL_law_r28))))))))))))))))))))))))))) ++ wsX70 ++ wsX80 ++ wsX00 ++ wsX40 ++ wsX10 ++ wsX20 ++ wsX50 ++ wsX30 ++ ([] : List Cond)
theorem inlX0 : ∀ w ∈ wsX00, w ∈ wsL_law := fun _ h => List.mem_append_left _ (List.mem_append_left _ (List.mem_append_left _ (List.mem_append_left _ (List.mem_append_left _ (List.mem_append_left _ (List.mem_append_right _ h))))))
theorem inlX1 : ∀ w ∈ wsX10, w ∈ wsL_law := fun _ h => List.mem_append_left _ (List.mem_append_left _ (List.mem_append_left _ (List.mem_append_left _ (List.mem_append_right _ h))))
theorem inlX2 : ∀ w ∈ wsX20, w ∈ wsL_law := fun _ h => List.mem_append_left _ (List.mem_append_left _ (List.mem_append_left _ (List.mem_append_right _ h)))
theorem inlX3 : ∀ w ∈ wsX30, w ∈ wsL_law := fun _ h => List.mem_append_left _ (List.mem_append_right _ h)
theorem inlX4 : ∀ w ∈ wsX40, w ∈ wsL_law := fun _ h => List.mem_append_left _ (List.mem_append_left _ (List.mem_append_left _ (List.mem_append_left _ (List.mem_append_left _ (List.mem_append_right _ h)))))
theorem inlX5 : ∀ w ∈ wsX50, w ∈ wsL_law := fun _ h => List.mem_append_left _ (List.mem_append_left _ (List.mem_append_right _ h))
theorem inlX7 : ∀ w ∈ wsX70, w ∈ wsL_law := fun _ h => List.mem_append_left _ (List.mem_append_left _ (List.mem_append_left _ (List.mem_append_left _ (List.mem_append_left _ (List.mem_append_left _ (List.mem_append_left _ (List.mem_append_left _ (List.mem_append_right _ h))))))))
theorem inlX8 : ∀ w ∈ wsX80, w ∈ wsL_law := fun _ h => List.mem_append_left _ (List.mem_append_left _ (List.mem_append_left _ (List.mem_append_left _ (List.mem_append_left _ (List.mem_append_left _ (List.mem_append_left _ (List.mem_append_right _ h)))))))
theorem dX0_init_0 : decode cX0_init 0 = .ok (.aload_n 0, 1) := by decide +kernel
theorem dX0_init_1 : decode cX0_init 1 = .ok (.invokespecial 3, 3) := by decide +kernel
theorem dX0_init_4 : decode cX0_init 4 = .ok (.aload_n 0, 1) := by decide +kernel
theorem dX0_init_5 : decode cX0_init 5 = .ok (.iconst 4, 1) := by decide +kernel
theorem dX0_init_6 : decode cX0_init 6 = .ok (.putfield 9, 3) := by decide +kernel
theorem dX0_init_9 : decode cX0_init 9 = .ok (.aload_n 0, 1) := by decide +kernel
theorem dX0_init_10 : decode cX0_init 10 = .ok (.iconst 2, 1) := by decide +kernel
theorem dX0_init_11 : decode cX0_init 11 = .ok (.newarray .boolean, 2) := by decide +kernel
theorem dX0_init_13 : decode cX0_init 13 = .ok (.putfield 15, 3) := by decide +kernel
theorem dX0_init_16 : decode cX0_init 16 = .ok (.aload_n 0, 1) := by decide +kernel
theorem dX0_init_17 : decode cX0_init 17 = .ok (.bipush 100, 2) := by decide +kernel
theorem dX0_init_19 : decode cX0_init 19 = .ok (.newarray .int, 2) := by decide +kernel
theorem dX0_init_21 : decode cX0_init 21 = .ok (.putfield 19, 3) := by decide +kernel
theorem dX0_init_24 : decode cX0_init 24 = .ok (.return_, 1) := by decide +kernel
theorem dX0_part_0 : decode cX0_part 0 = .ok (.aload_n 0, 1) := by decide +kernel
theorem dX0_part_1 : decode cX0_part 1 = .ok (.getfield 19, 3) := by decide +kernel
theorem dX0_part_4 : decode cX0_part 4 = .ok (.iload_n 1, 1) := by decide +kernel
theorem dX0_part_5 : decode cX0_part 5 = .ok (.iconst 5, 1) := by decide +kernel
theorem dX0_part_6 : decode cX0_part 6 = .ok (.imul, 1) := by decide +kernel
theorem dX0_part_7 : decode cX0_part 7 = .ok (.iload_n 2, 1) := by decide +kernel
theorem dX0_part_8 : decode cX0_part 8 = .ok (.iadd, 1) := by decide +kernel
theorem dX0_part_9 : decode cX0_part 9 = .ok (.iaload, 1) := by decide +kernel
theorem dX0_part_10 : decode cX0_part 10 = .ok (.ireturn, 1) := by decide +kernel
set_option maxRecDepth 20000 in
theorem ggX0_canHave_X7_isAmong : GoodIn wsX0_canHave wsX7_isAmong := goodIn_r _ [4] (by decide +kernel) (by decide +kernel)
set_option maxRecDepth 20000 in
theorem gX0_canHave_X7_isAmong_n23 : GoodIn wsX0_canHave (wsX7_isAmong) := ggX0_canHave_X7_isAmong
theorem dX0_canHave_0 : decode cX0_canHave 0 = .ok (.iload_n 1, 1) := by decide +kernel
theorem dX0_canHave_1 : decode cX0_canHave 1 = .ok (.aload_n 0, 1) := by decide +kernel
theorem dX0_canHave_2 : decode cX0_canHave 2 = .ok (.getfield 9, 3) := by decide +kernel
theorem dX0_canHave_5 : decode cX0_canHave 5 = .ok (.invokestatic 23, 3) := by decide +kernel
theorem dX0_canHave_8 : decode cX0_canHave 8 = .ok (.ifCond .eq 23, 3) := by decide +kernel
theorem dX0_canHave_11 : decode cX0_canHave 11 = .ok (.iload_n 2, 1) := by decide +kernel
theorem dX0_canHave_12 : decode cX0_canHave 12 = .ok (.iconst 3, 1) := by decide +kernel
theorem dX0_canHave_13 : decode cX0_canHave 13 = .ok (.invokestatic 23, 3) := by decide +kernel
theorem dX0_canHave_16 : decode cX0_canHave 16 = .ok (.ifCond .eq 15, 3) := by decide +kernel
theorem dX0_canHave_19 : decode cX0_canHave 19 = .ok (.iload 5, 2) := by decide +kernel
theorem dX0_canHave_21 : decode cX0_canHave 21 = .ok (.aload_n 0, 1) := by decide +kernel
theorem dX0_canHave_22 : decode cX0_canHave 22 = .ok (.getfield 9, 3) := by decide +kernel
theorem dX0_canHave_25 : decode cX0_canHave 25 = .ok (.invokestatic 23, 3) := by decide +kernel
theorem dX0_canHave_28 : decode cX0_canHave 28 = .ok (.ifCond .ne 5, 3) := by decide +kernel
theorem dX0_canHave_31 : decode cX0_canHave 31 = .ok (.iconst 0, 1) := by decide +kernel
theorem dX0_canHave_32 : decode cX0_canHave 32 = .ok (.ireturn, 1) := by decide +kernel
theorem dX0_canHave_33 : decode cX0_canHave 33 = .ok (.iload_n 2, 1) := by decide +kernel
theorem dX0_canHave_34 : decode cX0_canHave 34 = .ok (.ifCond .eq 20, 3) := by decide +kernel
theorem dX0_canHave_37 : decode cX0_canHave 37 = .ok (.iload_n 3, 1) := by decide +kernel
theorem dX0_canHave_38 : decode cX0_canHave 38 = .ok (.iconst 2, 1) := by decide +kernel
theorem dX0_canHave_39 : decode cX0_canHave 39 = .ok (.invokestatic 23, 3) := by decide +kernel
theorem dX0_canHave_42 : decode cX0_canHave 42 = .ok (.ifCond .eq 16, 3) := by decide +kernel
theorem dX0_canHave_45 : decode cX0_canHave 45 = .ok (.iload 4, 2) := by decide +kernel
theorem dX0_canHave_47 : decode cX0_canHave 47 = .ok (.iconst 3, 1) := by decide +kernel
theorem dX0_canHave_48 : decode cX0_canHave 48 = .ok (.invokestatic 23, 3) := by decide +kernel
theorem dX0_canHave_51 : decode cX0_canHave 51 = .ok (.ifCond .eq 7, 3) := by decide +kernel
theorem dX0_canHave_54 : decode cX0_canHave 54 = .ok (.iconst 1, 1) := by decide +kernel
theorem dX0_canHave_55 : decode cX0_canHave 55 = .ok (.goto 4, 3) := by decide +kernel
theorem dX0_canHave_58 : decode cX0_canHave 58 = .ok (.iconst 0, 1) := by decide +kernel
theorem dX0_canHave_59 : decode cX0_canHave 59 = .ok (.ireturn, 1) := by decide +kernel
set_option maxRecDepth 20000 in
theorem ggX0_canHaveAll_X0_canHave : GoodIn wsX0_canHaveAll wsX0_canHave := goodIn_r _ [5, 6, 7, 8, 9, 10, 11, 12, 13] (by decide +kernel) (by decide +kernel)
set_option maxRecDepth 20000 in
theorem gX0_canHaveAll_X0_canHave : GoodIn wsX0_canHaveAll (wsV RX0 27 RX0 yX0_canHave wsX0_canHave) := goodIn_app (goodIn_of _ (by decide +kernel)) ggX0_canHaveAll_X0_canHave
theorem dX0_canHaveAll_0 : decode cX0_canHaveAll 0 = .ok (.iconst 0, 1) := by decide +kernel
theorem dX0_canHaveAll_1 : decode cX0_canHaveAll 1 = .ok (.istore 4, 2) := by decide +kernel
theorem dX0_canHaveAll_3 : decode cX0_canHaveAll 3 = .ok (.iload 4, 2) := by decide +kernel
theorem dX0_canHaveAll_5 : decode cX0_canHaveAll 5 = .ok (.iload_n 3, 1) := by decide +kernel
theorem dX0_canHaveAll_6 : decode cX0_canHaveAll 6 = .ok (.if_icmp .ge 56, 3) := by decide +kernel
theorem dX0_canHaveAll_9 : decode cX0_canHaveAll 9 = .ok (.iload_n 2, 1) := by decide +kernel
theorem dX0_canHaveAll_10 : decode cX0_canHaveAll 10 = .ok (.iload 4, 2) := by decide +kernel
theorem dX0_canHaveAll_12 : decode cX0_canHaveAll 12 = .ok (.iconst 5, 1) := by decide +kernel
theorem dX0_canHaveAll_13 : decode cX0_canHaveAll 13 = .ok (.imul, 1) := by decide +kernel
theorem dX0_canHaveAll_14 : decode cX0_canHaveAll 14 = .ok (.iadd, 1) := by decide +kernel
theorem dX0_canHaveAll_15 : decode cX0_canHaveAll 15 = .ok (.istore 5, 2) := by decide +kernel
theorem dX0_canHaveAll_17 : decode cX0_canHaveAll 17 = .ok (.aload_n 0, 1) := by decide +kernel
theorem dX0_canHaveAll_18 : decode cX0_canHaveAll 18 = .ok (.aload_n 1, 1) := by decide +kernel
theorem dX0_canHaveAll_19 : decode cX0_canHaveAll 19 = .ok (.iload 5, 2) := by decide +kernel
theorem dX0_canHaveAll_21 : decode cX0_canHaveAll 21 = .ok (.iconst 0, 1) := by decide +kernel
theorem dX0_canHaveAll_22 : decode cX0_canHaveAll 22 = .ok (.iadd, 1) := by decide +kernel
theorem dX0_canHaveAll_23 : decode cX0_canHaveAll 23 = .ok (.iaload, 1) := by decide +kernel
theorem dX0_canHaveAll_24 : decode cX0_canHaveAll 24 = .ok (.aload_n 1, 1) := by decide +kernel
theorem dX0_canHaveAll_25 : decode cX0_canHaveAll 25 = .ok (.iload 5, 2) := by decide +kernel
theorem dX0_canHaveAll_27 : decode cX0_canHaveAll 27 = .ok (.iconst 1, 1) := by decide +kernel
theorem dX0_canHaveAll_28 : decode cX0_canHaveAll 28 = .ok (.iadd, 1) := by decide +kernel
theorem dX0_canHaveAll_29 : decode cX0_canHaveAll 29 = .ok (.iaload, 1) := by decide +kernel
theorem dX0_canHaveAll_30 : decode cX0_canHaveAll 30 = .ok (.aload_n 1, 1) := by decide +kernel
theorem dX0_canHaveAll_31 : decode cX0_canHaveAll 31 = .ok (.iload 5, 2) := by decide +kernel
theorem dX0_canHaveAll_33 : decode cX0_canHaveAll 33 = .ok (.iconst 2, 1) := by decide +kernel
theorem dX0_canHaveAll_34 : decode cX0_canHaveAll 34 = .ok (.iadd, 1) := by decide +kernel
theorem dX0_canHaveAll_35 : decode cX0_canHaveAll 35 = .ok (.iaload, 1) := by decide +kernel
theorem dX0_canHaveAll_36 : decode cX0_canHaveAll 36 = .ok (.aload_n 1, 1) := by decide +kernel
theorem dX0_canHaveAll_37 : decode cX0_canHaveAll 37 = .ok (.iload 5, 2) := by decide +kernel
theorem dX0_canHaveAll_39 : decode cX0_canHaveAll 39 = .ok (.iconst 3, 1) := by decide +kernel
theorem dX0_canHaveAll_40 : decode cX0_canHaveAll 40 = .ok (.iadd, 1) := by decide +kernel
theorem dX0_canHaveAll_41 : decode cX0_canHaveAll 41 = .ok (.iaload, 1) := by decide +kernel
theorem dX0_canHaveAll_42 : decode cX0_canHaveAll 42 = .ok (.aload_n 1, 1) := by decide +kernel
theorem dX0_canHaveAll_43 : decode cX0_canHaveAll 43 = .ok (.iload 5, 2) := by decide +kernel
theorem dX0_canHaveAll_45 : decode cX0_canHaveAll 45 = .ok (.iconst 4, 1) := by decide +kernel
theorem dX0_canHaveAll_46 : decode cX0_canHaveAll 46 = .ok (.iadd, 1) := by decide +kernel
theorem dX0_canHaveAll_47 : decode cX0_canHaveAll 47 = .ok (.iaload, 1) := by decide +kernel
theorem dX0_canHaveAll_48 : decode cX0_canHaveAll 48 = .ok (.invokevirtual 27, 3) := by decide +kernel
theorem dX0_canHaveAll_51 : decode cX0_canHaveAll 51 = .ok (.ifCond .ne 5, 3) := by decide +kernel
theorem dX0_canHaveAll_54 : decode cX0_canHaveAll 54 = .ok (.iconst 0, 1) := by decide +kernel
theorem dX0_canHaveAll_55 : decode cX0_canHaveAll 55 = .ok (.ireturn, 1) := by decide +kernel
theorem dX0_canHaveAll_56 : decode cX0_canHaveAll 56 = .ok (.iinc 4 1, 3) := by decide +kernel
theorem dX0_canHaveAll_59 : decode cX0_canHaveAll 59 = .ok (.goto (-56), 3) := by decide +kernel
theorem dX0_canHaveAll_62 : decode cX0_canHaveAll 62 = .ok (.iconst 1, 1) := by decide +kernel
theorem dX0_canHaveAll_63 : decode cX0_canHaveAll 63 = .ok (.ireturn, 1) := by decide +kernel
theorem dX0_add_0 : decode cX0_add 0 = .ok (.aload_n 0, 1) := by decide +kernel
theorem dX0_add_1 : decode cX0_add 1 = .ok (.getfield 31, 3) := by decide +kernel
theorem dX0_add_4 : decode cX0_add 4 = .ok (.iconst 5, 1) := by decide +kernel
theorem dX0_add_5 : decode cX0_add 5 = .ok (.imul, 1) := by decide +kernel
theorem dX0_add_6 : decode cX0_add 6 = .ok (.istore 6, 2) := by decide +kernel
theorem dX0_add_8 : decode cX0_add 8 = .ok (.aload_n 0, 1) := by decide +kernel
theorem dX0_add_9 : decode cX0_add 9 = .ok (.getfield 19, 3) := by decide +kernel
theorem dX0_add_12 : decode cX0_add 12 = .ok (.iload 6, 2) := by decide +kernel
theorem dX0_add_14 : decode cX0_add 14 = .ok (.iconst 0, 1) := by decide +kernel
theorem dX0_add_15 : decode cX0_add 15 = .ok (.iadd, 1) := by decide +kernel
theorem dX0_add_16 : decode cX0_add 16 = .ok (.iload_n 1, 1) := by decide +kernel
theorem dX0_add_17 : decode cX0_add 17 = .ok (.iastore, 1) := by decide +kernel
theorem dX0_add_18 : decode cX0_add 18 = .ok (.aload_n 0, 1) := by decide +kernel
theorem dX0_add_19 : decode cX0_add 19 = .ok (.getfield 19, 3) := by decide +kernel
theorem dX0_add_22 : decode cX0_add 22 = .ok (.iload 6, 2) := by decide +kernel
theorem dX0_add_24 : decode cX0_add 24 = .ok (.iconst 1, 1) := by decide +kernel
theorem dX0_add_25 : decode cX0_add 25 = .ok (.iadd, 1) := by decide +kernel
theorem dX0_add_26 : decode cX0_add 26 = .ok (.iload_n 2, 1) := by decide +kernel
theorem dX0_add_27 : decode cX0_add 27 = .ok (.iastore, 1) := by decide +kernel
theorem dX0_add_28 : decode cX0_add 28 = .ok (.aload_n 0, 1) := by decide +kernel
theorem dX0_add_29 : decode cX0_add 29 = .ok (.getfield 19, 3) := by decide +kernel
theorem dX0_add_32 : decode cX0_add 32 = .ok (.iload 6, 2) := by decide +kernel
theorem dX0_add_34 : decode cX0_add 34 = .ok (.iconst 2, 1) := by decide +kernel
theorem dX0_add_35 : decode cX0_add 35 = .ok (.iadd, 1) := by decide +kernel
theorem dX0_add_36 : decode cX0_add 36 = .ok (.iload_n 2, 1) := by decide +kernel
theorem dX0_add_37 : decode cX0_add 37 = .ok (.ifCond .ne 7, 3) := by decide +kernel
theorem dX0_add_40 : decode cX0_add 40 = .ok (.iconst 0, 1) := by decide +kernel
theorem dX0_add_41 : decode cX0_add 41 = .ok (.goto 4, 3) := by decide +kernel
theorem dX0_add_44 : decode cX0_add 44 = .ok (.iload_n 3, 1) := by decide +kernel
theorem dX0_add_45 : decode cX0_add 45 = .ok (.iastore, 1) := by decide +kernel
theorem dX0_add_46 : decode cX0_add 46 = .ok (.aload_n 0, 1) := by decide +kernel
theorem dX0_add_47 : decode cX0_add 47 = .ok (.getfield 19, 3) := by decide +kernel
theorem dX0_add_50 : decode cX0_add 50 = .ok (.iload 6, 2) := by decide +kernel
theorem dX0_add_52 : decode cX0_add 52 = .ok (.iconst 3, 1) := by decide +kernel
theorem dX0_add_53 : decode cX0_add 53 = .ok (.iadd, 1) := by decide +kernel
theorem dX0_add_54 : decode cX0_add 54 = .ok (.iload_n 2, 1) := by decide +kernel
theorem dX0_add_55 : decode cX0_add 55 = .ok (.ifCond .ne 7, 3) := by decide +kernel
theorem dX0_add_58 : decode cX0_add 58 = .ok (.iconst 0, 1) := by decide +kernel
theorem dX0_add_59 : decode cX0_add 59 = .ok (.goto 5, 3) := by decide +kernel
theorem dX0_add_62 : decode cX0_add 62 = .ok (.iload 4, 2) := by decide +kernel
theorem dX0_add_64 : decode cX0_add 64 = .ok (.iastore, 1) := by decide +kernel
theorem dX0_add_65 : decode cX0_add 65 = .ok (.aload_n 0, 1) := by decide +kernel
theorem dX0_add_66 : decode cX0_add 66 = .ok (.getfield 19, 3) := by decide +kernel
theorem dX0_add_69 : decode cX0_add 69 = .ok (.iload 6, 2) := by decide +kernel
theorem dX0_add_71 : decode cX0_add 71 = .ok (.iconst 4, 1) := by decide +kernel
theorem dX0_add_72 : decode cX0_add 72 = .ok (.iadd, 1) := by decide +kernel
theorem dX0_add_73 : decode cX0_add 73 = .ok (.iload 5, 2) := by decide +kernel
theorem dX0_add_75 : decode cX0_add 75 = .ok (.iastore, 1) := by decide +kernel
theorem dX0_add_76 : decode cX0_add 76 = .ok (.aload_n 0, 1) := by decide +kernel
theorem dX0_add_77 : decode cX0_add 77 = .ok (.dup, 1) := by decide +kernel
theorem dX0_add_78 : decode cX0_add 78 = .ok (.getfield 31, 3) := by decide +kernel
theorem dX0_add_81 : decode cX0_add 81 = .ok (.iconst 1, 1) := by decide +kernel
theorem dX0_add_82 : decode cX0_add 82 = .ok (.iadd, 1) := by decide +kernel
theorem dX0_add_83 : decode cX0_add 83 = .ok (.putfield 31, 3) := by decide +kernel
theorem dX0_add_86 : decode cX0_add 86 = .ok (.return_, 1) := by decide +kernel
set_option maxRecDepth 20000 in
theorem ggX0_addAll_X0_add : GoodIn wsX0_addAll wsX0_add := goodIn_r _ [5, 6, 7, 8, 9, 10, 11] (by decide +kernel) (by decide +kernel)
set_option maxRecDepth 20000 in
theorem gX0_addAll_X0_add : GoodIn wsX0_addAll (wsV RX0 34 RX0 yX0_add wsX0_add) := goodIn_app (goodIn_of _ (by decide +kernel)) ggX0_addAll_X0_add
theorem dX0_addAll_0 : decode cX0_addAll 0 = .ok (.iconst 0, 1) := by decide +kernel
theorem dX0_addAll_1 : decode cX0_addAll 1 = .ok (.istore 4, 2) := by decide +kernel
theorem dX0_addAll_3 : decode cX0_addAll 3 = .ok (.iload 4, 2) := by decide +kernel
theorem dX0_addAll_5 : decode cX0_addAll 5 = .ok (.iload_n 3, 1) := by decide +kernel
theorem dX0_addAll_6 : decode cX0_addAll 6 = .ok (.if_icmp .ge 51, 3) := by decide +kernel
theorem dX0_addAll_9 : decode cX0_addAll 9 = .ok (.iload_n 2, 1) := by decide +kernel
theorem dX0_addAll_10 : decode cX0_addAll 10 = .ok (.iload 4, 2) := by decide +kernel
theorem dX0_addAll_12 : decode cX0_addAll 12 = .ok (.iconst 5, 1) := by decide +kernel
theorem dX0_addAll_13 : decode cX0_addAll 13 = .ok (.imul, 1) := by decide +kernel
theorem dX0_addAll_14 : decode cX0_addAll 14 = .ok (.iadd, 1) := by decide +kernel
theorem dX0_addAll_15 : decode cX0_addAll 15 = .ok (.istore 5, 2) := by decide +kernel
theorem dX0_addAll_17 : decode cX0_addAll 17 = .ok (.aload_n 0, 1) := by decide +kernel
theorem dX0_addAll_18 : decode cX0_addAll 18 = .ok (.aload_n 1, 1) := by decide +kernel
theorem dX0_addAll_19 : decode cX0_addAll 19 = .ok (.iload 5, 2) := by decide +kernel
theorem dX0_addAll_21 : decode cX0_addAll 21 = .ok (.iconst 0, 1) := by decide +kernel
theorem dX0_addAll_22 : decode cX0_addAll 22 = .ok (.iadd, 1) := by decide +kernel
theorem dX0_addAll_23 : decode cX0_addAll 23 = .ok (.iaload, 1) := by decide +kernel
theorem dX0_addAll_24 : decode cX0_addAll 24 = .ok (.aload_n 1, 1) := by decide +kernel
theorem dX0_addAll_25 : decode cX0_addAll 25 = .ok (.iload 5, 2) := by decide +kernel
theorem dX0_addAll_27 : decode cX0_addAll 27 = .ok (.iconst 1, 1) := by decide +kernel
theorem dX0_addAll_28 : decode cX0_addAll 28 = .ok (.iadd, 1) := by decide +kernel
theorem dX0_addAll_29 : decode cX0_addAll 29 = .ok (.iaload, 1) := by decide +kernel
theorem dX0_addAll_30 : decode cX0_addAll 30 = .ok (.aload_n 1, 1) := by decide +kernel
theorem dX0_addAll_31 : decode cX0_addAll 31 = .ok (.iload 5, 2) := by decide +kernel
theorem dX0_addAll_33 : decode cX0_addAll 33 = .ok (.iconst 2, 1) := by decide +kernel
theorem dX0_addAll_34 : decode cX0_addAll 34 = .ok (.iadd, 1) := by decide +kernel
theorem dX0_addAll_35 : decode cX0_addAll 35 = .ok (.iaload, 1) := by decide +kernel
theorem dX0_addAll_36 : decode cX0_addAll 36 = .ok (.aload_n 1, 1) := by decide +kernel
theorem dX0_addAll_37 : decode cX0_addAll 37 = .ok (.iload 5, 2) := by decide +kernel
theorem dX0_addAll_39 : decode cX0_addAll 39 = .ok (.iconst 3, 1) := by decide +kernel
theorem dX0_addAll_40 : decode cX0_addAll 40 = .ok (.iadd, 1) := by decide +kernel
theorem dX0_addAll_41 : decode cX0_addAll 41 = .ok (.iaload, 1) := by decide +kernel
theorem dX0_addAll_42 : decode cX0_addAll 42 = .ok (.aload_n 1, 1) := by decide +kernel
theorem dX0_addAll_43 : decode cX0_addAll 43 = .ok (.iload 5, 2) := by decide +kernel
theorem dX0_addAll_45 : decode cX0_addAll 45 = .ok (.iconst 4, 1) := by decide +kernel
theorem dX0_addAll_46 : decode cX0_addAll 46 = .ok (.iadd, 1) := by decide +kernel
theorem dX0_addAll_47 : decode cX0_addAll 47 = .ok (.iaload, 1) := by decide +kernel
theorem dX0_addAll_48 : decode cX0_addAll 48 = .ok (.invokevirtual 34, 3) := by decide +kernel
theorem dX0_addAll_51 : decode cX0_addAll 51 = .ok (.iinc 4 1, 3) := by decide +kernel
theorem dX0_addAll_54 : decode cX0_addAll 54 = .ok (.goto (-51), 3) := by decide +kernel
theorem dX0_addAll_57 : decode cX0_addAll 57 = .ok (.return_, 1) := by decide +kernel
set_option maxRecDepth 20000 in
theorem ggX0_replace_X0_addAll : GoodIn wsX0_replace wsX0_addAll := goodIn_r _ [6, 7, 8, 9, 5, 10, 1, 11, 12, 13, 14, 15] (by decide +kernel) (by decide +kernel)
set_option maxRecDepth 20000 in
theorem gX0_replace_X0_addAll : GoodIn wsX0_replace (wsV RX0 38 RX0 yX0_addAll wsX0_addAll) := goodIn_app (goodIn_of _ (by decide +kernel)) ggX0_replace_X0_addAll
theorem dX0_replace_0 : decode cX0_replace 0 = .ok (.aload_n 0, 1) := by decide +kernel
theorem dX0_replace_1 : decode cX0_replace 1 = .ok (.iconst 0, 1) := by decide +kernel
theorem dX0_replace_2 : decode cX0_replace 2 = .ok (.putfield 31, 3) := by decide +kernel
theorem dX0_replace_5 : decode cX0_replace 5 = .ok (.aload_n 0, 1) := by decide +kernel
theorem dX0_replace_6 : decode cX0_replace 6 = .ok (.aload_n 1, 1) := by decide +kernel
theorem dX0_replace_7 : decode cX0_replace 7 = .ok (.iconst 0, 1) := by decide +kernel
theorem dX0_replace_8 : decode cX0_replace 8 = .ok (.iload_n 2, 1) := by decide +kernel
theorem dX0_replace_9 : decode cX0_replace 9 = .ok (.invokevirtual 38, 3) := by decide +kernel
theorem dX0_replace_12 : decode cX0_replace 12 = .ok (.return_, 1) := by decide +kernel
set_option maxRecDepth 20000 in
theorem ggX0_wordWith_X6_placeInOrder : GoodIn wsX0_wordWith wsX6_placeInOrder := goodIn_r _ [5] (by decide +kernel) (by decide +kernel)
set_option maxRecDepth 20000 in
theorem gX0_wordWith_X6_placeInOrder : GoodIn wsX0_wordWith (va_wsS RX0 42 yX6_placeInOrder wsX6_placeInOrder) := goodIn_app (goodIn_of _ (by decide +kernel)) ggX0_wordWith_X6_placeInOrder
set_option maxRecDepth 20000 in
theorem ggX0_wordWith_X6_size : GoodIn wsX0_wordWith wsX6_size := goodIn_r _ [8] (by decide +kernel) (by decide +kernel)
set_option maxRecDepth 20000 in
theorem gX0_wordWith_X6_size : GoodIn wsX0_wordWith (va_wsS RX0 48 yX6_size wsX6_size) := goodIn_app (goodIn_of _ (by decide +kernel)) ggX0_wordWith_X6_size
set_option maxRecDepth 20000 in
theorem ggX0_wordWith_X6_with : GoodIn wsX0_wordWith wsX6_with := goodIn_r _ [11] (by decide +kernel) (by decide +kernel)
set_option maxRecDepth 20000 in
theorem gX0_wordWith_X6_with : GoodIn wsX0_wordWith (va_wsS RX0 52 yX6_with wsX6_with) := goodIn_app (goodIn_of _ (by decide +kernel)) ggX0_wordWith_X6_with
theorem dX0_wordWith_0 : decode cX0_wordWith 0 = .ok (.aload_n 0, 1) := by decide +kernel
theorem dX0_wordWith_1 : decode cX0_wordWith 1 = .ok (.getfield 15, 3) := by decide +kernel
theorem dX0_wordWith_4 : decode cX0_wordWith 4 = .ok (.iload_n 1, 1) := by decide +kernel
theorem dX0_wordWith_5 : decode cX0_wordWith 5 = .ok (.baload, 1) := by decide +kernel
theorem dX0_wordWith_6 : decode cX0_wordWith 6 = .ok (.ifCond .eq 11, 3) := by decide +kernel
theorem dX0_wordWith_9 : decode cX0_wordWith 9 = .ok (.iload_n 2, 1) := by decide +kernel
theorem dX0_wordWith_10 : decode cX0_wordWith 10 = .ok (.iload_n 3, 1) := by decide +kernel
theorem dX0_wordWith_11 : decode cX0_wordWith 11 = .ok (.invokestatic 42, 3) := by decide +kernel
theorem dX0_wordWith_14 : decode cX0_wordWith 14 = .ok (.goto 7, 3) := by decide +kernel
theorem dX0_wordWith_17 : decode cX0_wordWith 17 = .ok (.iload_n 2, 1) := by decide +kernel
theorem dX0_wordWith_18 : decode cX0_wordWith 18 = .ok (.invokestatic 48, 3) := by decide +kernel
theorem dX0_wordWith_21 : decode cX0_wordWith 21 = .ok (.istore 4, 2) := by decide +kernel
theorem dX0_wordWith_23 : decode cX0_wordWith 23 = .ok (.iload_n 2, 1) := by decide +kernel
theorem dX0_wordWith_24 : decode cX0_wordWith 24 = .ok (.iload 4, 2) := by decide +kernel
theorem dX0_wordWith_26 : decode cX0_wordWith 26 = .ok (.iload_n 3, 1) := by decide +kernel
theorem dX0_wordWith_27 : decode cX0_wordWith 27 = .ok (.invokestatic 52, 3) := by decide +kernel
end
section
theorem dX0_wordWith_30 : decode cX0_wordWith 30 = .ok (.ireturn, 1) := by decide +kernel
set_option maxRecDepth 20000 in
theorem ggX0_wordBehind_X0_part : GoodIn wsX0_wordBehind wsX0_part := goodIn_r _ [6, 7, 28, 29, 30, 31] (by decide +kernel) (by decide +kernel)
set_option maxRecDepth 20000 in
theorem gX0_wordBehind_X0_part : GoodIn wsX0_wordBehind (wsV RX0 56 RX0 yX0_part wsX0_part) := goodIn_app (goodIn_of _ (by decide +kernel)) ggX0_wordBehind_X0_part
set_option maxRecDepth 20000 in
theorem ggX0_wordBehind_X0_wordWith : GoodIn wsX0_wordBehind wsX0_wordWith := goodIn_r _ [11, 1, 12, 13, 14, 15, 16, 17, 18, 19, 20, 21, 28, 29, 30, 31] (by decide +kernel) (by decide +kernel)
set_option maxRecDepth 20000 in
theorem gX0_wordBehind_X0_wordWith : GoodIn wsX0_wordBehind (wsV RX0 59 RX0 yX0_wordWith wsX0_wordWith) := goodIn_app (goodIn_of _ (by decide +kernel)) ggX0_wordBehind_X0_wordWith
set_option maxRecDepth 20000 in
theorem ggX0_wordBehind_X6_find : GoodIn wsX0_wordBehind wsX6_find := goodIn_r _ [24] (by decide +kernel) (by decide +kernel)
set_option maxRecDepth 20000 in
theorem gX0_wordBehind_X6_find : GoodIn wsX0_wordBehind (va_wsS RX0 62 yX6_find wsX6_find) := goodIn_app (goodIn_of _ (by decide +kernel)) ggX0_wordBehind_X6_find
set_option maxRecDepth 20000 in
theorem ggX0_wordBehind_X6_without : GoodIn wsX0_wordBehind wsX6_without := goodIn_r _ [27] (by decide +kernel) (by decide +kernel)
set_option maxRecDepth 20000 in
theorem gX0_wordBehind_X6_without : GoodIn wsX0_wordBehind (va_wsS RX0 65 yX6_without wsX6_without) := goodIn_app (goodIn_of _ (by decide +kernel)) ggX0_wordBehind_X6_without
theorem dX0_wordBehind_0 : decode cX0_wordBehind 0 = .ok (.aload_n 0, 1) := by decide +kernel
theorem dX0_wordBehind_1 : decode cX0_wordBehind 1 = .ok (.iload_n 1, 1) := by decide +kernel
theorem dX0_wordBehind_2 : decode cX0_wordBehind 2 = .ok (.iconst 2, 1) := by decide +kernel
theorem dX0_wordBehind_3 : decode cX0_wordBehind 3 = .ok (.invokevirtual 56, 3) := by decide +kernel
theorem dX0_wordBehind_6 : decode cX0_wordBehind 6 = .ok (.istore_n 3, 1) := by decide +kernel
theorem dX0_wordBehind_7 : decode cX0_wordBehind 7 = .ok (.aload_n 0, 1) := by decide +kernel
theorem dX0_wordBehind_8 : decode cX0_wordBehind 8 = .ok (.iload_n 1, 1) := by decide +kernel
theorem dX0_wordBehind_9 : decode cX0_wordBehind 9 = .ok (.iconst 3, 1) := by decide +kernel
theorem dX0_wordBehind_10 : decode cX0_wordBehind 10 = .ok (.invokevirtual 56, 3) := by decide +kernel
theorem dX0_wordBehind_13 : decode cX0_wordBehind 13 = .ok (.istore 4, 2) := by decide +kernel
theorem dX0_wordBehind_15 : decode cX0_wordBehind 15 = .ok (.aload_n 0, 1) := by decide +kernel
theorem dX0_wordBehind_16 : decode cX0_wordBehind 16 = .ok (.iload_n 1, 1) := by decide +kernel
theorem dX0_wordBehind_17 : decode cX0_wordBehind 17 = .ok (.iconst 1, 1) := by decide +kernel
theorem dX0_wordBehind_18 : decode cX0_wordBehind 18 = .ok (.invokevirtual 56, 3) := by decide +kernel
theorem dX0_wordBehind_21 : decode cX0_wordBehind 21 = .ok (.lookupswitch 94 #[(1, 27), (2, 36)], 27) := by decide +kernel
theorem dX0_wordBehind_48 : decode cX0_wordBehind 48 = .ok (.aload_n 0, 1) := by decide +kernel
theorem dX0_wordBehind_49 : decode cX0_wordBehind 49 = .ok (.iload_n 3, 1) := by decide +kernel
theorem dX0_wordBehind_50 : decode cX0_wordBehind 50 = .ok (.iload_n 2, 1) := by decide +kernel
theorem dX0_wordBehind_51 : decode cX0_wordBehind 51 = .ok (.iload 4, 2) := by decide +kernel
theorem dX0_wordBehind_53 : decode cX0_wordBehind 53 = .ok (.invokevirtual 59, 3) := by decide +kernel
theorem dX0_wordBehind_56 : decode cX0_wordBehind 56 = .ok (.ireturn, 1) := by decide +kernel
theorem dX0_wordBehind_57 : decode cX0_wordBehind 57 = .ok (.iload_n 2, 1) := by decide +kernel
theorem dX0_wordBehind_58 : decode cX0_wordBehind 58 = .ok (.iload 4, 2) := by decide +kernel
theorem dX0_wordBehind_60 : decode cX0_wordBehind 60 = .ok (.invokestatic 62, 3) := by decide +kernel
theorem dX0_wordBehind_63 : decode cX0_wordBehind 63 = .ok (.istore 5, 2) := by decide +kernel
theorem dX0_wordBehind_65 : decode cX0_wordBehind 65 = .ok (.aload_n 0, 1) := by decide +kernel
theorem dX0_wordBehind_66 : decode cX0_wordBehind 66 = .ok (.getfield 15, 3) := by decide +kernel
theorem dX0_wordBehind_69 : decode cX0_wordBehind 69 = .ok (.iload_n 3, 1) := by decide +kernel
theorem dX0_wordBehind_70 : decode cX0_wordBehind 70 = .ok (.baload, 1) := by decide +kernel
theorem dX0_wordBehind_71 : decode cX0_wordBehind 71 = .ok (.ifCond .eq 16, 3) := by decide +kernel
theorem dX0_wordBehind_74 : decode cX0_wordBehind 74 = .ok (.iload 5, 2) := by decide +kernel
theorem dX0_wordBehind_76 : decode cX0_wordBehind 76 = .ok (.ifCond .lt 7, 3) := by decide +kernel
theorem dX0_wordBehind_79 : decode cX0_wordBehind 79 = .ok (.iconst 1, 1) := by decide +kernel
theorem dX0_wordBehind_80 : decode cX0_wordBehind 80 = .ok (.goto 17, 3) := by decide +kernel
theorem dX0_wordBehind_83 : decode cX0_wordBehind 83 = .ok (.iconst 0, 1) := by decide +kernel
theorem dX0_wordBehind_84 : decode cX0_wordBehind 84 = .ok (.goto 13, 3) := by decide +kernel
theorem dX0_wordBehind_87 : decode cX0_wordBehind 87 = .ok (.iload 5, 2) := by decide +kernel
theorem dX0_wordBehind_89 : decode cX0_wordBehind 89 = .ok (.ifCond .ne 7, 3) := by decide +kernel
theorem dX0_wordBehind_92 : decode cX0_wordBehind 92 = .ok (.iconst 1, 1) := by decide +kernel
theorem dX0_wordBehind_93 : decode cX0_wordBehind 93 = .ok (.goto 4, 3) := by decide +kernel
theorem dX0_wordBehind_96 : decode cX0_wordBehind 96 = .ok (.iconst 0, 1) := by decide +kernel
theorem dX0_wordBehind_97 : decode cX0_wordBehind 97 = .ok (.istore 6, 2) := by decide +kernel
theorem dX0_wordBehind_99 : decode cX0_wordBehind 99 = .ok (.iload 6, 2) := by decide +kernel
theorem dX0_wordBehind_101 : decode cX0_wordBehind 101 = .ok (.ifCond .eq 12, 3) := by decide +kernel
theorem dX0_wordBehind_104 : decode cX0_wordBehind 104 = .ok (.iload_n 2, 1) := by decide +kernel
theorem dX0_wordBehind_105 : decode cX0_wordBehind 105 = .ok (.iload 5, 2) := by decide +kernel
theorem dX0_wordBehind_107 : decode cX0_wordBehind 107 = .ok (.invokestatic 65, 3) := by decide +kernel
theorem dX0_wordBehind_110 : decode cX0_wordBehind 110 = .ok (.goto 4, 3) := by decide +kernel
theorem dX0_wordBehind_113 : decode cX0_wordBehind 113 = .ok (.iconst (-1), 1) := by decide +kernel
theorem dX0_wordBehind_114 : decode cX0_wordBehind 114 = .ok (.ireturn, 1) := by decide +kernel
theorem dX0_wordBehind_115 : decode cX0_wordBehind 115 = .ok (.iload_n 2, 1) := by decide +kernel
theorem dX0_wordBehind_116 : decode cX0_wordBehind 116 = .ok (.ireturn, 1) := by decide +kernel
set_option maxRecDepth 20000 in
theorem ggX0_wordAhead_X0_part : GoodIn wsX0_wordAhead wsX0_part := goodIn_r _ [6, 7, 31, 32, 33, 34] (by decide +kernel) (by decide +kernel)
set_option maxRecDepth 20000 in
theorem gX0_wordAhead_X0_part : GoodIn wsX0_wordAhead (wsV RX0 56 RX0 yX0_part wsX0_part) := goodIn_app (goodIn_of _ (by decide +kernel)) ggX0_wordAhead_X0_part
set_option maxRecDepth 20000 in
theorem ggX0_wordAhead_X6_find : GoodIn wsX0_wordAhead wsX6_find := goodIn_r _ [11] (by decide +kernel) (by decide +kernel)
set_option maxRecDepth 20000 in
theorem gX0_wordAhead_X6_find : GoodIn wsX0_wordAhead (va_wsS RX0 62 yX6_find wsX6_find) := goodIn_app (goodIn_of _ (by decide +kernel)) ggX0_wordAhead_X6_find
set_option maxRecDepth 20000 in
theorem ggX0_wordAhead_X6_size : GoodIn wsX0_wordAhead wsX6_size := goodIn_r _ [14] (by decide +kernel) (by decide +kernel)
set_option maxRecDepth 20000 in
theorem gX0_wordAhead_X6_size : GoodIn wsX0_wordAhead (va_wsS RX0 48 yX6_size wsX6_size) := goodIn_app (goodIn_of _ (by decide +kernel)) ggX0_wordAhead_X6_size
set_option maxRecDepth 20000 in
theorem ggX0_wordAhead_X6_at : GoodIn wsX0_wordAhead wsX6_at := goodIn_r _ [17] (by decide +kernel) (by decide +kernel)
set_option maxRecDepth 20000 in
theorem gX0_wordAhead_X6_at : GoodIn wsX0_wordAhead (va_wsS RX0 68 yX6_at wsX6_at) := goodIn_app (goodIn_of _ (by decide +kernel)) ggX0_wordAhead_X6_at
set_option maxRecDepth 20000 in
theorem ggX0_wordAhead_X6_without : GoodIn wsX0_wordAhead wsX6_without := goodIn_r _ [20] (by decide +kernel) (by decide +kernel)
set_option maxRecDepth 20000 in
theorem gX0_wordAhead_X6_without : GoodIn wsX0_wordAhead (va_wsS RX0 65 yX6_without wsX6_without) := goodIn_app (goodIn_of _ (by decide +kernel)) ggX0_wordAhead_X6_without
set_option maxRecDepth 20000 in
theorem ggX0_wordAhead_X0_wordWith : GoodIn wsX0_wordAhead wsX0_wordWith := goodIn_r _ [24, 1, 25, 26, 10, 27, 12, 13, 14, 28, 29, 30, 31, 32, 33, 34] (by decide +kernel) (by decide +kernel)
set_option maxRecDepth 20000 in
theorem gX0_wordAhead_X0_wordWith : GoodIn wsX0_wordAhead (wsV RX0 59 RX0 yX0_wordWith wsX0_wordWith) := goodIn_app (goodIn_of _ (by decide +kernel)) ggX0_wordAhead_X0_wordWith
set_option maxRecDepth 20000 in
theorem ggX0_wordAhead_X6_with : GoodIn wsX0_wordAhead wsX6_with := goodIn_r _ [30] (by decide +kernel) (by decide +kernel)
set_option maxRecDepth 20000 in
theorem gX0_wordAhead_X6_with : GoodIn wsX0_wordAhead (va_wsS RX0 52 yX6_with wsX6_with) := goodIn_app (goodIn_of _ (by decide +kernel)) ggX0_wordAhead_X6_with
theorem dX0_wordAhead_0 : decode cX0_wordAhead 0 = .ok (.aload_n 0, 1) := by decide +kernel
theorem dX0_wordAhead_1 : decode cX0_wordAhead 1 = .ok (.iload_n 1, 1) := by decide +kernel
theorem dX0_wordAhead_2 : decode cX0_wordAhead 2 = .ok (.iconst 2, 1) := by decide +kernel
theorem dX0_wordAhead_3 : decode cX0_wordAhead 3 = .ok (.invokevirtual 56, 3) := by decide +kernel
theorem dX0_wordAhead_6 : decode cX0_wordAhead 6 = .ok (.istore_n 3, 1) := by decide +kernel
theorem dX0_wordAhead_7 : decode cX0_wordAhead 7 = .ok (.aload_n 0, 1) := by decide +kernel
theorem dX0_wordAhead_8 : decode cX0_wordAhead 8 = .ok (.iload_n 1, 1) := by decide +kernel
theorem dX0_wordAhead_9 : decode cX0_wordAhead 9 = .ok (.iconst 3, 1) := by decide +kernel
theorem dX0_wordAhead_10 : decode cX0_wordAhead 10 = .ok (.invokevirtual 56, 3) := by decide +kernel
theorem dX0_wordAhead_13 : decode cX0_wordAhead 13 = .ok (.istore 4, 2) := by decide +kernel
theorem dX0_wordAhead_15 : decode cX0_wordAhead 15 = .ok (.aload_n 0, 1) := by decide +kernel
theorem dX0_wordAhead_16 : decode cX0_wordAhead 16 = .ok (.iload_n 1, 1) := by decide +kernel
theorem dX0_wordAhead_17 : decode cX0_wordAhead 17 = .ok (.iconst 1, 1) := by decide +kernel
theorem dX0_wordAhead_18 : decode cX0_wordAhead 18 = .ok (.invokevirtual 56, 3) := by decide +kernel
theorem dX0_wordAhead_21 : decode cX0_wordAhead 21 = .ok (.lookupswitch 108 #[(1, 27), (2, 80)], 27) := by decide +kernel
theorem dX0_wordAhead_48 : decode cX0_wordAhead 48 = .ok (.aload_n 0, 1) := by decide +kernel
theorem dX0_wordAhead_49 : decode cX0_wordAhead 49 = .ok (.getfield 15, 3) := by decide +kernel
theorem dX0_wordAhead_52 : decode cX0_wordAhead 52 = .ok (.iload_n 3, 1) := by decide +kernel
theorem dX0_wordAhead_53 : decode cX0_wordAhead 53 = .ok (.baload, 1) := by decide +kernel
theorem dX0_wordAhead_54 : decode cX0_wordAhead 54 = .ok (.ifCond .eq 12, 3) := by decide +kernel
theorem dX0_wordAhead_57 : decode cX0_wordAhead 57 = .ok (.iload_n 2, 1) := by decide +kernel
theorem dX0_wordAhead_58 : decode cX0_wordAhead 58 = .ok (.iload 4, 2) := by decide +kernel
theorem dX0_wordAhead_60 : decode cX0_wordAhead 60 = .ok (.invokestatic 62, 3) := by decide +kernel
theorem dX0_wordAhead_63 : decode cX0_wordAhead 63 = .ok (.goto 9, 3) := by decide +kernel
theorem dX0_wordAhead_66 : decode cX0_wordAhead 66 = .ok (.iload_n 2, 1) := by decide +kernel
theorem dX0_wordAhead_67 : decode cX0_wordAhead 67 = .ok (.invokestatic 48, 3) := by decide +kernel
theorem dX0_wordAhead_70 : decode cX0_wordAhead 70 = .ok (.iconst 1, 1) := by decide +kernel
theorem dX0_wordAhead_71 : decode cX0_wordAhead 71 = .ok (.isub, 1) := by decide +kernel
theorem dX0_wordAhead_72 : decode cX0_wordAhead 72 = .ok (.istore 5, 2) := by decide +kernel
theorem dX0_wordAhead_74 : decode cX0_wordAhead 74 = .ok (.iload 5, 2) := by decide +kernel
theorem dX0_wordAhead_76 : decode cX0_wordAhead 76 = .ok (.ifCond .lt 23, 3) := by decide +kernel
theorem dX0_wordAhead_79 : decode cX0_wordAhead 79 = .ok (.iload_n 2, 1) := by decide +kernel
theorem dX0_wordAhead_80 : decode cX0_wordAhead 80 = .ok (.iload 5, 2) := by decide +kernel
theorem dX0_wordAhead_82 : decode cX0_wordAhead 82 = .ok (.invokestatic 68, 3) := by decide +kernel
theorem dX0_wordAhead_85 : decode cX0_wordAhead 85 = .ok (.iload 4, 2) := by decide +kernel
theorem dX0_wordAhead_87 : decode cX0_wordAhead 87 = .ok (.if_icmp .ne 12, 3) := by decide +kernel
theorem dX0_wordAhead_90 : decode cX0_wordAhead 90 = .ok (.iload_n 2, 1) := by decide +kernel
theorem dX0_wordAhead_91 : decode cX0_wordAhead 91 = .ok (.iload 5, 2) := by decide +kernel
theorem dX0_wordAhead_93 : decode cX0_wordAhead 93 = .ok (.invokestatic 65, 3) := by decide +kernel
theorem dX0_wordAhead_96 : decode cX0_wordAhead 96 = .ok (.goto 4, 3) := by decide +kernel
theorem dX0_wordAhead_99 : decode cX0_wordAhead 99 = .ok (.iload_n 2, 1) := by decide +kernel
theorem dX0_wordAhead_100 : decode cX0_wordAhead 100 = .ok (.ireturn, 1) := by decide +kernel
theorem dX0_wordAhead_101 : decode cX0_wordAhead 101 = .ok (.aload_n 0, 1) := by decide +kernel
theorem dX0_wordAhead_102 : decode cX0_wordAhead 102 = .ok (.getfield 15, 3) := by decide +kernel
theorem dX0_wordAhead_105 : decode cX0_wordAhead 105 = .ok (.iload_n 3, 1) := by decide +kernel
theorem dX0_wordAhead_106 : decode cX0_wordAhead 106 = .ok (.baload, 1) := by decide +kernel
theorem dX0_wordAhead_107 : decode cX0_wordAhead 107 = .ok (.ifCond .eq 14, 3) := by decide +kernel
theorem dX0_wordAhead_110 : decode cX0_wordAhead 110 = .ok (.aload_n 0, 1) := by decide +kernel
theorem dX0_wordAhead_111 : decode cX0_wordAhead 111 = .ok (.iload_n 3, 1) := by decide +kernel
theorem dX0_wordAhead_112 : decode cX0_wordAhead 112 = .ok (.iload_n 2, 1) := by decide +kernel
theorem dX0_wordAhead_113 : decode cX0_wordAhead 113 = .ok (.iload 4, 2) := by decide +kernel
theorem dX0_wordAhead_115 : decode cX0_wordAhead 115 = .ok (.invokevirtual 59, 3) := by decide +kernel
theorem dX0_wordAhead_118 : decode cX0_wordAhead 118 = .ok (.goto 10, 3) := by decide +kernel
theorem dX0_wordAhead_121 : decode cX0_wordAhead 121 = .ok (.iload_n 2, 1) := by decide +kernel
theorem dX0_wordAhead_122 : decode cX0_wordAhead 122 = .ok (.iconst 0, 1) := by decide +kernel
theorem dX0_wordAhead_123 : decode cX0_wordAhead 123 = .ok (.iload 4, 2) := by decide +kernel
theorem dX0_wordAhead_125 : decode cX0_wordAhead 125 = .ok (.invokestatic 52, 3) := by decide +kernel
theorem dX0_wordAhead_128 : decode cX0_wordAhead 128 = .ok (.ireturn, 1) := by decide +kernel
theorem dX0_wordAhead_129 : decode cX0_wordAhead 129 = .ok (.iload_n 2, 1) := by decide +kernel
theorem dX0_wordAhead_130 : decode cX0_wordAhead 130 = .ok (.ireturn, 1) := by decide +kernel
theorem dX1_init_0 : decode cX1_init 0 = .ok (.aload_n 0, 1) := by decide +kernel
theorem dX1_init_1 : decode cX1_init 1 = .ok (.invokespecial 3, 3) := by decide +kernel
theorem dX1_init_4 : decode cX1_init 4 = .ok (.aload_n 0, 1) := by decide +kernel
theorem dX1_init_5 : decode cX1_init 5 = .ok (.iconst 2, 1) := by decide +kernel
theorem dX1_init_6 : decode cX1_init 6 = .ok (.newarray .int, 2) := by decide +kernel
theorem dX1_init_8 : decode cX1_init 8 = .ok (.putfield 9, 3) := by decide +kernel
theorem dX1_init_11 : decode cX1_init 11 = .ok (.return_, 1) := by decide +kernel
theorem dX1_clear_0 : decode cX1_clear 0 = .ok (.aload_n 0, 1) := by decide +kernel
theorem dX1_clear_1 : decode cX1_clear 1 = .ok (.iload_n 1, 1) := by decide +kernel
theorem dX1_clear_2 : decode cX1_clear 2 = .ok (.putfield 15, 3) := by decide +kernel
theorem dX1_clear_5 : decode cX1_clear 5 = .ok (.aload_n 0, 1) := by decide +kernel
theorem dX1_clear_6 : decode cX1_clear 6 = .ok (.getfield 9, 3) := by decide +kernel
theorem dX1_clear_9 : decode cX1_clear 9 = .ok (.iconst 0, 1) := by decide +kernel
theorem dX1_clear_10 : decode cX1_clear 10 = .ok (.iconst 0, 1) := by decide +kernel
theorem dX1_clear_11 : decode cX1_clear 11 = .ok (.iastore, 1) := by decide +kernel
theorem dX1_clear_12 : decode cX1_clear 12 = .ok (.aload_n 0, 1) := by decide +kernel
theorem dX1_clear_13 : decode cX1_clear 13 = .ok (.getfield 9, 3) := by decide +kernel
theorem dX1_clear_16 : decode cX1_clear 16 = .ok (.iconst 1, 1) := by decide +kernel
theorem dX1_clear_17 : decode cX1_clear 17 = .ok (.iconst 0, 1) := by decide +kernel
theorem dX1_clear_18 : decode cX1_clear 18 = .ok (.iastore, 1) := by decide +kernel
theorem dX1_clear_19 : decode cX1_clear 19 = .ok (.return_, 1) := by decide +kernel
set_option maxRecDepth 20000 in
theorem ggX1_isLonger_X6_isLonger : GoodIn wsX1_isLonger wsX6_isLonger := goodIn_r _ [5] (by decide +kernel) (by decide +kernel)
set_option maxRecDepth 20000 in
theorem gX1_isLonger_X6_isLonger : GoodIn wsX1_isLonger (va_wsS RX1 19 yX6_isLonger wsX6_isLonger) := goodIn_app (goodIn_of _ (by decide +kernel)) ggX1_isLonger_X6_isLonger
theorem dX1_isLonger_0 : decode cX1_isLonger 0 = .ok (.aload_n 0, 1) := by decide +kernel
theorem dX1_isLonger_1 : decode cX1_isLonger 1 = .ok (.getfield 9, 3) := by decide +kernel
theorem dX1_isLonger_4 : decode cX1_isLonger 4 = .ok (.iconst 0, 1) := by decide +kernel
theorem dX1_isLonger_5 : decode cX1_isLonger 5 = .ok (.iaload, 1) := by decide +kernel
theorem dX1_isLonger_6 : decode cX1_isLonger 6 = .ok (.iload_n 1, 1) := by decide +kernel
theorem dX1_isLonger_7 : decode cX1_isLonger 7 = .ok (.invokestatic 19, 3) := by decide +kernel
theorem dX1_isLonger_10 : decode cX1_isLonger 10 = .ok (.ifCond .ne 16, 3) := by decide +kernel
theorem dX1_isLonger_13 : decode cX1_isLonger 13 = .ok (.aload_n 0, 1) := by decide +kernel
theorem dX1_isLonger_14 : decode cX1_isLonger 14 = .ok (.getfield 9, 3) := by decide +kernel
theorem dX1_isLonger_17 : decode cX1_isLonger 17 = .ok (.iconst 1, 1) := by decide +kernel
theorem dX1_isLonger_18 : decode cX1_isLonger 18 = .ok (.iaload, 1) := by decide +kernel
theorem dX1_isLonger_19 : decode cX1_isLonger 19 = .ok (.iload_n 1, 1) := by decide +kernel
theorem dX1_isLonger_20 : decode cX1_isLonger 20 = .ok (.invokestatic 19, 3) := by decide +kernel
theorem dX1_isLonger_23 : decode cX1_isLonger 23 = .ok (.ifCond .eq 7, 3) := by decide +kernel
theorem dX1_isLonger_26 : decode cX1_isLonger 26 = .ok (.iconst 1, 1) := by decide +kernel
theorem dX1_isLonger_27 : decode cX1_isLonger 27 = .ok (.goto 4, 3) := by decide +kernel
theorem dX1_isLonger_30 : decode cX1_isLonger 30 = .ok (.iconst 0, 1) := by decide +kernel
theorem dX1_isLonger_31 : decode cX1_isLonger 31 = .ok (.ireturn, 1) := by decide +kernel
theorem dX2_init_0 : decode cX2_init 0 = .ok (.aload_n 0, 1) := by decide +kernel
theorem dX2_init_1 : decode cX2_init 1 = .ok (.invokespecial 3, 3) := by decide +kernel
theorem dX2_init_4 : decode cX2_init 4 = .ok (.aload_n 0, 1) := by decide +kernel
theorem dX2_init_5 : decode cX2_init 5 = .ok (.bipush 80, 2) := by decide +kernel
theorem dX2_init_7 : decode cX2_init 7 = .ok (.newarray .int, 2) := by decide +kernel
theorem dX2_init_9 : decode cX2_init 9 = .ok (.putfield 9, 3) := by decide +kernel
theorem dX2_init_12 : decode cX2_init 12 = .ok (.aload_n 0, 1) := by decide +kernel
theorem dX2_init_13 : decode cX2_init 13 = .ok (.bipush 80, 2) := by decide +kernel
theorem dX2_init_15 : decode cX2_init 15 = .ok (.newarray .int, 2) := by decide +kernel
theorem dX2_init_17 : decode cX2_init 17 = .ok (.putfield 15, 3) := by decide +kernel
theorem dX2_init_20 : decode cX2_init 20 = .ok (.aload_n 0, 1) := by decide +kernel
theorem dX2_init_21 : decode cX2_init 21 = .ok (.bipush 80, 2) := by decide +kernel
theorem dX2_init_23 : decode cX2_init 23 = .ok (.newarray .int, 2) := by decide +kernel
theorem dX2_init_25 : decode cX2_init 25 = .ok (.putfield 18, 3) := by decide +kernel
theorem dX2_init_28 : decode cX2_init 28 = .ok (.aload_n 0, 1) := by decide +kernel
theorem dX2_init_29 : decode cX2_init 29 = .ok (.bipush 80, 2) := by decide +kernel
theorem dX2_init_31 : decode cX2_init 31 = .ok (.newarray .int, 2) := by decide +kernel
theorem dX2_init_33 : decode cX2_init 33 = .ok (.putfield 21, 3) := by decide +kernel
theorem dX2_init_36 : decode cX2_init 36 = .ok (.aload_n 0, 1) := by decide +kernel
theorem dX2_init_37 : decode cX2_init 37 = .ok (.bipush 80, 2) := by decide +kernel
theorem dX2_init_39 : decode cX2_init 39 = .ok (.newarray .int, 2) := by decide +kernel
theorem dX2_init_41 : decode cX2_init 41 = .ok (.putfield 24, 3) := by decide +kernel
theorem dX2_init_44 : decode cX2_init 44 = .ok (.aload_n 0, 1) := by decide +kernel
theorem dX2_init_45 : decode cX2_init 45 = .ok (.bipush 80, 2) := by decide +kernel
theorem dX2_init_47 : decode cX2_init 47 = .ok (.newarray .int, 2) := by decide +kernel
theorem dX2_init_49 : decode cX2_init 49 = .ok (.putfield 27, 3) := by decide +kernel
theorem dX2_init_52 : decode cX2_init 52 = .ok (.return_, 1) := by decide +kernel
set_option maxRecDepth 20000 in
theorem ggX2_run_X2_add : GoodIn wsX2_run wsX2_add := goodIn_r _ [11, 6, 1, 12, 13, 14, 15, 16, 70, 71, 72, 73, 74, 75, 76, 77] (by decide +kernel) (by decide +kernel)
set_option maxRecDepth 20000 in
theorem gX2_run_X2_add : GoodIn wsX2_run (wsV RX2 46 RX2 yX2_add wsX2_add) := goodIn_app (goodIn_of _ (by decide +kernel)) ggX2_run_X2_add
set_option maxRecDepth 20000 in
theorem ggX2_run_X0_part : GoodIn wsX2_run wsX0_part := goodIn_r _ [21, 22, 80, 81, 82, 83] (by decide +kernel) (by decide +kernel)
set_option maxRecDepth 20000 in
theorem gX2_run_X0_part : GoodIn wsX2_run (wsV RX2 53 RX0 yX0_part wsX0_part) := goodIn_app (goodIn_of _ (by decide +kernel)) ggX2_run_X0_part
set_option maxRecDepth 20000 in
theorem ggX2_run_X2_lookAhead : GoodIn wsX2_run wsX2_lookAhead := goodIn_r _ [26, 12, 13, 1, 2, 17, 18, 19, 20, 21, 22, 27, 28, 29, 30, 31, 32, 33, 34, 35, 36, 37, 38, 39, 40, 41, 42, 43, 44, 45, 46, 47, 48, 49, 50, 51, 52, 53, 54, 55, 56, 57, 58, 10, 59, 60, 61, 62, 63, 6, 64, 65, 66, 67, 68, 69, 7, 8, 9, 11, 14, 15, 16, 70, 71, 72, 73, 74, 75, 76, 77, 80, 81, 82, 83] (by decide +kernel) (by decide +kernel)
set_option maxRecDepth 20000 in
theorem gX2_run_X2_lookAhead : GoodIn wsX2_run (wsV RX2 57 RX2 yX2_lookAhead wsX2_lookAhead) := goodIn_app (goodIn_of _ (by decide +kernel)) ggX2_run_X2_lookAhead
theorem dX2_run_0 : decode cX2_run 0 = .ok (.aload_n 0, 1) := by decide +kernel
theorem dX2_run_1 : decode cX2_run 1 = .ok (.iconst 0, 1) := by decide +kernel
theorem dX2_run_2 : decode cX2_run 2 = .ok (.putfield 30, 3) := by decide +kernel
theorem dX2_run_5 : decode cX2_run 5 = .ok (.aload_n 0, 1) := by decide +kernel
theorem dX2_run_6 : decode cX2_run 6 = .ok (.iconst 0, 1) := by decide +kernel
theorem dX2_run_7 : decode cX2_run 7 = .ok (.putfield 34, 3) := by decide +kernel
theorem dX2_run_10 : decode cX2_run 10 = .ok (.aload_n 0, 1) := by decide +kernel
theorem dX2_run_11 : decode cX2_run 11 = .ok (.aload_n 2, 1) := by decide +kernel
theorem dX2_run_12 : decode cX2_run 12 = .ok (.getfield 38, 3) := by decide +kernel
theorem dX2_run_15 : decode cX2_run 15 = .ok (.aload_n 2, 1) := by decide +kernel
theorem dX2_run_16 : decode cX2_run 16 = .ok (.getfield 43, 3) := by decide +kernel
theorem dX2_run_19 : decode cX2_run 19 = .ok (.iconst 0, 1) := by decide +kernel
theorem dX2_run_20 : decode cX2_run 20 = .ok (.iaload, 1) := by decide +kernel
theorem dX2_run_21 : decode cX2_run 21 = .ok (.aload_n 2, 1) := by decide +kernel
theorem dX2_run_22 : decode cX2_run 22 = .ok (.getfield 43, 3) := by decide +kernel
theorem dX2_run_25 : decode cX2_run 25 = .ok (.iconst 1, 1) := by decide +kernel
theorem dX2_run_26 : decode cX2_run 26 = .ok (.iaload, 1) := by decide +kernel
theorem dX2_run_27 : decode cX2_run 27 = .ok (.bipush (-2), 2) := by decide +kernel
theorem dX2_run_29 : decode cX2_run 29 = .ok (.bipush (-2), 2) := by decide +kernel
theorem dX2_run_31 : decode cX2_run 31 = .ok (.invokevirtual 46, 3) := by decide +kernel
theorem dX2_run_34 : decode cX2_run 34 = .ok (.iconst 0, 1) := by decide +kernel
theorem dX2_run_35 : decode cX2_run 35 = .ok (.istore_n 3, 1) := by decide +kernel
theorem dX2_run_36 : decode cX2_run 36 = .ok (.iload_n 3, 1) := by decide +kernel
theorem dX2_run_37 : decode cX2_run 37 = .ok (.bipush 80, 2) := by decide +kernel
theorem dX2_run_39 : decode cX2_run 39 = .ok (.if_icmp .ge 73, 3) := by decide +kernel
theorem dX2_run_42 : decode cX2_run 42 = .ok (.iload_n 3, 1) := by decide +kernel
theorem dX2_run_43 : decode cX2_run 43 = .ok (.aload_n 0, 1) := by decide +kernel
theorem dX2_run_44 : decode cX2_run 44 = .ok (.getfield 30, 3) := by decide +kernel
theorem dX2_run_47 : decode cX2_run 47 = .ok (.if_icmp .ge 65, 3) := by decide +kernel
theorem dX2_run_50 : decode cX2_run 50 = .ok (.aload_n 0, 1) := by decide +kernel
theorem dX2_run_51 : decode cX2_run 51 = .ok (.getfield 34, 3) := by decide +kernel
theorem dX2_run_54 : decode cX2_run 54 = .ok (.ifCond .ne 58, 3) := by decide +kernel
theorem dX2_run_57 : decode cX2_run 57 = .ok (.iconst 0, 1) := by decide +kernel
theorem dX2_run_58 : decode cX2_run 58 = .ok (.istore 4, 2) := by decide +kernel
theorem dX2_run_60 : decode cX2_run 60 = .ok (.iload 4, 2) := by decide +kernel
theorem dX2_run_62 : decode cX2_run 62 = .ok (.aload_n 1, 1) := by decide +kernel
theorem dX2_run_63 : decode cX2_run 63 = .ok (.getfield 50, 3) := by decide +kernel
theorem dX2_run_66 : decode cX2_run 66 = .ok (.if_icmp .ge 40, 3) := by decide +kernel
theorem dX2_run_69 : decode cX2_run 69 = .ok (.aload_n 0, 1) := by decide +kernel
theorem dX2_run_70 : decode cX2_run 70 = .ok (.getfield 34, 3) := by decide +kernel
theorem dX2_run_73 : decode cX2_run 73 = .ok (.ifCond .ne 33, 3) := by decide +kernel
theorem dX2_run_76 : decode cX2_run 76 = .ok (.aload_n 1, 1) := by decide +kernel
theorem dX2_run_77 : decode cX2_run 77 = .ok (.iload 4, 2) := by decide +kernel
theorem dX2_run_79 : decode cX2_run 79 = .ok (.iconst 4, 1) := by decide +kernel
theorem dX2_run_80 : decode cX2_run 80 = .ok (.invokevirtual 53, 3) := by decide +kernel
theorem dX2_run_83 : decode cX2_run 83 = .ok (.aload_n 0, 1) := by decide +kernel
theorem dX2_run_84 : decode cX2_run 84 = .ok (.getfield 15, 3) := by decide +kernel
theorem dX2_run_87 : decode cX2_run 87 = .ok (.iload_n 3, 1) := by decide +kernel
theorem dX2_run_88 : decode cX2_run 88 = .ok (.iaload, 1) := by decide +kernel
theorem dX2_run_89 : decode cX2_run 89 = .ok (.if_icmp .ne 11, 3) := by decide +kernel
theorem dX2_run_92 : decode cX2_run 92 = .ok (.aload_n 0, 1) := by decide +kernel
theorem dX2_run_93 : decode cX2_run 93 = .ok (.aload_n 1, 1) := by decide +kernel
theorem dX2_run_94 : decode cX2_run 94 = .ok (.iload 4, 2) := by decide +kernel
theorem dX2_run_96 : decode cX2_run 96 = .ok (.iload_n 3, 1) := by decide +kernel
theorem dX2_run_97 : decode cX2_run 97 = .ok (.invokevirtual 57, 3) := by decide +kernel
theorem dX2_run_100 : decode cX2_run 100 = .ok (.iinc 4 1, 3) := by decide +kernel
theorem dX2_run_103 : decode cX2_run 103 = .ok (.goto (-43), 3) := by decide +kernel
theorem dX2_run_106 : decode cX2_run 106 = .ok (.iinc 3 1, 3) := by decide +kernel
theorem dX2_run_109 : decode cX2_run 109 = .ok (.goto (-73), 3) := by decide +kernel
theorem dX2_run_112 : decode cX2_run 112 = .ok (.return_, 1) := by decide +kernel
set_option maxRecDepth 20000 in
theorem ggX2_lookAhead_X0_part : GoodIn wsX2_lookAhead wsX0_part := goodIn_r _ [9, 10, 71, 72, 73, 74] (by decide +kernel) (by decide +kernel)
set_option maxRecDepth 20000 in
theorem gX2_lookAhead_X0_part : GoodIn wsX2_lookAhead (wsV RX2 53 RX0 yX0_part wsX0_part) := goodIn_app (goodIn_of _ (by decide +kernel)) ggX2_lookAhead_X0_part
set_option maxRecDepth 20000 in
theorem ggX2_lookAhead_X0_wordAhead : GoodIn wsX2_lookAhead wsX0_wordAhead := goodIn_r _ [14, 15, 16, 6, 7, 8, 9, 10, 17, 18, 19, 20, 21, 22, 23, 24, 25, 26, 27, 28, 29, 30, 31, 32, 33, 34, 35, 36, 37, 38, 39, 71, 72, 73, 74] (by decide +kernel) (by decide +kernel)
set_option maxRecDepth 20000 in
theorem gX2_lookAhead_X0_wordAhead : GoodIn wsX2_lookAhead (wsV RX2 61 RX0 yX0_wordAhead wsX0_wordAhead) := goodIn_app (goodIn_of _ (by decide +kernel)) ggX2_lookAhead_X0_wordAhead
set_option maxRecDepth 20000 in
theorem ggX2_lookAhead_X2_firstBelow : GoodIn wsX2_lookAhead wsX2_firstBelow := goodIn_r _ [44, 3, 45, 46, 47, 43, 48, 49, 1, 2, 50, 51, 19, 52, 63, 64, 65, 66, 67, 68, 69, 70] (by decide +kernel) (by decide +kernel)
set_option maxRecDepth 20000 in
theorem gX2_lookAhead_X2_firstBelow : GoodIn wsX2_lookAhead (wsV RX2 64 RX2 yX2_firstBelow wsX2_firstBelow) := goodIn_app (goodIn_of _ (by decide +kernel)) ggX2_lookAhead_X2_firstBelow
set_option maxRecDepth 20000 in
theorem ggX2_lookAhead_X6_isLonger : GoodIn wsX2_lookAhead wsX6_isLonger := goodIn_r _ [55] (by decide +kernel) (by decide +kernel)
set_option maxRecDepth 20000 in
theorem gX2_lookAhead_X6_isLonger : GoodIn wsX2_lookAhead (va_wsS RX2 68 yX6_isLonger wsX6_isLonger) := goodIn_app (goodIn_of _ (by decide +kernel)) ggX2_lookAhead_X6_isLonger
set_option maxRecDepth 20000 in
theorem ggX2_lookAhead_X2_add : GoodIn wsX2_lookAhead wsX2_add := goodIn_r _ [59, 49, 3, 1, 2, 60, 61, 62, 63, 64, 65, 66, 67, 68, 69, 70] (by decide +kernel) (by decide +kernel)
set_option maxRecDepth 20000 in
theorem gX2_lookAhead_X2_add : GoodIn wsX2_lookAhead (wsV RX2 46 RX2 yX2_add wsX2_add) := goodIn_app (goodIn_of _ (by decide +kernel)) ggX2_lookAhead_X2_add
theorem dX2_lookAhead_0 : decode cX2_lookAhead 0 = .ok (.aload_n 1, 1) := by decide +kernel
theorem dX2_lookAhead_1 : decode cX2_lookAhead 1 = .ok (.iload_n 2, 1) := by decide +kernel
theorem dX2_lookAhead_2 : decode cX2_lookAhead 2 = .ok (.iconst 0, 1) := by decide +kernel
theorem dX2_lookAhead_3 : decode cX2_lookAhead 3 = .ok (.invokevirtual 53, 3) := by decide +kernel
theorem dX2_lookAhead_6 : decode cX2_lookAhead 6 = .ok (.istore 4, 2) := by decide +kernel
theorem dX2_lookAhead_8 : decode cX2_lookAhead 8 = .ok (.aload_n 1, 1) := by decide +kernel
theorem dX2_lookAhead_9 : decode cX2_lookAhead 9 = .ok (.iload_n 2, 1) := by decide +kernel
theorem dX2_lookAhead_10 : decode cX2_lookAhead 10 = .ok (.iconst 2, 1) := by decide +kernel
theorem dX2_lookAhead_11 : decode cX2_lookAhead 11 = .ok (.invokevirtual 53, 3) := by decide +kernel
theorem dX2_lookAhead_14 : decode cX2_lookAhead 14 = .ok (.istore 5, 2) := by decide +kernel
theorem dX2_lookAhead_16 : decode cX2_lookAhead 16 = .ok (.iload 5, 2) := by decide +kernel
theorem dX2_lookAhead_18 : decode cX2_lookAhead 18 = .ok (.ifCond .ne 17, 3) := by decide +kernel
theorem dX2_lookAhead_21 : decode cX2_lookAhead 21 = .ok (.aload_n 1, 1) := by decide +kernel
theorem dX2_lookAhead_22 : decode cX2_lookAhead 22 = .ok (.iload_n 2, 1) := by decide +kernel
theorem dX2_lookAhead_23 : decode cX2_lookAhead 23 = .ok (.aload_n 0, 1) := by decide +kernel
theorem dX2_lookAhead_24 : decode cX2_lookAhead 24 = .ok (.getfield 18, 3) := by decide +kernel
theorem dX2_lookAhead_27 : decode cX2_lookAhead 27 = .ok (.iload_n 3, 1) := by decide +kernel
theorem dX2_lookAhead_28 : decode cX2_lookAhead 28 = .ok (.iaload, 1) := by decide +kernel
theorem dX2_lookAhead_29 : decode cX2_lookAhead 29 = .ok (.invokevirtual 61, 3) := by decide +kernel
theorem dX2_lookAhead_32 : decode cX2_lookAhead 32 = .ok (.goto 9, 3) := by decide +kernel
theorem dX2_lookAhead_35 : decode cX2_lookAhead 35 = .ok (.aload_n 0, 1) := by decide +kernel
theorem dX2_lookAhead_36 : decode cX2_lookAhead 36 = .ok (.getfield 18, 3) := by decide +kernel
theorem dX2_lookAhead_39 : decode cX2_lookAhead 39 = .ok (.iload_n 3, 1) := by decide +kernel
theorem dX2_lookAhead_40 : decode cX2_lookAhead 40 = .ok (.iaload, 1) := by decide +kernel
theorem dX2_lookAhead_41 : decode cX2_lookAhead 41 = .ok (.istore 6, 2) := by decide +kernel
theorem dX2_lookAhead_43 : decode cX2_lookAhead 43 = .ok (.iload 5, 2) := by decide +kernel
theorem dX2_lookAhead_45 : decode cX2_lookAhead 45 = .ok (.iconst 1, 1) := by decide +kernel
theorem dX2_lookAhead_46 : decode cX2_lookAhead 46 = .ok (.if_icmp .ne 17, 3) := by decide +kernel
theorem dX2_lookAhead_49 : decode cX2_lookAhead 49 = .ok (.aload_n 1, 1) := by decide +kernel
theorem dX2_lookAhead_50 : decode cX2_lookAhead 50 = .ok (.iload_n 2, 1) := by decide +kernel
theorem dX2_lookAhead_51 : decode cX2_lookAhead 51 = .ok (.aload_n 0, 1) := by decide +kernel
theorem dX2_lookAhead_52 : decode cX2_lookAhead 52 = .ok (.getfield 21, 3) := by decide +kernel
theorem dX2_lookAhead_55 : decode cX2_lookAhead 55 = .ok (.iload_n 3, 1) := by decide +kernel
theorem dX2_lookAhead_56 : decode cX2_lookAhead 56 = .ok (.iaload, 1) := by decide +kernel
theorem dX2_lookAhead_57 : decode cX2_lookAhead 57 = .ok (.invokevirtual 61, 3) := by decide +kernel
theorem dX2_lookAhead_60 : decode cX2_lookAhead 60 = .ok (.goto 9, 3) := by decide +kernel
theorem dX2_lookAhead_63 : decode cX2_lookAhead 63 = .ok (.aload_n 0, 1) := by decide +kernel
theorem dX2_lookAhead_64 : decode cX2_lookAhead 64 = .ok (.getfield 21, 3) := by decide +kernel
theorem dX2_lookAhead_67 : decode cX2_lookAhead 67 = .ok (.iload_n 3, 1) := by decide +kernel
theorem dX2_lookAhead_68 : decode cX2_lookAhead 68 = .ok (.iaload, 1) := by decide +kernel
theorem dX2_lookAhead_69 : decode cX2_lookAhead 69 = .ok (.istore 7, 2) := by decide +kernel
theorem dX2_lookAhead_71 : decode cX2_lookAhead 71 = .ok (.aload_n 0, 1) := by decide +kernel
theorem dX2_lookAhead_72 : decode cX2_lookAhead 72 = .ok (.iload 4, 2) := by decide +kernel
theorem dX2_lookAhead_74 : decode cX2_lookAhead 74 = .ok (.iload 6, 2) := by decide +kernel
theorem dX2_lookAhead_76 : decode cX2_lookAhead 76 = .ok (.iload 7, 2) := by decide +kernel
theorem dX2_lookAhead_78 : decode cX2_lookAhead 78 = .ok (.invokevirtual 64, 3) := by decide +kernel
theorem dX2_lookAhead_81 : decode cX2_lookAhead 81 = .ok (.ifCond .lt 4, 3) := by decide +kernel
theorem dX2_lookAhead_84 : decode cX2_lookAhead 84 = .ok (.return_, 1) := by decide +kernel
theorem dX2_lookAhead_85 : decode cX2_lookAhead 85 = .ok (.aload_n 0, 1) := by decide +kernel
theorem dX2_lookAhead_86 : decode cX2_lookAhead 86 = .ok (.getfield 30, 3) := by decide +kernel
theorem dX2_lookAhead_89 : decode cX2_lookAhead 89 = .ok (.bipush 80, 2) := by decide +kernel
theorem dX2_lookAhead_91 : decode cX2_lookAhead 91 = .ok (.if_icmp .ge 23, 3) := by decide +kernel
theorem dX2_lookAhead_94 : decode cX2_lookAhead 94 = .ok (.iload 6, 2) := by decide +kernel
theorem dX2_lookAhead_96 : decode cX2_lookAhead 96 = .ok (.bipush 10, 2) := by decide +kernel
theorem dX2_lookAhead_98 : decode cX2_lookAhead 98 = .ok (.invokestatic 68, 3) := by decide +kernel
theorem dX2_lookAhead_101 : decode cX2_lookAhead 101 = .ok (.ifCond .ne 13, 3) := by decide +kernel
theorem dX2_lookAhead_104 : decode cX2_lookAhead 104 = .ok (.iload 7, 2) := by decide +kernel
theorem dX2_lookAhead_106 : decode cX2_lookAhead 106 = .ok (.bipush 10, 2) := by decide +kernel
theorem dX2_lookAhead_108 : decode cX2_lookAhead 108 = .ok (.invokestatic 68, 3) := by decide +kernel
theorem dX2_lookAhead_111 : decode cX2_lookAhead 111 = .ok (.ifCond .eq 9, 3) := by decide +kernel
theorem dX2_lookAhead_114 : decode cX2_lookAhead 114 = .ok (.aload_n 0, 1) := by decide +kernel
theorem dX2_lookAhead_115 : decode cX2_lookAhead 115 = .ok (.iconst 1, 1) := by decide +kernel
theorem dX2_lookAhead_116 : decode cX2_lookAhead 116 = .ok (.putfield 34, 3) := by decide +kernel
theorem dX2_lookAhead_119 : decode cX2_lookAhead 119 = .ok (.return_, 1) := by decide +kernel
theorem dX2_lookAhead_120 : decode cX2_lookAhead 120 = .ok (.aload_n 0, 1) := by decide +kernel
theorem dX2_lookAhead_121 : decode cX2_lookAhead 121 = .ok (.iload 4, 2) := by decide +kernel
theorem dX2_lookAhead_123 : decode cX2_lookAhead 123 = .ok (.iload 6, 2) := by decide +kernel
theorem dX2_lookAhead_125 : decode cX2_lookAhead 125 = .ok (.iload 7, 2) := by decide +kernel
theorem dX2_lookAhead_127 : decode cX2_lookAhead 127 = .ok (.iload_n 2, 1) := by decide +kernel
theorem dX2_lookAhead_128 : decode cX2_lookAhead 128 = .ok (.iload_n 3, 1) := by decide +kernel
theorem dX2_lookAhead_129 : decode cX2_lookAhead 129 = .ok (.invokevirtual 46, 3) := by decide +kernel
theorem dX2_lookAhead_132 : decode cX2_lookAhead 132 = .ok (.return_, 1) := by decide +kernel
theorem dX2_add_0 : decode cX2_add 0 = .ok (.aload_n 0, 1) := by decide +kernel
theorem dX2_add_1 : decode cX2_add 1 = .ok (.getfield 15, 3) := by decide +kernel
theorem dX2_add_4 : decode cX2_add 4 = .ok (.aload_n 0, 1) := by decide +kernel
theorem dX2_add_5 : decode cX2_add 5 = .ok (.getfield 30, 3) := by decide +kernel
theorem dX2_add_8 : decode cX2_add 8 = .ok (.iload_n 1, 1) := by decide +kernel
theorem dX2_add_9 : decode cX2_add 9 = .ok (.iastore, 1) := by decide +kernel
theorem dX2_add_10 : decode cX2_add 10 = .ok (.aload_n 0, 1) := by decide +kernel
theorem dX2_add_11 : decode cX2_add 11 = .ok (.getfield 18, 3) := by decide +kernel
theorem dX2_add_14 : decode cX2_add 14 = .ok (.aload_n 0, 1) := by decide +kernel
theorem dX2_add_15 : decode cX2_add 15 = .ok (.getfield 30, 3) := by decide +kernel
theorem dX2_add_18 : decode cX2_add 18 = .ok (.iload_n 2, 1) := by decide +kernel
theorem dX2_add_19 : decode cX2_add 19 = .ok (.iastore, 1) := by decide +kernel
theorem dX2_add_20 : decode cX2_add 20 = .ok (.aload_n 0, 1) := by decide +kernel
theorem dX2_add_21 : decode cX2_add 21 = .ok (.getfield 21, 3) := by decide +kernel
theorem dX2_add_24 : decode cX2_add 24 = .ok (.aload_n 0, 1) := by decide +kernel
theorem dX2_add_25 : decode cX2_add 25 = .ok (.getfield 30, 3) := by decide +kernel
theorem dX2_add_28 : decode cX2_add 28 = .ok (.iload_n 3, 1) := by decide +kernel
theorem dX2_add_29 : decode cX2_add 29 = .ok (.iastore, 1) := by decide +kernel
theorem dX2_add_30 : decode cX2_add 30 = .ok (.aload_n 0, 1) := by decide +kernel
theorem dX2_add_31 : decode cX2_add 31 = .ok (.getfield 24, 3) := by decide +kernel
theorem dX2_add_34 : decode cX2_add 34 = .ok (.aload_n 0, 1) := by decide +kernel
theorem dX2_add_35 : decode cX2_add 35 = .ok (.getfield 30, 3) := by decide +kernel
theorem dX2_add_38 : decode cX2_add 38 = .ok (.iload 4, 2) := by decide +kernel
theorem dX2_add_40 : decode cX2_add 40 = .ok (.iastore, 1) := by decide +kernel
theorem dX2_add_41 : decode cX2_add 41 = .ok (.aload_n 0, 1) := by decide +kernel
theorem dX2_add_42 : decode cX2_add 42 = .ok (.getfield 27, 3) := by decide +kernel
theorem dX2_add_45 : decode cX2_add 45 = .ok (.aload_n 0, 1) := by decide +kernel
theorem dX2_add_46 : decode cX2_add 46 = .ok (.getfield 30, 3) := by decide +kernel
theorem dX2_add_49 : decode cX2_add 49 = .ok (.iload 5, 2) := by decide +kernel
theorem dX2_add_51 : decode cX2_add 51 = .ok (.iastore, 1) := by decide +kernel
theorem dX2_add_52 : decode cX2_add 52 = .ok (.aload_n 0, 1) := by decide +kernel
theorem dX2_add_53 : decode cX2_add 53 = .ok (.getfield 9, 3) := by decide +kernel
theorem dX2_add_56 : decode cX2_add 56 = .ok (.aload_n 0, 1) := by decide +kernel
theorem dX2_add_57 : decode cX2_add 57 = .ok (.getfield 30, 3) := by decide +kernel
theorem dX2_add_60 : decode cX2_add 60 = .ok (.iload 5, 2) := by decide +kernel
theorem dX2_add_62 : decode cX2_add 62 = .ok (.ifCond .ge 7, 3) := by decide +kernel
theorem dX2_add_65 : decode cX2_add 65 = .ok (.iconst 0, 1) := by decide +kernel
theorem dX2_add_66 : decode cX2_add 66 = .ok (.goto 12, 3) := by decide +kernel
theorem dX2_add_69 : decode cX2_add 69 = .ok (.aload_n 0, 1) := by decide +kernel
theorem dX2_add_70 : decode cX2_add 70 = .ok (.getfield 9, 3) := by decide +kernel
theorem dX2_add_73 : decode cX2_add 73 = .ok (.iload 5, 2) := by decide +kernel
theorem dX2_add_75 : decode cX2_add 75 = .ok (.iaload, 1) := by decide +kernel
theorem dX2_add_76 : decode cX2_add 76 = .ok (.iconst 1, 1) := by decide +kernel
theorem dX2_add_77 : decode cX2_add 77 = .ok (.iadd, 1) := by decide +kernel
theorem dX2_add_78 : decode cX2_add 78 = .ok (.iastore, 1) := by decide +kernel
theorem dX2_add_79 : decode cX2_add 79 = .ok (.aload_n 0, 1) := by decide +kernel
theorem dX2_add_80 : decode cX2_add 80 = .ok (.dup, 1) := by decide +kernel
theorem dX2_add_81 : decode cX2_add 81 = .ok (.getfield 30, 3) := by decide +kernel
theorem dX2_add_84 : decode cX2_add 84 = .ok (.iconst 1, 1) := by decide +kernel
theorem dX2_add_85 : decode cX2_add 85 = .ok (.iadd, 1) := by decide +kernel
theorem dX2_add_86 : decode cX2_add 86 = .ok (.putfield 30, 3) := by decide +kernel
theorem dX2_add_89 : decode cX2_add 89 = .ok (.return_, 1) := by decide +kernel
set_option maxRecDepth 20000 in
theorem ggX2_firstBelow_X2_isBelowPlace : GoodIn wsX2_firstBelow wsX2_isBelowPlace := goodIn_r _ [6, 7, 8, 9, 10, 11, 12, 13, 14, 15, 16, 17, 18, 19, 20, 21] (by decide +kernel) (by decide +kernel)
set_option maxRecDepth 20000 in
theorem gX2_firstBelow_X2_isBelowPlace : GoodIn wsX2_firstBelow (wsV RX2 74 RX2 yX2_isBelowPlace wsX2_isBelowPlace) := goodIn_app (goodIn_of _ (by decide +kernel)) ggX2_firstBelow_X2_isBelowPlace
theorem dX2_firstBelow_0 : decode cX2_firstBelow 0 = .ok (.iconst 0, 1) := by decide +kernel
theorem dX2_firstBelow_1 : decode cX2_firstBelow 1 = .ok (.istore 4, 2) := by decide +kernel
theorem dX2_firstBelow_3 : decode cX2_firstBelow 3 = .ok (.iload 4, 2) := by decide +kernel
theorem dX2_firstBelow_5 : decode cX2_firstBelow 5 = .ok (.aload_n 0, 1) := by decide +kernel
theorem dX2_firstBelow_6 : decode cX2_firstBelow 6 = .ok (.getfield 30, 3) := by decide +kernel
theorem dX2_firstBelow_9 : decode cX2_firstBelow 9 = .ok (.if_icmp .ge 24, 3) := by decide +kernel
theorem dX2_firstBelow_12 : decode cX2_firstBelow 12 = .ok (.aload_n 0, 1) := by decide +kernel
theorem dX2_firstBelow_13 : decode cX2_firstBelow 13 = .ok (.iload 4, 2) := by decide +kernel
theorem dX2_firstBelow_15 : decode cX2_firstBelow 15 = .ok (.iload_n 1, 1) := by decide +kernel
theorem dX2_firstBelow_16 : decode cX2_firstBelow 16 = .ok (.iload_n 2, 1) := by decide +kernel
theorem dX2_firstBelow_17 : decode cX2_firstBelow 17 = .ok (.iload_n 3, 1) := by decide +kernel
theorem dX2_firstBelow_18 : decode cX2_firstBelow 18 = .ok (.invokevirtual 74, 3) := by decide +kernel
theorem dX2_firstBelow_21 : decode cX2_firstBelow 21 = .ok (.ifCond .eq 6, 3) := by decide +kernel
theorem dX2_firstBelow_24 : decode cX2_firstBelow 24 = .ok (.iload 4, 2) := by decide +kernel
theorem dX2_firstBelow_26 : decode cX2_firstBelow 26 = .ok (.ireturn, 1) := by decide +kernel
theorem dX2_firstBelow_27 : decode cX2_firstBelow 27 = .ok (.iinc 4 1, 3) := by decide +kernel
theorem dX2_firstBelow_30 : decode cX2_firstBelow 30 = .ok (.goto (-27), 3) := by decide +kernel
theorem dX2_firstBelow_33 : decode cX2_firstBelow 33 = .ok (.iconst (-1), 1) := by decide +kernel
theorem dX2_firstBelow_34 : decode cX2_firstBelow 34 = .ok (.ireturn, 1) := by decide +kernel
set_option maxRecDepth 20000 in
theorem ggX2_isBelowPlace_X6_isIn : GoodIn wsX2_isBelowPlace wsX6_isIn := goodIn_r _ [7] (by decide +kernel) (by decide +kernel)
set_option maxRecDepth 20000 in
theorem gX2_isBelowPlace_X6_isIn : GoodIn wsX2_isBelowPlace (va_wsS RX2 78 yX6_isIn wsX6_isIn) := goodIn_app (goodIn_of _ (by decide +kernel)) ggX2_isBelowPlace_X6_isIn
theorem dX2_isBelowPlace_0 : decode cX2_isBelowPlace 0 = .ok (.aload_n 0, 1) := by decide +kernel
theorem dX2_isBelowPlace_1 : decode cX2_isBelowPlace 1 = .ok (.getfield 15, 3) := by decide +kernel
theorem dX2_isBelowPlace_4 : decode cX2_isBelowPlace 4 = .ok (.iload_n 1, 1) := by decide +kernel
theorem dX2_isBelowPlace_5 : decode cX2_isBelowPlace 5 = .ok (.iaload, 1) := by decide +kernel
theorem dX2_isBelowPlace_6 : decode cX2_isBelowPlace 6 = .ok (.iload_n 2, 1) := by decide +kernel
theorem dX2_isBelowPlace_7 : decode cX2_isBelowPlace 7 = .ok (.if_icmp .ne 34, 3) := by decide +kernel
theorem dX2_isBelowPlace_10 : decode cX2_isBelowPlace 10 = .ok (.aload_n 0, 1) := by decide +kernel
theorem dX2_isBelowPlace_11 : decode cX2_isBelowPlace 11 = .ok (.getfield 18, 3) := by decide +kernel
theorem dX2_isBelowPlace_14 : decode cX2_isBelowPlace 14 = .ok (.iload_n 1, 1) := by decide +kernel
theorem dX2_isBelowPlace_15 : decode cX2_isBelowPlace 15 = .ok (.iaload, 1) := by decide +kernel
theorem dX2_isBelowPlace_16 : decode cX2_isBelowPlace 16 = .ok (.iload_n 3, 1) := by decide +kernel
theorem dX2_isBelowPlace_17 : decode cX2_isBelowPlace 17 = .ok (.invokestatic 78, 3) := by decide +kernel
theorem dX2_isBelowPlace_20 : decode cX2_isBelowPlace 20 = .ok (.ifCond .eq 21, 3) := by decide +kernel
theorem dX2_isBelowPlace_23 : decode cX2_isBelowPlace 23 = .ok (.aload_n 0, 1) := by decide +kernel
theorem dX2_isBelowPlace_24 : decode cX2_isBelowPlace 24 = .ok (.getfield 21, 3) := by decide +kernel
theorem dX2_isBelowPlace_27 : decode cX2_isBelowPlace 27 = .ok (.iload_n 1, 1) := by decide +kernel
theorem dX2_isBelowPlace_28 : decode cX2_isBelowPlace 28 = .ok (.iaload, 1) := by decide +kernel
theorem dX2_isBelowPlace_29 : decode cX2_isBelowPlace 29 = .ok (.iload 4, 2) := by decide +kernel
theorem dX2_isBelowPlace_31 : decode cX2_isBelowPlace 31 = .ok (.invokestatic 78, 3) := by decide +kernel
theorem dX2_isBelowPlace_34 : decode cX2_isBelowPlace 34 = .ok (.ifCond .eq 7, 3) := by decide +kernel
theorem dX2_isBelowPlace_37 : decode cX2_isBelowPlace 37 = .ok (.iconst 1, 1) := by decide +kernel
theorem dX2_isBelowPlace_38 : decode cX2_isBelowPlace 38 = .ok (.goto 4, 3) := by decide +kernel
theorem dX2_isBelowPlace_41 : decode cX2_isBelowPlace 41 = .ok (.iconst 0, 1) := by decide +kernel
theorem dX2_isBelowPlace_42 : decode cX2_isBelowPlace 42 = .ok (.ireturn, 1) := by decide +kernel
set_option maxRecDepth 20000 in
theorem ggX2_isLeast_X2_isBelowPlace : GoodIn wsX2_isLeast wsX2_isBelowPlace := goodIn_r _ [9, 2, 3, 4, 10, 11, 12, 13, 14, 15, 16, 17, 18, 19, 20, 21] (by decide +kernel) (by decide +kernel)
set_option maxRecDepth 20000 in
theorem gX2_isLeast_X2_isBelowPlace : GoodIn wsX2_isLeast (wsV RX2 74 RX2 yX2_isBelowPlace wsX2_isBelowPlace) := goodIn_app (goodIn_of _ (by decide +kernel)) ggX2_isLeast_X2_isBelowPlace
theorem dX2_isLeast_0 : decode cX2_isLeast 0 = .ok (.iconst 0, 1) := by decide +kernel
theorem dX2_isLeast_1 : decode cX2_isLeast 1 = .ok (.istore_n 2, 1) := by decide +kernel
theorem dX2_isLeast_2 : decode cX2_isLeast 2 = .ok (.iload_n 2, 1) := by decide +kernel
theorem dX2_isLeast_3 : decode cX2_isLeast 3 = .ok (.aload_n 0, 1) := by decide +kernel
theorem dX2_isLeast_4 : decode cX2_isLeast 4 = .ok (.getfield 30, 3) := by decide +kernel
theorem dX2_isLeast_7 : decode cX2_isLeast 7 = .ok (.if_icmp .ge 42, 3) := by decide +kernel
theorem dX2_isLeast_10 : decode cX2_isLeast 10 = .ok (.iload_n 2, 1) := by decide +kernel
theorem dX2_isLeast_11 : decode cX2_isLeast 11 = .ok (.iload_n 1, 1) := by decide +kernel
theorem dX2_isLeast_12 : decode cX2_isLeast 12 = .ok (.if_icmp .eq 31, 3) := by decide +kernel
theorem dX2_isLeast_15 : decode cX2_isLeast 15 = .ok (.aload_n 0, 1) := by decide +kernel
theorem dX2_isLeast_16 : decode cX2_isLeast 16 = .ok (.iload_n 2, 1) := by decide +kernel
theorem dX2_isLeast_17 : decode cX2_isLeast 17 = .ok (.aload_n 0, 1) := by decide +kernel
theorem dX2_isLeast_18 : decode cX2_isLeast 18 = .ok (.getfield 15, 3) := by decide +kernel
theorem dX2_isLeast_21 : decode cX2_isLeast 21 = .ok (.iload_n 1, 1) := by decide +kernel
theorem dX2_isLeast_22 : decode cX2_isLeast 22 = .ok (.iaload, 1) := by decide +kernel
theorem dX2_isLeast_23 : decode cX2_isLeast 23 = .ok (.aload_n 0, 1) := by decide +kernel
theorem dX2_isLeast_24 : decode cX2_isLeast 24 = .ok (.getfield 18, 3) := by decide +kernel
theorem dX2_isLeast_27 : decode cX2_isLeast 27 = .ok (.iload_n 1, 1) := by decide +kernel
theorem dX2_isLeast_28 : decode cX2_isLeast 28 = .ok (.iaload, 1) := by decide +kernel
theorem dX2_isLeast_29 : decode cX2_isLeast 29 = .ok (.aload_n 0, 1) := by decide +kernel
theorem dX2_isLeast_30 : decode cX2_isLeast 30 = .ok (.getfield 21, 3) := by decide +kernel
theorem dX2_isLeast_33 : decode cX2_isLeast 33 = .ok (.iload_n 1, 1) := by decide +kernel
theorem dX2_isLeast_34 : decode cX2_isLeast 34 = .ok (.iaload, 1) := by decide +kernel
theorem dX2_isLeast_35 : decode cX2_isLeast 35 = .ok (.invokevirtual 74, 3) := by decide +kernel
theorem dX2_isLeast_38 : decode cX2_isLeast 38 = .ok (.ifCond .eq 5, 3) := by decide +kernel
theorem dX2_isLeast_41 : decode cX2_isLeast 41 = .ok (.iconst 0, 1) := by decide +kernel
theorem dX2_isLeast_42 : decode cX2_isLeast 42 = .ok (.ireturn, 1) := by decide +kernel
theorem dX2_isLeast_43 : decode cX2_isLeast 43 = .ok (.iinc 2 1, 3) := by decide +kernel
theorem dX2_isLeast_46 : decode cX2_isLeast 46 = .ok (.goto (-44), 3) := by decide +kernel
theorem dX2_isLeast_49 : decode cX2_isLeast 49 = .ok (.iconst 1, 1) := by decide +kernel
theorem dX2_isLeast_50 : decode cX2_isLeast 50 = .ok (.ireturn, 1) := by decide +kernel
set_option maxRecDepth 20000 in
theorem ggX2_countLeast_X2_isLeast : GoodIn wsX2_countLeast wsX2_isLeast := goodIn_r _ [6, 1, 7, 8, 9, 10, 11, 12, 5, 13, 14, 15, 16, 17, 18, 19, 20, 21, 22, 23, 24, 25] (by decide +kernel) (by decide +kernel)
set_option maxRecDepth 20000 in
theorem gX2_countLeast_X2_isLeast : GoodIn wsX2_countLeast (wsV RX2 81 RX2 yX2_isLeast wsX2_isLeast) := goodIn_app (goodIn_of _ (by decide +kernel)) ggX2_countLeast_X2_isLeast
theorem dX2_countLeast_0 : decode cX2_countLeast 0 = .ok (.iconst 0, 1) := by decide +kernel
theorem dX2_countLeast_1 : decode cX2_countLeast 1 = .ok (.istore_n 1, 1) := by decide +kernel
theorem dX2_countLeast_2 : decode cX2_countLeast 2 = .ok (.iconst 0, 1) := by decide +kernel
theorem dX2_countLeast_3 : decode cX2_countLeast 3 = .ok (.istore_n 2, 1) := by decide +kernel
theorem dX2_countLeast_4 : decode cX2_countLeast 4 = .ok (.iload_n 2, 1) := by decide +kernel
theorem dX2_countLeast_5 : decode cX2_countLeast 5 = .ok (.aload_n 0, 1) := by decide +kernel
theorem dX2_countLeast_6 : decode cX2_countLeast 6 = .ok (.getfield 30, 3) := by decide +kernel
theorem dX2_countLeast_9 : decode cX2_countLeast 9 = .ok (.if_icmp .ge 20, 3) := by decide +kernel
theorem dX2_countLeast_12 : decode cX2_countLeast 12 = .ok (.aload_n 0, 1) := by decide +kernel
theorem dX2_countLeast_13 : decode cX2_countLeast 13 = .ok (.iload_n 2, 1) := by decide +kernel
theorem dX2_countLeast_14 : decode cX2_countLeast 14 = .ok (.invokevirtual 81, 3) := by decide +kernel
theorem dX2_countLeast_17 : decode cX2_countLeast 17 = .ok (.ifCond .eq 6, 3) := by decide +kernel
theorem dX2_countLeast_20 : decode cX2_countLeast 20 = .ok (.iinc 1 1, 3) := by decide +kernel
theorem dX2_countLeast_23 : decode cX2_countLeast 23 = .ok (.iinc 2 1, 3) := by decide +kernel
theorem dX2_countLeast_26 : decode cX2_countLeast 26 = .ok (.goto (-22), 3) := by decide +kernel
theorem dX2_countLeast_29 : decode cX2_countLeast 29 = .ok (.iload_n 1, 1) := by decide +kernel
theorem dX2_countLeast_30 : decode cX2_countLeast 30 = .ok (.ireturn, 1) := by decide +kernel
theorem dX2_wordOf_0 : decode cX2_wordOf 0 = .ok (.iload_n 2, 1) := by decide +kernel
theorem dX2_wordOf_1 : decode cX2_wordOf 1 = .ok (.ifCond .ne 12, 3) := by decide +kernel
theorem dX2_wordOf_4 : decode cX2_wordOf 4 = .ok (.aload_n 0, 1) := by decide +kernel
theorem dX2_wordOf_5 : decode cX2_wordOf 5 = .ok (.getfield 18, 3) := by decide +kernel
theorem dX2_wordOf_8 : decode cX2_wordOf 8 = .ok (.iload_n 1, 1) := by decide +kernel
theorem dX2_wordOf_9 : decode cX2_wordOf 9 = .ok (.iaload, 1) := by decide +kernel
theorem dX2_wordOf_10 : decode cX2_wordOf 10 = .ok (.goto 9, 3) := by decide +kernel
theorem dX2_wordOf_13 : decode cX2_wordOf 13 = .ok (.aload_n 0, 1) := by decide +kernel
theorem dX2_wordOf_14 : decode cX2_wordOf 14 = .ok (.getfield 21, 3) := by decide +kernel
theorem dX2_wordOf_17 : decode cX2_wordOf 17 = .ok (.iload_n 1, 1) := by decide +kernel
theorem dX2_wordOf_18 : decode cX2_wordOf 18 = .ok (.iaload, 1) := by decide +kernel
theorem dX2_wordOf_19 : decode cX2_wordOf 19 = .ok (.ireturn, 1) := by decide +kernel
set_option maxRecDepth 20000 in
theorem ggX2_fact_X6_size : GoodIn wsX2_fact wsX6_size := goodIn_r _ [10] (by decide +kernel) (by decide +kernel)
set_option maxRecDepth 20000 in
theorem gX2_fact_X6_size : GoodIn wsX2_fact (va_wsS RX2 85 yX6_size wsX6_size) := goodIn_app (goodIn_of _ (by decide +kernel)) ggX2_fact_X6_size
set_option maxRecDepth 20000 in
theorem ggX2_fact_X2_isLeast : GoodIn wsX2_fact wsX2_isLeast := goodIn_r _ [15, 16, 1, 3, 4, 17, 18, 19, 14, 20, 21, 22, 9, 23, 24, 25, 26, 27, 28, 29, 30, 31] (by decide +kernel) (by decide +kernel)
set_option maxRecDepth 20000 in
theorem gX2_fact_X2_isLeast : GoodIn wsX2_fact (wsV RX2 81 RX2 yX2_isLeast wsX2_isLeast) := goodIn_app (goodIn_of _ (by decide +kernel)) ggX2_fact_X2_isLeast
theorem dX2_fact_0 : decode cX2_fact 0 = .ok (.iload_n 2, 1) := by decide +kernel
theorem dX2_fact_1 : decode cX2_fact 1 = .ok (.tableswitch 87 0 5 #[39, 46, 53, 63, 73, 80], 39) := by decide +kernel
theorem dX2_fact_40 : decode cX2_fact 40 = .ok (.aload_n 0, 1) := by decide +kernel
theorem dX2_fact_41 : decode cX2_fact 41 = .ok (.getfield 15, 3) := by decide +kernel
theorem dX2_fact_44 : decode cX2_fact 44 = .ok (.iload_n 1, 1) := by decide +kernel
theorem dX2_fact_45 : decode cX2_fact 45 = .ok (.iaload, 1) := by decide +kernel
theorem dX2_fact_46 : decode cX2_fact 46 = .ok (.ireturn, 1) := by decide +kernel
theorem dX2_fact_47 : decode cX2_fact 47 = .ok (.aload_n 0, 1) := by decide +kernel
theorem dX2_fact_48 : decode cX2_fact 48 = .ok (.getfield 9, 3) := by decide +kernel
theorem dX2_fact_51 : decode cX2_fact 51 = .ok (.iload_n 1, 1) := by decide +kernel
theorem dX2_fact_52 : decode cX2_fact 52 = .ok (.iaload, 1) := by decide +kernel
theorem dX2_fact_53 : decode cX2_fact 53 = .ok (.ireturn, 1) := by decide +kernel
theorem dX2_fact_54 : decode cX2_fact 54 = .ok (.aload_n 0, 1) := by decide +kernel
theorem dX2_fact_55 : decode cX2_fact 55 = .ok (.getfield 18, 3) := by decide +kernel
theorem dX2_fact_58 : decode cX2_fact 58 = .ok (.iload_n 1, 1) := by decide +kernel
theorem dX2_fact_59 : decode cX2_fact 59 = .ok (.iaload, 1) := by decide +kernel
theorem dX2_fact_60 : decode cX2_fact 60 = .ok (.invokestatic 85, 3) := by decide +kernel
theorem dX2_fact_63 : decode cX2_fact 63 = .ok (.ireturn, 1) := by decide +kernel
theorem dX2_fact_64 : decode cX2_fact 64 = .ok (.aload_n 0, 1) := by decide +kernel
theorem dX2_fact_65 : decode cX2_fact 65 = .ok (.getfield 21, 3) := by decide +kernel
theorem dX2_fact_68 : decode cX2_fact 68 = .ok (.iload_n 1, 1) := by decide +kernel
theorem dX2_fact_69 : decode cX2_fact 69 = .ok (.iaload, 1) := by decide +kernel
theorem dX2_fact_70 : decode cX2_fact 70 = .ok (.invokestatic 85, 3) := by decide +kernel
theorem dX2_fact_73 : decode cX2_fact 73 = .ok (.ireturn, 1) := by decide +kernel
theorem dX2_fact_74 : decode cX2_fact 74 = .ok (.aload_n 0, 1) := by decide +kernel
theorem dX2_fact_75 : decode cX2_fact 75 = .ok (.getfield 24, 3) := by decide +kernel
theorem dX2_fact_78 : decode cX2_fact 78 = .ok (.iload_n 1, 1) := by decide +kernel
theorem dX2_fact_79 : decode cX2_fact 79 = .ok (.iaload, 1) := by decide +kernel
theorem dX2_fact_80 : decode cX2_fact 80 = .ok (.ireturn, 1) := by decide +kernel
theorem dX2_fact_81 : decode cX2_fact 81 = .ok (.aload_n 0, 1) := by decide +kernel
theorem dX2_fact_82 : decode cX2_fact 82 = .ok (.getfield 27, 3) := by decide +kernel
theorem dX2_fact_85 : decode cX2_fact 85 = .ok (.iload_n 1, 1) := by decide +kernel
theorem dX2_fact_86 : decode cX2_fact 86 = .ok (.iaload, 1) := by decide +kernel
theorem dX2_fact_87 : decode cX2_fact 87 = .ok (.ireturn, 1) := by decide +kernel
theorem dX2_fact_88 : decode cX2_fact 88 = .ok (.aload_n 0, 1) := by decide +kernel
theorem dX2_fact_89 : decode cX2_fact 89 = .ok (.iload_n 1, 1) := by decide +kernel
theorem dX2_fact_90 : decode cX2_fact 90 = .ok (.invokevirtual 81, 3) := by decide +kernel
theorem dX2_fact_93 : decode cX2_fact 93 = .ok (.ifCond .eq 7, 3) := by decide +kernel
theorem dX2_fact_96 : decode cX2_fact 96 = .ok (.iconst 1, 1) := by decide +kernel
theorem dX2_fact_97 : decode cX2_fact 97 = .ok (.goto 4, 3) := by decide +kernel
theorem dX2_fact_100 : decode cX2_fact 100 = .ok (.iconst 0, 1) := by decide +kernel
theorem dX2_fact_101 : decode cX2_fact 101 = .ok (.ireturn, 1) := by decide +kernel
theorem dX2_arcOfWay_0 : decode cX2_arcOfWay 0 = .ok (.iload_n 1, 1) := by decide +kernel
theorem dX2_arcOfWay_1 : decode cX2_arcOfWay 1 = .ok (.istore_n 3, 1) := by decide +kernel
theorem dX2_arcOfWay_2 : decode cX2_arcOfWay 2 = .ok (.iconst 0, 1) := by decide +kernel
theorem dX2_arcOfWay_3 : decode cX2_arcOfWay 3 = .ok (.istore 4, 2) := by decide +kernel
theorem dX2_arcOfWay_5 : decode cX2_arcOfWay 5 = .ok (.iload 4, 2) := by decide +kernel
theorem dX2_arcOfWay_7 : decode cX2_arcOfWay 7 = .ok (.iload_n 2, 1) := by decide +kernel
theorem dX2_arcOfWay_8 : decode cX2_arcOfWay 8 = .ok (.if_icmp .ge 25, 3) := by decide +kernel
theorem dX2_arcOfWay_11 : decode cX2_arcOfWay 11 = .ok (.aload_n 0, 1) := by decide +kernel
theorem dX2_arcOfWay_12 : decode cX2_arcOfWay 12 = .ok (.getfield 27, 3) := by decide +kernel
theorem dX2_arcOfWay_15 : decode cX2_arcOfWay 15 = .ok (.iload_n 3, 1) := by decide +kernel
theorem dX2_arcOfWay_16 : decode cX2_arcOfWay 16 = .ok (.iaload, 1) := by decide +kernel
theorem dX2_arcOfWay_17 : decode cX2_arcOfWay 17 = .ok (.ifCond .lt 16, 3) := by decide +kernel
theorem dX2_arcOfWay_20 : decode cX2_arcOfWay 20 = .ok (.aload_n 0, 1) := by decide +kernel
theorem dX2_arcOfWay_21 : decode cX2_arcOfWay 21 = .ok (.getfield 27, 3) := by decide +kernel
theorem dX2_arcOfWay_24 : decode cX2_arcOfWay 24 = .ok (.iload_n 3, 1) := by decide +kernel
theorem dX2_arcOfWay_25 : decode cX2_arcOfWay 25 = .ok (.iaload, 1) := by decide +kernel
theorem dX2_arcOfWay_26 : decode cX2_arcOfWay 26 = .ok (.istore_n 3, 1) := by decide +kernel
theorem dX2_arcOfWay_27 : decode cX2_arcOfWay 27 = .ok (.iinc 4 1, 3) := by decide +kernel
theorem dX2_arcOfWay_30 : decode cX2_arcOfWay 30 = .ok (.goto (-25), 3) := by decide +kernel
theorem dX2_arcOfWay_33 : decode cX2_arcOfWay 33 = .ok (.aload_n 0, 1) := by decide +kernel
theorem dX2_arcOfWay_34 : decode cX2_arcOfWay 34 = .ok (.getfield 24, 3) := by decide +kernel
theorem dX2_arcOfWay_37 : decode cX2_arcOfWay 37 = .ok (.iload_n 3, 1) := by decide +kernel
theorem dX2_arcOfWay_38 : decode cX2_arcOfWay 38 = .ok (.iaload, 1) := by decide +kernel
theorem dX2_arcOfWay_39 : decode cX2_arcOfWay 39 = .ok (.ireturn, 1) := by decide +kernel
theorem dX3_init_0 : decode cX3_init 0 = .ok (.aload_n 0, 1) := by decide +kernel
theorem dX3_init_1 : decode cX3_init 1 = .ok (.invokespecial 3, 3) := by decide +kernel
theorem dX3_init_4 : decode cX3_init 4 = .ok (.aload_n 0, 1) := by decide +kernel
theorem dX3_init_5 : decode cX3_init 5 = .ok (.bipush 60, 2) := by decide +kernel
theorem dX3_init_7 : decode cX3_init 7 = .ok (.newarray .int, 2) := by decide +kernel
theorem dX3_init_9 : decode cX3_init 9 = .ok (.putfield 9, 3) := by decide +kernel
theorem dX3_init_12 : decode cX3_init 12 = .ok (.return_, 1) := by decide +kernel
set_option maxRecDepth 20000 in
theorem ggX3_hold_J7_fill_53178 : GoodIn wsX3_hold wsJ7_fill_53178 := goodIn_r _ [8] (by decide +kernel) (by decide +kernel)
set_option maxRecDepth 20000 in
theorem gX3_hold_J7_fill_53178 : GoodIn wsX3_hold (va_wsS RX3 26 yJ7_fill_53178 wsJ7_fill_53178) := goodIn_app (goodIn_of _ (by decide +kernel)) ggX3_hold_J7_fill_53178
theorem dX3_hold_0 : decode cX3_hold 0 = .ok (.aload_n 0, 1) := by decide +kernel
theorem dX3_hold_1 : decode cX3_hold 1 = .ok (.iconst 1, 1) := by decide +kernel
theorem dX3_hold_2 : decode cX3_hold 2 = .ok (.putfield 15, 3) := by decide +kernel
theorem dX3_hold_5 : decode cX3_hold 5 = .ok (.aload_n 0, 1) := by decide +kernel
theorem dX3_hold_6 : decode cX3_hold 6 = .ok (.iload_n 1, 1) := by decide +kernel
theorem dX3_hold_7 : decode cX3_hold 7 = .ok (.putfield 19, 3) := by decide +kernel
theorem dX3_hold_10 : decode cX3_hold 10 = .ok (.aload_n 0, 1) := by decide +kernel
theorem dX3_hold_11 : decode cX3_hold 11 = .ok (.iload_n 2, 1) := by decide +kernel
theorem dX3_hold_12 : decode cX3_hold 12 = .ok (.putfield 23, 3) := by decide +kernel
theorem dX3_hold_15 : decode cX3_hold 15 = .ok (.aload_n 0, 1) := by decide +kernel
theorem dX3_hold_16 : decode cX3_hold 16 = .ok (.getfield 9, 3) := by decide +kernel
theorem dX3_hold_19 : decode cX3_hold 19 = .ok (.iconst 0, 1) := by decide +kernel
theorem dX3_hold_20 : decode cX3_hold 20 = .ok (.invokestatic 26, 3) := by decide +kernel
theorem dX3_hold_23 : decode cX3_hold 23 = .ok (.return_, 1) := by decide +kernel
theorem dX3_faultAs_0 : decode cX3_faultAs 0 = .ok (.aload_n 0, 1) := by decide +kernel
theorem dX3_faultAs_1 : decode cX3_faultAs 1 = .ok (.getfield 15, 3) := by decide +kernel
theorem dX3_faultAs_4 : decode cX3_faultAs 4 = .ok (.ifCond .ne 6, 3) := by decide +kernel
theorem dX3_faultAs_7 : decode cX3_faultAs 7 = .ok (.bipush (-11), 2) := by decide +kernel
theorem dX3_faultAs_9 : decode cX3_faultAs 9 = .ok (.ireturn, 1) := by decide +kernel
theorem dX3_faultAs_10 : decode cX3_faultAs 10 = .ok (.iload_n 1, 1) := by decide +kernel
theorem dX3_faultAs_11 : decode cX3_faultAs 11 = .ok (.aload_n 0, 1) := by decide +kernel
theorem dX3_faultAs_12 : decode cX3_faultAs 12 = .ok (.getfield 19, 3) := by decide +kernel
theorem dX3_faultAs_15 : decode cX3_faultAs 15 = .ok (.if_icmp .ne 7, 3) := by decide +kernel
theorem dX3_faultAs_18 : decode cX3_faultAs 18 = .ok (.iconst 0, 1) := by decide +kernel
theorem dX3_faultAs_19 : decode cX3_faultAs 19 = .ok (.goto 5, 3) := by decide +kernel
theorem dX3_faultAs_22 : decode cX3_faultAs 22 = .ok (.bipush (-12), 2) := by decide +kernel
theorem dX3_faultAs_24 : decode cX3_faultAs 24 = .ok (.ireturn, 1) := by decide +kernel
theorem dX3_put_0 : decode cX3_put 0 = .ok (.aload_n 0, 1) := by decide +kernel
theorem dX3_put_1 : decode cX3_put 1 = .ok (.getfield 9, 3) := by decide +kernel
theorem dX3_put_4 : decode cX3_put 4 = .ok (.iload_n 1, 1) := by decide +kernel
theorem dX3_put_5 : decode cX3_put 5 = .ok (.aload_n 0, 1) := by decide +kernel
theorem dX3_put_6 : decode cX3_put 6 = .ok (.getfield 19, 3) := by decide +kernel
theorem dX3_put_9 : decode cX3_put 9 = .ok (.ifCond .ne 8, 3) := by decide +kernel
theorem dX3_put_12 : decode cX3_put 12 = .ok (.iload_n 2, 1) := by decide +kernel
theorem dX3_put_13 : decode cX3_put 13 = .ok (.i2b, 1) := by decide +kernel
theorem dX3_put_14 : decode cX3_put 14 = .ok (.goto 4, 3) := by decide +kernel
theorem dX3_put_17 : decode cX3_put 17 = .ok (.iload_n 2, 1) := by decide +kernel
theorem dX3_put_18 : decode cX3_put 18 = .ok (.iastore, 1) := by decide +kernel
theorem dX3_put_19 : decode cX3_put 19 = .ok (.return_, 1) := by decide +kernel
theorem dX4_init_0 : decode cX4_init 0 = .ok (.aload_n 0, 1) := by decide +kernel
theorem dX4_init_1 : decode cX4_init 1 = .ok (.invokespecial 3, 3) := by decide +kernel
theorem dX4_init_4 : decode cX4_init 4 = .ok (.aload_n 0, 1) := by decide +kernel
theorem dX4_init_5 : decode cX4_init 5 = .ok (.bipush 100, 2) := by decide +kernel
theorem dX4_init_7 : decode cX4_init 7 = .ok (.newarray .int, 2) := by decide +kernel
theorem dX4_init_9 : decode cX4_init 9 = .ok (.putfield 9, 3) := by decide +kernel
theorem dX4_init_12 : decode cX4_init 12 = .ok (.aload_n 0, 1) := by decide +kernel
theorem dX4_init_13 : decode cX4_init 13 = .ok (.sipush 130, 3) := by decide +kernel
theorem dX4_init_16 : decode cX4_init 16 = .ok (.newarray .byte, 2) := by decide +kernel
theorem dX4_init_18 : decode cX4_init 18 = .ok (.putfield 15, 3) := by decide +kernel
theorem dX4_init_21 : decode cX4_init 21 = .ok (.return_, 1) := by decide +kernel
set_option maxRecDepth 20000 in
theorem ggX4_canHave_X4_byteOf : GoodIn wsX4_canHave wsX4_byteOf := goodIn_r _ [4] (by decide +kernel) (by decide +kernel)
set_option maxRecDepth 20000 in
theorem gX4_canHave_X4_byteOf : GoodIn wsX4_canHave (va_wsS RX4 19 yX4_byteOf wsX4_byteOf) := goodIn_app (goodIn_of _ (by decide +kernel)) ggX4_canHave_X4_byteOf
theorem dX4_canHave_0 : decode cX4_canHave 0 = .ok (.iconst 0, 1) := by decide +kernel
theorem dX4_canHave_1 : decode cX4_canHave 1 = .ok (.istore_n 3, 1) := by decide +kernel
theorem dX4_canHave_2 : decode cX4_canHave 2 = .ok (.iload_n 3, 1) := by decide +kernel
theorem dX4_canHave_3 : decode cX4_canHave 3 = .ok (.iload_n 2, 1) := by decide +kernel
theorem dX4_canHave_4 : decode cX4_canHave 4 = .ok (.if_icmp .ge 32, 3) := by decide +kernel
theorem dX4_canHave_7 : decode cX4_canHave 7 = .ok (.lload_n 0, 1) := by decide +kernel
theorem dX4_canHave_8 : decode cX4_canHave 8 = .ok (.iload_n 3, 1) := by decide +kernel
theorem dX4_canHave_9 : decode cX4_canHave 9 = .ok (.invokestatic 19, 3) := by decide +kernel
theorem dX4_canHave_12 : decode cX4_canHave 12 = .ok (.istore 4, 2) := by decide +kernel
theorem dX4_canHave_14 : decode cX4_canHave 14 = .ok (.iload 4, 2) := by decide +kernel
theorem dX4_canHave_16 : decode cX4_canHave 16 = .ok (.bipush 32, 2) := by decide +kernel
theorem dX4_canHave_18 : decode cX4_canHave 18 = .ok (.if_icmp .lt 10, 3) := by decide +kernel
theorem dX4_canHave_21 : decode cX4_canHave 21 = .ok (.iload 4, 2) := by decide +kernel
theorem dX4_canHave_23 : decode cX4_canHave 23 = .ok (.bipush 126, 2) := by decide +kernel
theorem dX4_canHave_25 : decode cX4_canHave 25 = .ok (.if_icmp .le 5, 3) := by decide +kernel
theorem dX4_canHave_28 : decode cX4_canHave 28 = .ok (.iconst 0, 1) := by decide +kernel
theorem dX4_canHave_29 : decode cX4_canHave 29 = .ok (.ireturn, 1) := by decide +kernel
theorem dX4_canHave_30 : decode cX4_canHave 30 = .ok (.iinc 3 1, 3) := by decide +kernel
theorem dX4_canHave_33 : decode cX4_canHave 33 = .ok (.goto (-31), 3) := by decide +kernel
theorem dX4_canHave_36 : decode cX4_canHave 36 = .ok (.iconst 1, 1) := by decide +kernel
theorem dX4_canHave_37 : decode cX4_canHave 37 = .ok (.ireturn, 1) := by decide +kernel
theorem dX4_byteOf_0 : decode cX4_byteOf 0 = .ok (.lload_n 0, 1) := by decide +kernel
theorem dX4_byteOf_1 : decode cX4_byteOf 1 = .ok (.bipush 8, 2) := by decide +kernel
theorem dX4_byteOf_3 : decode cX4_byteOf 3 = .ok (.iload_n 2, 1) := by decide +kernel
theorem dX4_byteOf_4 : decode cX4_byteOf 4 = .ok (.imul, 1) := by decide +kernel
theorem dX4_byteOf_5 : decode cX4_byteOf 5 = .ok (.lushr, 1) := by decide +kernel
theorem dX4_byteOf_6 : decode cX4_byteOf 6 = .ok (.l2i, 1) := by decide +kernel
theorem dX4_byteOf_7 : decode cX4_byteOf 7 = .ok (.sipush 255, 3) := by decide +kernel
theorem dX4_byteOf_10 : decode cX4_byteOf 10 = .ok (.iand, 1) := by decide +kernel
theorem dX4_byteOf_11 : decode cX4_byteOf 11 = .ok (.ireturn, 1) := by decide +kernel
set_option maxRecDepth 20000 in
theorem ggX4_add_X4_byteOf : GoodIn wsX4_add wsX4_byteOf := goodIn_r _ [6] (by decide +kernel) (by decide +kernel)
set_option maxRecDepth 20000 in
theorem gX4_add_X4_byteOf : GoodIn wsX4_add (va_wsS RX4 19 yX4_byteOf wsX4_byteOf) := goodIn_app (goodIn_of _ (by decide +kernel)) ggX4_add_X4_byteOf
theorem dX4_add_0 : decode cX4_add 0 = .ok (.iload_n 3, 1) := by decide +kernel
theorem dX4_add_1 : decode cX4_add 1 = .ok (.iconst 1, 1) := by decide +kernel
theorem dX4_add_2 : decode cX4_add 2 = .ok (.isub, 1) := by decide +kernel
theorem dX4_add_3 : decode cX4_add 3 = .ok (.istore 4, 2) := by decide +kernel
theorem dX4_add_5 : decode cX4_add 5 = .ok (.iload 4, 2) := by decide +kernel
theorem dX4_add_7 : decode cX4_add 7 = .ok (.ifCond .lt 35, 3) := by decide +kernel
theorem dX4_add_10 : decode cX4_add 10 = .ok (.aload_n 0, 1) := by decide +kernel
theorem dX4_add_11 : decode cX4_add 11 = .ok (.getfield 15, 3) := by decide +kernel
theorem dX4_add_14 : decode cX4_add 14 = .ok (.aload_n 0, 1) := by decide +kernel
theorem dX4_add_15 : decode cX4_add 15 = .ok (.getfield 23, 3) := by decide +kernel
theorem dX4_add_18 : decode cX4_add 18 = .ok (.lload_n 1, 1) := by decide +kernel
theorem dX4_add_19 : decode cX4_add 19 = .ok (.iload 4, 2) := by decide +kernel
theorem dX4_add_21 : decode cX4_add 21 = .ok (.invokestatic 19, 3) := by decide +kernel
theorem dX4_add_24 : decode cX4_add 24 = .ok (.i2b, 1) := by decide +kernel
theorem dX4_add_25 : decode cX4_add 25 = .ok (.bastore, 1) := by decide +kernel
theorem dX4_add_26 : decode cX4_add 26 = .ok (.aload_n 0, 1) := by decide +kernel
theorem dX4_add_27 : decode cX4_add 27 = .ok (.dup, 1) := by decide +kernel
theorem dX4_add_28 : decode cX4_add 28 = .ok (.getfield 23, 3) := by decide +kernel
theorem dX4_add_31 : decode cX4_add 31 = .ok (.iconst 1, 1) := by decide +kernel
theorem dX4_add_32 : decode cX4_add 32 = .ok (.iadd, 1) := by decide +kernel
theorem dX4_add_33 : decode cX4_add 33 = .ok (.putfield 23, 3) := by decide +kernel
theorem dX4_add_36 : decode cX4_add 36 = .ok (.iinc 4 (-1), 3) := by decide +kernel
theorem dX4_add_39 : decode cX4_add 39 = .ok (.goto (-34), 3) := by decide +kernel
theorem dX4_add_42 : decode cX4_add 42 = .ok (.return_, 1) := by decide +kernel
set_option maxRecDepth 20000 in
theorem ggX4_parse_X4_parseArc : GoodIn wsX4_parse wsX4_parseArc := goodIn_r _ [8, 9, 10, 11, 12, 7, 13, 1, 2, 3, 14, 15, 16, 17, 18, 19, 20, 21, 22, 23, 24, 25, 26, 27, 28, 29, 30, 31, 32] (by decide +kernel) (by decide +kernel)
set_option maxRecDepth 20000 in
theorem gX4_parse_X4_parseArc : GoodIn wsX4_parse (wsV RX4 30 RX4 yX4_parseArc wsX4_parseArc) := goodIn_app (goodIn_of _ (by decide +kernel)) ggX4_parse_X4_parseArc
set_option maxRecDepth 20000 in
theorem ggX4_parse_X4_skipBlanks : GoodIn wsX4_parse wsX4_skipBlanks := goodIn_r _ [17, 1, 2, 3, 29, 30, 31, 32] (by decide +kernel) (by decide +kernel)
set_option maxRecDepth 20000 in
theorem gX4_parse_X4_skipBlanks : GoodIn wsX4_parse (wsV RX4 34 RX4 yX4_skipBlanks wsX4_skipBlanks) := goodIn_app (goodIn_of _ (by decide +kernel)) ggX4_parse_X4_skipBlanks
theorem dX4_parse_0 : decode cX4_parse 0 = .ok (.aload_n 0, 1) := by decide +kernel
theorem dX4_parse_1 : decode cX4_parse 1 = .ok (.iconst 0, 1) := by decide +kernel
theorem dX4_parse_2 : decode cX4_parse 2 = .ok (.putfield 27, 3) := by decide +kernel
theorem dX4_parse_5 : decode cX4_parse 5 = .ok (.iconst 0, 1) := by decide +kernel
theorem dX4_parse_6 : decode cX4_parse 6 = .ok (.istore_n 2, 1) := by decide +kernel
theorem dX4_parse_7 : decode cX4_parse 7 = .ok (.iload_n 2, 1) := by decide +kernel
theorem dX4_parse_8 : decode cX4_parse 8 = .ok (.bipush 20, 2) := by decide +kernel
theorem dX4_parse_10 : decode cX4_parse 10 = .ok (.if_icmp .ge 87, 3) := by decide +kernel
theorem dX4_parse_13 : decode cX4_parse 13 = .ok (.aload_n 0, 1) := by decide +kernel
theorem dX4_parse_14 : decode cX4_parse 14 = .ok (.iload_n 2, 1) := by decide +kernel
theorem dX4_parse_15 : decode cX4_parse 15 = .ok (.iconst 5, 1) := by decide +kernel
theorem dX4_parse_16 : decode cX4_parse 16 = .ok (.imul, 1) := by decide +kernel
theorem dX4_parse_17 : decode cX4_parse 17 = .ok (.iload_n 1, 1) := by decide +kernel
theorem dX4_parse_18 : decode cX4_parse 18 = .ok (.invokevirtual 30, 3) := by decide +kernel
theorem dX4_parse_21 : decode cX4_parse 21 = .ok (.ifCond .ne 11, 3) := by decide +kernel
theorem dX4_parse_24 : decode cX4_parse 24 = .ok (.bipush (-20), 2) := by decide +kernel
theorem dX4_parse_26 : decode cX4_parse 26 = .ok (.aload_n 0, 1) := by decide +kernel
theorem dX4_parse_27 : decode cX4_parse 27 = .ok (.getfield 27, 3) := by decide +kernel
theorem dX4_parse_30 : decode cX4_parse 30 = .ok (.isub, 1) := by decide +kernel
theorem dX4_parse_31 : decode cX4_parse 31 = .ok (.ireturn, 1) := by decide +kernel
theorem dX4_parse_32 : decode cX4_parse 32 = .ok (.aload_n 0, 1) := by decide +kernel
theorem dX4_parse_33 : decode cX4_parse 33 = .ok (.invokevirtual 34, 3) := by decide +kernel
theorem dX4_parse_36 : decode cX4_parse 36 = .ok (.aload_n 0, 1) := by decide +kernel
theorem dX4_parse_37 : decode cX4_parse 37 = .ok (.getfield 27, 3) := by decide +kernel
theorem dX4_parse_40 : decode cX4_parse 40 = .ok (.aload_n 0, 1) := by decide +kernel
theorem dX4_parse_41 : decode cX4_parse 41 = .ok (.getfield 23, 3) := by decide +kernel
theorem dX4_parse_44 : decode cX4_parse 44 = .ok (.if_icmp .lt 7, 3) := by decide +kernel
theorem dX4_parse_47 : decode cX4_parse 47 = .ok (.iload_n 2, 1) := by decide +kernel
theorem dX4_parse_48 : decode cX4_parse 48 = .ok (.iconst 1, 1) := by decide +kernel
theorem dX4_parse_49 : decode cX4_parse 49 = .ok (.iadd, 1) := by decide +kernel
theorem dX4_parse_50 : decode cX4_parse 50 = .ok (.ireturn, 1) := by decide +kernel
theorem dX4_parse_51 : decode cX4_parse 51 = .ok (.aload_n 0, 1) := by decide +kernel
theorem dX4_parse_52 : decode cX4_parse 52 = .ok (.getfield 15, 3) := by decide +kernel
theorem dX4_parse_55 : decode cX4_parse 55 = .ok (.aload_n 0, 1) := by decide +kernel
theorem dX4_parse_56 : decode cX4_parse 56 = .ok (.getfield 27, 3) := by decide +kernel
theorem dX4_parse_59 : decode cX4_parse 59 = .ok (.baload, 1) := by decide +kernel
theorem dX4_parse_60 : decode cX4_parse 60 = .ok (.bipush 59, 2) := by decide +kernel
theorem dX4_parse_62 : decode cX4_parse 62 = .ok (.if_icmp .ne 11, 3) := by decide +kernel
theorem dX4_parse_65 : decode cX4_parse 65 = .ok (.iload_n 2, 1) := by decide +kernel
theorem dX4_parse_66 : decode cX4_parse 66 = .ok (.iconst 1, 1) := by decide +kernel
theorem dX4_parse_67 : decode cX4_parse 67 = .ok (.iadd, 1) := by decide +kernel
theorem dX4_parse_68 : decode cX4_parse 68 = .ok (.bipush 20, 2) := by decide +kernel
theorem dX4_parse_70 : decode cX4_parse 70 = .ok (.if_icmp .ne 11, 3) := by decide +kernel
theorem dX4_parse_73 : decode cX4_parse 73 = .ok (.bipush (-20), 2) := by decide +kernel
theorem dX4_parse_75 : decode cX4_parse 75 = .ok (.aload_n 0, 1) := by decide +kernel
theorem dX4_parse_76 : decode cX4_parse 76 = .ok (.getfield 27, 3) := by decide +kernel
theorem dX4_parse_79 : decode cX4_parse 79 = .ok (.isub, 1) := by decide +kernel
theorem dX4_parse_80 : decode cX4_parse 80 = .ok (.ireturn, 1) := by decide +kernel
theorem dX4_parse_81 : decode cX4_parse 81 = .ok (.aload_n 0, 1) := by decide +kernel
theorem dX4_parse_82 : decode cX4_parse 82 = .ok (.dup, 1) := by decide +kernel
theorem dX4_parse_83 : decode cX4_parse 83 = .ok (.getfield 27, 3) := by decide +kernel
theorem dX4_parse_86 : decode cX4_parse 86 = .ok (.iconst 1, 1) := by decide +kernel
theorem dX4_parse_87 : decode cX4_parse 87 = .ok (.iadd, 1) := by decide +kernel
theorem dX4_parse_88 : decode cX4_parse 88 = .ok (.putfield 27, 3) := by decide +kernel
theorem dX4_parse_91 : decode cX4_parse 91 = .ok (.iinc 2 1, 3) := by decide +kernel
theorem dX4_parse_94 : decode cX4_parse 94 = .ok (.goto (-87), 3) := by decide +kernel
theorem dX4_parse_97 : decode cX4_parse 97 = .ok (.bipush (-20), 2) := by decide +kernel
theorem dX4_parse_99 : decode cX4_parse 99 = .ok (.aload_n 0, 1) := by decide +kernel
theorem dX4_parse_100 : decode cX4_parse 100 = .ok (.getfield 27, 3) := by decide +kernel
theorem dX4_parse_103 : decode cX4_parse 103 = .ok (.isub, 1) := by decide +kernel
theorem dX4_parse_104 : decode cX4_parse 104 = .ok (.ireturn, 1) := by decide +kernel
set_option maxRecDepth 20000 in
theorem ggX4_parseArc_X4_oneOf : GoodIn wsX4_parseArc wsX4_oneOf := goodIn_r _ [6, 7, 8, 9, 10, 11, 12, 5, 13, 14, 15, 16, 25, 26, 27, 28] (by decide +kernel) (by decide +kernel)
set_option maxRecDepth 20000 in
theorem gX4_parseArc_X4_oneOf : GoodIn wsX4_parseArc (wsV RX4 37 RX4 yX4_oneOf wsX4_oneOf) := goodIn_app (goodIn_of _ (by decide +kernel)) ggX4_parseArc_X4_oneOf
set_option maxRecDepth 20000 in
theorem ggX4_parseArc_X4_parseAct : GoodIn wsX4_parseArc wsX4_parseAct := goodIn_r _ [20, 2, 3, 4, 5, 6, 7, 8, 9, 10, 11, 12, 13, 14, 15, 16, 25, 26, 27, 28] (by decide +kernel) (by decide +kernel)
set_option maxRecDepth 20000 in
theorem gX4_parseArc_X4_parseAct : GoodIn wsX4_parseArc (wsV RX4 41 RX4 yX4_parseAct wsX4_parseAct) := goodIn_app (goodIn_of _ (by decide +kernel)) ggX4_parseArc_X4_parseAct
set_option maxRecDepth 20000 in
theorem ggX4_parseArc_X4_parseLetterAndLine : GoodIn wsX4_parseArc wsX4_parseLetterAndLine := goodIn_r _ [24, 1, 2, 3, 4, 5, 6, 7, 8, 9, 10, 11, 12, 13, 14, 15, 16, 25, 26, 27, 28] (by decide +kernel) (by decide +kernel)
set_option maxRecDepth 20000 in
theorem gX4_parseArc_X4_parseLetterAndLine : GoodIn wsX4_parseArc (wsV RX4 45 RX4 yX4_parseLetterAndLine wsX4_parseLetterAndLine) := goodIn_app (goodIn_of _ (by decide +kernel)) ggX4_parseArc_X4_parseLetterAndLine
theorem dX4_parseArc_0 : decode cX4_parseArc 0 = .ok (.aload_n 0, 1) := by decide +kernel
theorem dX4_parseArc_1 : decode cX4_parseArc 1 = .ok (.getfield 9, 3) := by decide +kernel
theorem dX4_parseArc_4 : decode cX4_parseArc 4 = .ok (.iload_n 1, 1) := by decide +kernel
theorem dX4_parseArc_5 : decode cX4_parseArc 5 = .ok (.iconst 0, 1) := by decide +kernel
theorem dX4_parseArc_6 : decode cX4_parseArc 6 = .ok (.iadd, 1) := by decide +kernel
theorem dX4_parseArc_7 : decode cX4_parseArc 7 = .ok (.aload_n 0, 1) := by decide +kernel
theorem dX4_parseArc_8 : decode cX4_parseArc 8 = .ok (.bipush 48, 2) := by decide +kernel
theorem dX4_parseArc_10 : decode cX4_parseArc 10 = .ok (.iload_n 2, 1) := by decide +kernel
theorem dX4_parseArc_11 : decode cX4_parseArc 11 = .ok (.invokevirtual 37, 3) := by decide +kernel
theorem dX4_parseArc_14 : decode cX4_parseArc 14 = .ok (.iastore, 1) := by decide +kernel
theorem dX4_parseArc_15 : decode cX4_parseArc 15 = .ok (.aload_n 0, 1) := by decide +kernel
theorem dX4_parseArc_16 : decode cX4_parseArc 16 = .ok (.getfield 9, 3) := by decide +kernel
theorem dX4_parseArc_19 : decode cX4_parseArc 19 = .ok (.iload_n 1, 1) := by decide +kernel
theorem dX4_parseArc_20 : decode cX4_parseArc 20 = .ok (.iconst 0, 1) := by decide +kernel
theorem dX4_parseArc_21 : decode cX4_parseArc 21 = .ok (.iadd, 1) := by decide +kernel
theorem dX4_parseArc_22 : decode cX4_parseArc 22 = .ok (.iaload, 1) := by decide +kernel
theorem dX4_parseArc_23 : decode cX4_parseArc 23 = .ok (.ifCond .ge 5, 3) := by decide +kernel
theorem dX4_parseArc_26 : decode cX4_parseArc 26 = .ok (.iconst 0, 1) := by decide +kernel
theorem dX4_parseArc_27 : decode cX4_parseArc 27 = .ok (.ireturn, 1) := by decide +kernel
theorem dX4_parseArc_28 : decode cX4_parseArc 28 = .ok (.aload_n 0, 1) := by decide +kernel
theorem dX4_parseArc_29 : decode cX4_parseArc 29 = .ok (.invokevirtual 41, 3) := by decide +kernel
theorem dX4_parseArc_32 : decode cX4_parseArc 32 = .ok (.istore_n 3, 1) := by decide +kernel
theorem dX4_parseArc_33 : decode cX4_parseArc 33 = .ok (.aload_n 0, 1) := by decide +kernel
theorem dX4_parseArc_34 : decode cX4_parseArc 34 = .ok (.getfield 9, 3) := by decide +kernel
theorem dX4_parseArc_37 : decode cX4_parseArc 37 = .ok (.iload_n 1, 1) := by decide +kernel
theorem dX4_parseArc_38 : decode cX4_parseArc 38 = .ok (.iconst 1, 1) := by decide +kernel
theorem dX4_parseArc_39 : decode cX4_parseArc 39 = .ok (.iadd, 1) := by decide +kernel
theorem dX4_parseArc_40 : decode cX4_parseArc 40 = .ok (.iload_n 3, 1) := by decide +kernel
theorem dX4_parseArc_41 : decode cX4_parseArc 41 = .ok (.iastore, 1) := by decide +kernel
theorem dX4_parseArc_42 : decode cX4_parseArc 42 = .ok (.iload_n 3, 1) := by decide +kernel
theorem dX4_parseArc_43 : decode cX4_parseArc 43 = .ok (.ifCond .lt 15, 3) := by decide +kernel
theorem dX4_parseArc_46 : decode cX4_parseArc 46 = .ok (.iload_n 3, 1) := by decide +kernel
theorem dX4_parseArc_47 : decode cX4_parseArc 47 = .ok (.ifCond .eq 13, 3) := by decide +kernel
theorem dX4_parseArc_50 : decode cX4_parseArc 50 = .ok (.aload_n 0, 1) := by decide +kernel
theorem dX4_parseArc_51 : decode cX4_parseArc 51 = .ok (.iload_n 1, 1) := by decide +kernel
theorem dX4_parseArc_52 : decode cX4_parseArc 52 = .ok (.invokevirtual 45, 3) := by decide +kernel
theorem dX4_parseArc_55 : decode cX4_parseArc 55 = .ok (.ifCond .ne 5, 3) := by decide +kernel
theorem dX4_parseArc_58 : decode cX4_parseArc 58 = .ok (.iconst 0, 1) := by decide +kernel
theorem dX4_parseArc_59 : decode cX4_parseArc 59 = .ok (.ireturn, 1) := by decide +kernel
theorem dX4_parseArc_60 : decode cX4_parseArc 60 = .ok (.aload_n 0, 1) := by decide +kernel
theorem dX4_parseArc_61 : decode cX4_parseArc 61 = .ok (.getfield 9, 3) := by decide +kernel
theorem dX4_parseArc_64 : decode cX4_parseArc 64 = .ok (.iload_n 1, 1) := by decide +kernel
theorem dX4_parseArc_65 : decode cX4_parseArc 65 = .ok (.iconst 4, 1) := by decide +kernel
theorem dX4_parseArc_66 : decode cX4_parseArc 66 = .ok (.iadd, 1) := by decide +kernel
theorem dX4_parseArc_67 : decode cX4_parseArc 67 = .ok (.aload_n 0, 1) := by decide +kernel
theorem dX4_parseArc_68 : decode cX4_parseArc 68 = .ok (.bipush 48, 2) := by decide +kernel
theorem dX4_parseArc_70 : decode cX4_parseArc 70 = .ok (.iload_n 2, 1) := by decide +kernel
theorem dX4_parseArc_71 : decode cX4_parseArc 71 = .ok (.invokevirtual 37, 3) := by decide +kernel
theorem dX4_parseArc_74 : decode cX4_parseArc 74 = .ok (.iastore, 1) := by decide +kernel
theorem dX4_parseArc_75 : decode cX4_parseArc 75 = .ok (.aload_n 0, 1) := by decide +kernel
theorem dX4_parseArc_76 : decode cX4_parseArc 76 = .ok (.getfield 9, 3) := by decide +kernel
theorem dX4_parseArc_79 : decode cX4_parseArc 79 = .ok (.iload_n 1, 1) := by decide +kernel
theorem dX4_parseArc_80 : decode cX4_parseArc 80 = .ok (.iconst 4, 1) := by decide +kernel
theorem dX4_parseArc_81 : decode cX4_parseArc 81 = .ok (.iadd, 1) := by decide +kernel
theorem dX4_parseArc_82 : decode cX4_parseArc 82 = .ok (.iaload, 1) := by decide +kernel
theorem dX4_parseArc_83 : decode cX4_parseArc 83 = .ok (.ifCond .lt 7, 3) := by decide +kernel
theorem dX4_parseArc_86 : decode cX4_parseArc 86 = .ok (.iconst 1, 1) := by decide +kernel
theorem dX4_parseArc_87 : decode cX4_parseArc 87 = .ok (.goto 4, 3) := by decide +kernel
theorem dX4_parseArc_90 : decode cX4_parseArc 90 = .ok (.iconst 0, 1) := by decide +kernel
theorem dX4_parseArc_91 : decode cX4_parseArc 91 = .ok (.ireturn, 1) := by decide +kernel
set_option maxRecDepth 20000 in
theorem ggX4_parseLetterAndLine_X4_oneOf : GoodIn wsX4_parseLetterAndLine wsX4_oneOf := goodIn_r _ [6, 7, 8, 9, 10, 11, 12, 5, 13, 14, 15, 16, 17, 18, 19, 20] (by decide +kernel) (by decide +kernel)
set_option maxRecDepth 20000 in
theorem gX4_parseLetterAndLine_X4_oneOf : GoodIn wsX4_parseLetterAndLine (wsV RX4 37 RX4 yX4_oneOf wsX4_oneOf) := goodIn_app (goodIn_of _ (by decide +kernel)) ggX4_parseLetterAndLine_X4_oneOf
theorem dX4_parseLetterAndLine_0 : decode cX4_parseLetterAndLine 0 = .ok (.aload_n 0, 1) := by decide +kernel
theorem dX4_parseLetterAndLine_1 : decode cX4_parseLetterAndLine 1 = .ok (.getfield 9, 3) := by decide +kernel
theorem dX4_parseLetterAndLine_4 : decode cX4_parseLetterAndLine 4 = .ok (.iload_n 1, 1) := by decide +kernel
theorem dX4_parseLetterAndLine_5 : decode cX4_parseLetterAndLine 5 = .ok (.iconst 3, 1) := by decide +kernel
theorem dX4_parseLetterAndLine_6 : decode cX4_parseLetterAndLine 6 = .ok (.iadd, 1) := by decide +kernel
theorem dX4_parseLetterAndLine_7 : decode cX4_parseLetterAndLine 7 = .ok (.aload_n 0, 1) := by decide +kernel
theorem dX4_parseLetterAndLine_8 : decode cX4_parseLetterAndLine 8 = .ok (.bipush 97, 2) := by decide +kernel
theorem dX4_parseLetterAndLine_10 : decode cX4_parseLetterAndLine 10 = .ok (.iconst 3, 1) := by decide +kernel
theorem dX4_parseLetterAndLine_11 : decode cX4_parseLetterAndLine 11 = .ok (.invokevirtual 37, 3) := by decide +kernel
theorem dX4_parseLetterAndLine_14 : decode cX4_parseLetterAndLine 14 = .ok (.iastore, 1) := by decide +kernel
theorem dX4_parseLetterAndLine_15 : decode cX4_parseLetterAndLine 15 = .ok (.aload_n 0, 1) := by decide +kernel
theorem dX4_parseLetterAndLine_16 : decode cX4_parseLetterAndLine 16 = .ok (.getfield 9, 3) := by decide +kernel
theorem dX4_parseLetterAndLine_19 : decode cX4_parseLetterAndLine 19 = .ok (.iload_n 1, 1) := by decide +kernel
theorem dX4_parseLetterAndLine_20 : decode cX4_parseLetterAndLine 20 = .ok (.iconst 3, 1) := by decide +kernel
theorem dX4_parseLetterAndLine_21 : decode cX4_parseLetterAndLine 21 = .ok (.iadd, 1) := by decide +kernel
theorem dX4_parseLetterAndLine_22 : decode cX4_parseLetterAndLine 22 = .ok (.iaload, 1) := by decide +kernel
theorem dX4_parseLetterAndLine_23 : decode cX4_parseLetterAndLine 23 = .ok (.ifCond .ge 5, 3) := by decide +kernel
theorem dX4_parseLetterAndLine_26 : decode cX4_parseLetterAndLine 26 = .ok (.iconst 0, 1) := by decide +kernel
theorem dX4_parseLetterAndLine_27 : decode cX4_parseLetterAndLine 27 = .ok (.ireturn, 1) := by decide +kernel
theorem dX4_parseLetterAndLine_28 : decode cX4_parseLetterAndLine 28 = .ok (.aload_n 0, 1) := by decide +kernel
theorem dX4_parseLetterAndLine_29 : decode cX4_parseLetterAndLine 29 = .ok (.getfield 9, 3) := by decide +kernel
theorem dX4_parseLetterAndLine_32 : decode cX4_parseLetterAndLine 32 = .ok (.iload_n 1, 1) := by decide +kernel
theorem dX4_parseLetterAndLine_33 : decode cX4_parseLetterAndLine 33 = .ok (.iconst 2, 1) := by decide +kernel
theorem dX4_parseLetterAndLine_34 : decode cX4_parseLetterAndLine 34 = .ok (.iadd, 1) := by decide +kernel
theorem dX4_parseLetterAndLine_35 : decode cX4_parseLetterAndLine 35 = .ok (.aload_n 0, 1) := by decide +kernel
theorem dX4_parseLetterAndLine_36 : decode cX4_parseLetterAndLine 36 = .ok (.bipush 48, 2) := by decide +kernel
theorem dX4_parseLetterAndLine_38 : decode cX4_parseLetterAndLine 38 = .ok (.iconst 2, 1) := by decide +kernel
theorem dX4_parseLetterAndLine_39 : decode cX4_parseLetterAndLine 39 = .ok (.invokevirtual 37, 3) := by decide +kernel
theorem dX4_parseLetterAndLine_42 : decode cX4_parseLetterAndLine 42 = .ok (.iastore, 1) := by decide +kernel
theorem dX4_parseLetterAndLine_43 : decode cX4_parseLetterAndLine 43 = .ok (.aload_n 0, 1) := by decide +kernel
theorem dX4_parseLetterAndLine_44 : decode cX4_parseLetterAndLine 44 = .ok (.getfield 9, 3) := by decide +kernel
theorem dX4_parseLetterAndLine_47 : decode cX4_parseLetterAndLine 47 = .ok (.iload_n 1, 1) := by decide +kernel
theorem dX4_parseLetterAndLine_48 : decode cX4_parseLetterAndLine 48 = .ok (.iconst 2, 1) := by decide +kernel
theorem dX4_parseLetterAndLine_49 : decode cX4_parseLetterAndLine 49 = .ok (.iadd, 1) := by decide +kernel
theorem dX4_parseLetterAndLine_50 : decode cX4_parseLetterAndLine 50 = .ok (.iaload, 1) := by decide +kernel
theorem dX4_parseLetterAndLine_51 : decode cX4_parseLetterAndLine 51 = .ok (.ifCond .lt 7, 3) := by decide +kernel
theorem dX4_parseLetterAndLine_54 : decode cX4_parseLetterAndLine 54 = .ok (.iconst 1, 1) := by decide +kernel
theorem dX4_parseLetterAndLine_55 : decode cX4_parseLetterAndLine 55 = .ok (.goto 4, 3) := by decide +kernel
theorem dX4_parseLetterAndLine_58 : decode cX4_parseLetterAndLine 58 = .ok (.iconst 0, 1) := by decide +kernel
theorem dX4_parseLetterAndLine_59 : decode cX4_parseLetterAndLine 59 = .ok (.ireturn, 1) := by decide +kernel
set_option maxRecDepth 20000 in
theorem ggX4_parseAct_X4_oneOf : GoodIn wsX4_parseAct wsX4_oneOf := goodIn_r _ [5, 6, 7, 8, 9, 10, 11, 4, 12, 13, 14, 15, 16, 17, 18, 19] (by decide +kernel) (by decide +kernel)
set_option maxRecDepth 20000 in
theorem gX4_parseAct_X4_oneOf : GoodIn wsX4_parseAct (wsV RX4 37 RX4 yX4_oneOf wsX4_oneOf) := goodIn_app (goodIn_of _ (by decide +kernel)) ggX4_parseAct_X4_oneOf
theorem dX4_parseAct_0 : decode cX4_parseAct 0 = .ok (.aload_n 0, 1) := by decide +kernel
theorem dX4_parseAct_1 : decode cX4_parseAct 1 = .ok (.bipush 45, 2) := by decide +kernel
theorem dX4_parseAct_3 : decode cX4_parseAct 3 = .ok (.iconst 1, 1) := by decide +kernel
theorem dX4_parseAct_4 : decode cX4_parseAct 4 = .ok (.invokevirtual 37, 3) := by decide +kernel
theorem dX4_parseAct_7 : decode cX4_parseAct 7 = .ok (.ifCond .ne 5, 3) := by decide +kernel
theorem dX4_parseAct_10 : decode cX4_parseAct 10 = .ok (.iconst 0, 1) := by decide +kernel
theorem dX4_parseAct_11 : decode cX4_parseAct 11 = .ok (.ireturn, 1) := by decide +kernel
theorem dX4_parseAct_12 : decode cX4_parseAct 12 = .ok (.aload_n 0, 1) := by decide +kernel
theorem dX4_parseAct_13 : decode cX4_parseAct 13 = .ok (.bipush 33, 2) := by decide +kernel
theorem dX4_parseAct_15 : decode cX4_parseAct 15 = .ok (.iconst 1, 1) := by decide +kernel
theorem dX4_parseAct_16 : decode cX4_parseAct 16 = .ok (.invokevirtual 37, 3) := by decide +kernel
theorem dX4_parseAct_19 : decode cX4_parseAct 19 = .ok (.ifCond .ne 5, 3) := by decide +kernel
theorem dX4_parseAct_22 : decode cX4_parseAct 22 = .ok (.iconst 1, 1) := by decide +kernel
theorem dX4_parseAct_23 : decode cX4_parseAct 23 = .ok (.ireturn, 1) := by decide +kernel
theorem dX4_parseAct_24 : decode cX4_parseAct 24 = .ok (.aload_n 0, 1) := by decide +kernel
theorem dX4_parseAct_25 : decode cX4_parseAct 25 = .ok (.bipush 63, 2) := by decide +kernel
theorem dX4_parseAct_27 : decode cX4_parseAct 27 = .ok (.iconst 1, 1) := by decide +kernel
theorem dX4_parseAct_28 : decode cX4_parseAct 28 = .ok (.invokevirtual 37, 3) := by decide +kernel
theorem dX4_parseAct_31 : decode cX4_parseAct 31 = .ok (.ifCond .ne 7, 3) := by decide +kernel
theorem dX4_parseAct_34 : decode cX4_parseAct 34 = .ok (.iconst 2, 1) := by decide +kernel
theorem dX4_parseAct_35 : decode cX4_parseAct 35 = .ok (.goto 4, 3) := by decide +kernel
theorem dX4_parseAct_38 : decode cX4_parseAct 38 = .ok (.iconst (-1), 1) := by decide +kernel
theorem dX4_parseAct_39 : decode cX4_parseAct 39 = .ok (.ireturn, 1) := by decide +kernel
set_option maxRecDepth 20000 in
theorem ggX4_oneOf_X4_skipBlanks : GoodIn wsX4_oneOf wsX4_skipBlanks := goodIn_r _ [8, 1, 2, 3, 12, 13, 14, 15] (by decide +kernel) (by decide +kernel)
set_option maxRecDepth 20000 in
theorem gX4_oneOf_X4_skipBlanks : GoodIn wsX4_oneOf (wsV RX4 34 RX4 yX4_skipBlanks wsX4_skipBlanks) := goodIn_app (goodIn_of _ (by decide +kernel)) ggX4_oneOf_X4_skipBlanks
set_option maxRecDepth 20000 in
theorem ggX4_oneOf_X7_isAmong : GoodIn wsX4_oneOf wsX7_isAmong := goodIn_r _ [11] (by decide +kernel) (by decide +kernel)
set_option maxRecDepth 20000 in
theorem gX4_oneOf_X7_isAmong_n49 : GoodIn wsX4_oneOf (wsX7_isAmong) := ggX4_oneOf_X7_isAmong
theorem dX4_oneOf_0 : decode cX4_oneOf 0 = .ok (.aload_n 0, 1) := by decide +kernel
theorem dX4_oneOf_1 : decode cX4_oneOf 1 = .ok (.invokevirtual 34, 3) := by decide +kernel
theorem dX4_oneOf_4 : decode cX4_oneOf 4 = .ok (.aload_n 0, 1) := by decide +kernel
theorem dX4_oneOf_5 : decode cX4_oneOf 5 = .ok (.getfield 27, 3) := by decide +kernel
theorem dX4_oneOf_8 : decode cX4_oneOf 8 = .ok (.aload_n 0, 1) := by decide +kernel
theorem dX4_oneOf_9 : decode cX4_oneOf 9 = .ok (.getfield 23, 3) := by decide +kernel
theorem dX4_oneOf_12 : decode cX4_oneOf 12 = .ok (.if_icmp .ge 21, 3) := by decide +kernel
theorem dX4_oneOf_15 : decode cX4_oneOf 15 = .ok (.aload_n 0, 1) := by decide +kernel
theorem dX4_oneOf_16 : decode cX4_oneOf 16 = .ok (.getfield 15, 3) := by decide +kernel
theorem dX4_oneOf_19 : decode cX4_oneOf 19 = .ok (.aload_n 0, 1) := by decide +kernel
theorem dX4_oneOf_20 : decode cX4_oneOf 20 = .ok (.getfield 27, 3) := by decide +kernel
theorem dX4_oneOf_23 : decode cX4_oneOf 23 = .ok (.baload, 1) := by decide +kernel
theorem dX4_oneOf_24 : decode cX4_oneOf 24 = .ok (.iload_n 1, 1) := by decide +kernel
theorem dX4_oneOf_25 : decode cX4_oneOf 25 = .ok (.isub, 1) := by decide +kernel
theorem dX4_oneOf_26 : decode cX4_oneOf 26 = .ok (.iload_n 2, 1) := by decide +kernel
theorem dX4_oneOf_27 : decode cX4_oneOf 27 = .ok (.invokestatic 49, 3) := by decide +kernel
theorem dX4_oneOf_30 : decode cX4_oneOf 30 = .ok (.ifCond .ne 5, 3) := by decide +kernel
theorem dX4_oneOf_33 : decode cX4_oneOf 33 = .ok (.iconst (-1), 1) := by decide +kernel
theorem dX4_oneOf_34 : decode cX4_oneOf 34 = .ok (.ireturn, 1) := by decide +kernel
theorem dX4_oneOf_35 : decode cX4_oneOf 35 = .ok (.aload_n 0, 1) := by decide +kernel
theorem dX4_oneOf_36 : decode cX4_oneOf 36 = .ok (.dup, 1) := by decide +kernel
end
section
theorem dX4_oneOf_37 : decode cX4_oneOf 37 = .ok (.getfield 27, 3) := by decide +kernel
theorem dX4_oneOf_40 : decode cX4_oneOf 40 = .ok (.iconst 1, 1) := by decide +kernel
theorem dX4_oneOf_41 : decode cX4_oneOf 41 = .ok (.iadd, 1) := by decide +kernel
theorem dX4_oneOf_42 : decode cX4_oneOf 42 = .ok (.putfield 27, 3) := by decide +kernel
theorem dX4_oneOf_45 : decode cX4_oneOf 45 = .ok (.aload_n 0, 1) := by decide +kernel
theorem dX4_oneOf_46 : decode cX4_oneOf 46 = .ok (.getfield 15, 3) := by decide +kernel
theorem dX4_oneOf_49 : decode cX4_oneOf 49 = .ok (.aload_n 0, 1) := by decide +kernel
theorem dX4_oneOf_50 : decode cX4_oneOf 50 = .ok (.getfield 27, 3) := by decide +kernel
theorem dX4_oneOf_53 : decode cX4_oneOf 53 = .ok (.iconst 1, 1) := by decide +kernel
theorem dX4_oneOf_54 : decode cX4_oneOf 54 = .ok (.isub, 1) := by decide +kernel
theorem dX4_oneOf_55 : decode cX4_oneOf 55 = .ok (.baload, 1) := by decide +kernel
theorem dX4_oneOf_56 : decode cX4_oneOf 56 = .ok (.iload_n 1, 1) := by decide +kernel
theorem dX4_oneOf_57 : decode cX4_oneOf 57 = .ok (.isub, 1) := by decide +kernel
theorem dX4_oneOf_58 : decode cX4_oneOf 58 = .ok (.ireturn, 1) := by decide +kernel
theorem dX4_skipBlanks_0 : decode cX4_skipBlanks 0 = .ok (.aload_n 0, 1) := by decide +kernel
theorem dX4_skipBlanks_1 : decode cX4_skipBlanks 1 = .ok (.getfield 27, 3) := by decide +kernel
theorem dX4_skipBlanks_4 : decode cX4_skipBlanks 4 = .ok (.aload_n 0, 1) := by decide +kernel
theorem dX4_skipBlanks_5 : decode cX4_skipBlanks 5 = .ok (.getfield 23, 3) := by decide +kernel
theorem dX4_skipBlanks_8 : decode cX4_skipBlanks 8 = .ok (.if_icmp .ge 30, 3) := by decide +kernel
theorem dX4_skipBlanks_11 : decode cX4_skipBlanks 11 = .ok (.aload_n 0, 1) := by decide +kernel
theorem dX4_skipBlanks_12 : decode cX4_skipBlanks 12 = .ok (.getfield 15, 3) := by decide +kernel
theorem dX4_skipBlanks_15 : decode cX4_skipBlanks 15 = .ok (.aload_n 0, 1) := by decide +kernel
theorem dX4_skipBlanks_16 : decode cX4_skipBlanks 16 = .ok (.getfield 27, 3) := by decide +kernel
theorem dX4_skipBlanks_19 : decode cX4_skipBlanks 19 = .ok (.baload, 1) := by decide +kernel
theorem dX4_skipBlanks_20 : decode cX4_skipBlanks 20 = .ok (.bipush 32, 2) := by decide +kernel
theorem dX4_skipBlanks_22 : decode cX4_skipBlanks 22 = .ok (.if_icmp .ne 16, 3) := by decide +kernel
theorem dX4_skipBlanks_25 : decode cX4_skipBlanks 25 = .ok (.aload_n 0, 1) := by decide +kernel
theorem dX4_skipBlanks_26 : decode cX4_skipBlanks 26 = .ok (.dup, 1) := by decide +kernel
theorem dX4_skipBlanks_27 : decode cX4_skipBlanks 27 = .ok (.getfield 27, 3) := by decide +kernel
theorem dX4_skipBlanks_30 : decode cX4_skipBlanks 30 = .ok (.iconst 1, 1) := by decide +kernel
theorem dX4_skipBlanks_31 : decode cX4_skipBlanks 31 = .ok (.iadd, 1) := by decide +kernel
theorem dX4_skipBlanks_32 : decode cX4_skipBlanks 32 = .ok (.putfield 27, 3) := by decide +kernel
theorem dX4_skipBlanks_35 : decode cX4_skipBlanks 35 = .ok (.goto (-35), 3) := by decide +kernel
theorem dX4_skipBlanks_38 : decode cX4_skipBlanks 38 = .ok (.return_, 1) := by decide +kernel
theorem dX5_init_0 : decode cX5_init 0 = .ok (.aload_n 0, 1) := by decide +kernel
theorem dX5_init_1 : decode cX5_init 1 = .ok (.invokespecial 5, 3) := by decide +kernel
theorem dX5_init_4 : decode cX5_init 4 = .ok (.aload_n 0, 1) := by decide +kernel
theorem dX5_init_5 : decode cX5_init 5 = .ok (.sipush 512, 3) := by decide +kernel
theorem dX5_init_8 : decode cX5_init 8 = .ok (.newarray .long, 2) := by decide +kernel
theorem dX5_init_10 : decode cX5_init 10 = .ok (.putfield 11, 3) := by decide +kernel
theorem dX5_init_13 : decode cX5_init 13 = .ok (.aload_n 0, 1) := by decide +kernel
theorem dX5_init_14 : decode cX5_init 14 = .ok (.sipush 12800, 3) := by decide +kernel
theorem dX5_init_17 : decode cX5_init 17 = .ok (.newarray .int, 2) := by decide +kernel
theorem dX5_init_19 : decode cX5_init 19 = .ok (.putfield 15, 3) := by decide +kernel
theorem dX5_init_22 : decode cX5_init 22 = .ok (.return_, 1) := by decide +kernel
set_option maxRecDepth 20000 in
theorem ggX5_fewest_J7_fill_d0a16 : GoodIn wsX5_fewest wsJ7_fill_d0a16 := goodIn_r _ [9] (by decide +kernel) (by decide +kernel)
set_option maxRecDepth 20000 in
theorem gX5_fewest_J7_fill_d0a16 : GoodIn wsX5_fewest (va_wsS RX5 19 yJ7_fill_d0a16 wsJ7_fill_d0a16) := goodIn_app (goodIn_of _ (by decide +kernel)) ggX5_fewest_J7_fill_d0a16
set_option maxRecDepth 20000 in
theorem ggX5_fewest_X5_add : GoodIn wsX5_fewest wsX5_add := goodIn_r _ [14, 1, 2, 5, 71, 72, 73] (by decide +kernel) (by decide +kernel)
set_option maxRecDepth 20000 in
theorem gX5_fewest_X5_add : GoodIn wsX5_fewest (wsV RX5 37 RX5 yX5_add wsX5_add) := goodIn_app (goodIn_of _ (by decide +kernel)) ggX5_fewest_X5_add
set_option maxRecDepth 20000 in
theorem ggX5_fewest_X5_isAimed : GoodIn wsX5_fewest wsX5_isAimed := goodIn_r _ [17, 3, 4, 18, 19, 13, 20, 21, 22, 23, 24, 25, 26, 27, 74, 75] (by decide +kernel) (by decide +kernel)
set_option maxRecDepth 20000 in
theorem gX5_fewest_X5_isAimed : GoodIn wsX5_fewest (va_wsS RX5 41 yX5_isAimed wsX5_isAimed) := goodIn_app (goodIn_of _ (by decide +kernel)) ggX5_fewest_X5_isAimed
set_option maxRecDepth 20000 in
theorem ggX5_fewest_X5_goOn : GoodIn wsX5_fewest wsX5_goOn := goodIn_r _ [31, 32, 33, 34, 35, 36, 37, 38, 18, 19, 13, 20, 39, 40, 41, 42, 21, 22, 23, 43, 44, 45, 46, 47, 48, 49, 50, 51, 52, 53, 54, 26, 55, 56, 57, 58, 59, 60, 61, 62, 63, 64, 65, 66, 67, 68, 69, 70, 10, 11, 12, 14, 1, 2, 5, 76, 77, 78, 79, 71, 72, 73] (by decide +kernel) (by decide +kernel)
set_option maxRecDepth 20000 in
theorem gX5_fewest_X5_goOn : GoodIn wsX5_fewest (wsV RX5 45 RX5 yX5_goOn wsX5_goOn) := goodIn_app (goodIn_of _ (by decide +kernel)) ggX5_fewest_X5_goOn
theorem dX5_fewest_0 : decode cX5_fewest 0 = .ok (.aload_n 0, 1) := by decide +kernel
theorem dX5_fewest_1 : decode cX5_fewest 1 = .ok (.getfield 11, 3) := by decide +kernel
theorem dX5_fewest_4 : decode cX5_fewest 4 = .ok (.lconst 0, 1) := by decide +kernel
theorem dX5_fewest_5 : decode cX5_fewest 5 = .ok (.invokestatic 19, 3) := by decide +kernel
theorem dX5_fewest_8 : decode cX5_fewest 8 = .ok (.aload_n 0, 1) := by decide +kernel
theorem dX5_fewest_9 : decode cX5_fewest 9 = .ok (.iconst 0, 1) := by decide +kernel
theorem dX5_fewest_10 : decode cX5_fewest 10 = .ok (.putfield 25, 3) := by decide +kernel
theorem dX5_fewest_13 : decode cX5_fewest 13 = .ok (.aload_n 0, 1) := by decide +kernel
theorem dX5_fewest_14 : decode cX5_fewest 14 = .ok (.aload_n 2, 1) := by decide +kernel
theorem dX5_fewest_15 : decode cX5_fewest 15 = .ok (.getfield 29, 3) := by decide +kernel
theorem dX5_fewest_18 : decode cX5_fewest 18 = .ok (.aload_n 2, 1) := by decide +kernel
theorem dX5_fewest_19 : decode cX5_fewest 19 = .ok (.getfield 34, 3) := by decide +kernel
theorem dX5_fewest_22 : decode cX5_fewest 22 = .ok (.iconst 0, 1) := by decide +kernel
theorem dX5_fewest_23 : decode cX5_fewest 23 = .ok (.iaload, 1) := by decide +kernel
theorem dX5_fewest_24 : decode cX5_fewest 24 = .ok (.aload_n 2, 1) := by decide +kernel
theorem dX5_fewest_25 : decode cX5_fewest 25 = .ok (.getfield 34, 3) := by decide +kernel
theorem dX5_fewest_28 : decode cX5_fewest 28 = .ok (.iconst 1, 1) := by decide +kernel
theorem dX5_fewest_29 : decode cX5_fewest 29 = .ok (.iaload, 1) := by decide +kernel
theorem dX5_fewest_30 : decode cX5_fewest 30 = .ok (.invokevirtual 37, 3) := by decide +kernel
theorem dX5_fewest_33 : decode cX5_fewest 33 = .ok (.iconst 0, 1) := by decide +kernel
theorem dX5_fewest_34 : decode cX5_fewest 34 = .ok (.istore 5, 2) := by decide +kernel
theorem dX5_fewest_36 : decode cX5_fewest 36 = .ok (.iconst 0, 1) := by decide +kernel
theorem dX5_fewest_37 : decode cX5_fewest 37 = .ok (.istore 6, 2) := by decide +kernel
theorem dX5_fewest_39 : decode cX5_fewest 39 = .ok (.iload 6, 2) := by decide +kernel
theorem dX5_fewest_41 : decode cX5_fewest 41 = .ok (.sipush 12800, 3) := by decide +kernel
theorem dX5_fewest_44 : decode cX5_fewest 44 = .ok (.if_icmp .ge 68, 3) := by decide +kernel
theorem dX5_fewest_47 : decode cX5_fewest 47 = .ok (.iload 5, 2) := by decide +kernel
theorem dX5_fewest_49 : decode cX5_fewest 49 = .ok (.aload_n 0, 1) := by decide +kernel
theorem dX5_fewest_50 : decode cX5_fewest 50 = .ok (.getfield 25, 3) := by decide +kernel
theorem dX5_fewest_53 : decode cX5_fewest 53 = .ok (.if_icmp .ge 59, 3) := by decide +kernel
theorem dX5_fewest_56 : decode cX5_fewest 56 = .ok (.aload_n 0, 1) := by decide +kernel
theorem dX5_fewest_57 : decode cX5_fewest 57 = .ok (.getfield 25, 3) := by decide +kernel
theorem dX5_fewest_60 : decode cX5_fewest 60 = .ok (.istore 7, 2) := by decide +kernel
theorem dX5_fewest_62 : decode cX5_fewest 62 = .ok (.iload 5, 2) := by decide +kernel
theorem dX5_fewest_64 : decode cX5_fewest 64 = .ok (.iload 7, 2) := by decide +kernel
theorem dX5_fewest_66 : decode cX5_fewest 66 = .ok (.if_icmp .ge 40, 3) := by decide +kernel
theorem dX5_fewest_69 : decode cX5_fewest 69 = .ok (.aload_n 0, 1) := by decide +kernel
theorem dX5_fewest_70 : decode cX5_fewest 70 = .ok (.getfield 15, 3) := by decide +kernel
theorem dX5_fewest_73 : decode cX5_fewest 73 = .ok (.iload 5, 2) := by decide +kernel
theorem dX5_fewest_75 : decode cX5_fewest 75 = .ok (.iaload, 1) := by decide +kernel
theorem dX5_fewest_76 : decode cX5_fewest 76 = .ok (.aload_n 3, 1) := by decide +kernel
theorem dX5_fewest_77 : decode cX5_fewest 77 = .ok (.invokestatic 41, 3) := by decide +kernel
theorem dX5_fewest_80 : decode cX5_fewest 80 = .ok (.ifCond .eq 6, 3) := by decide +kernel
theorem dX5_fewest_83 : decode cX5_fewest 83 = .ok (.iload 6, 2) := by decide +kernel
theorem dX5_fewest_85 : decode cX5_fewest 85 = .ok (.ireturn, 1) := by decide +kernel
theorem dX5_fewest_86 : decode cX5_fewest 86 = .ok (.aload_n 0, 1) := by decide +kernel
theorem dX5_fewest_87 : decode cX5_fewest 87 = .ok (.aload_n 1, 1) := by decide +kernel
theorem dX5_fewest_88 : decode cX5_fewest 88 = .ok (.aload_n 0, 1) := by decide +kernel
theorem dX5_fewest_89 : decode cX5_fewest 89 = .ok (.getfield 15, 3) := by decide +kernel
theorem dX5_fewest_92 : decode cX5_fewest 92 = .ok (.iload 5, 2) := by decide +kernel
theorem dX5_fewest_94 : decode cX5_fewest 94 = .ok (.iaload, 1) := by decide +kernel
theorem dX5_fewest_95 : decode cX5_fewest 95 = .ok (.iload 4, 2) := by decide +kernel
theorem dX5_fewest_97 : decode cX5_fewest 97 = .ok (.invokevirtual 45, 3) := by decide +kernel
theorem dX5_fewest_100 : decode cX5_fewest 100 = .ok (.iinc 5 1, 3) := by decide +kernel
theorem dX5_fewest_103 : decode cX5_fewest 103 = .ok (.goto (-41), 3) := by decide +kernel
theorem dX5_fewest_106 : decode cX5_fewest 106 = .ok (.iinc 6 1, 3) := by decide +kernel
theorem dX5_fewest_109 : decode cX5_fewest 109 = .ok (.goto (-70), 3) := by decide +kernel
theorem dX5_fewest_112 : decode cX5_fewest 112 = .ok (.bipush (-4), 2) := by decide +kernel
theorem dX5_fewest_114 : decode cX5_fewest 114 = .ok (.ireturn, 1) := by decide +kernel
theorem dX5_add_0 : decode cX5_add 0 = .ok (.iload_n 1, 1) := by decide +kernel
theorem dX5_add_1 : decode cX5_add 1 = .ok (.bipush 6, 2) := by decide +kernel
theorem dX5_add_3 : decode cX5_add 3 = .ok (.ishl, 1) := by decide +kernel
theorem dX5_add_4 : decode cX5_add 4 = .ok (.iload_n 2, 1) := by decide +kernel
theorem dX5_add_5 : decode cX5_add 5 = .ok (.ior, 1) := by decide +kernel
theorem dX5_add_6 : decode cX5_add 6 = .ok (.bipush 6, 2) := by decide +kernel
theorem dX5_add_8 : decode cX5_add 8 = .ok (.ishl, 1) := by decide +kernel
theorem dX5_add_9 : decode cX5_add 9 = .ok (.iload_n 3, 1) := by decide +kernel
theorem dX5_add_10 : decode cX5_add 10 = .ok (.ior, 1) := by decide +kernel
theorem dX5_add_11 : decode cX5_add 11 = .ok (.istore 4, 2) := by decide +kernel
theorem dX5_add_13 : decode cX5_add 13 = .ok (.lconst 1, 1) := by decide +kernel
theorem dX5_add_14 : decode cX5_add 14 = .ok (.iload 4, 2) := by decide +kernel
theorem dX5_add_16 : decode cX5_add 16 = .ok (.bipush 63, 2) := by decide +kernel
theorem dX5_add_18 : decode cX5_add 18 = .ok (.iand, 1) := by decide +kernel
theorem dX5_add_19 : decode cX5_add 19 = .ok (.lshl, 1) := by decide +kernel
theorem dX5_add_20 : decode cX5_add 20 = .ok (.lstore 5, 2) := by decide +kernel
theorem dX5_add_22 : decode cX5_add 22 = .ok (.aload_n 0, 1) := by decide +kernel
theorem dX5_add_23 : decode cX5_add 23 = .ok (.getfield 11, 3) := by decide +kernel
theorem dX5_add_26 : decode cX5_add 26 = .ok (.iload 4, 2) := by decide +kernel
theorem dX5_add_28 : decode cX5_add 28 = .ok (.bipush 6, 2) := by decide +kernel
theorem dX5_add_30 : decode cX5_add 30 = .ok (.ishr, 1) := by decide +kernel
theorem dX5_add_31 : decode cX5_add 31 = .ok (.laload, 1) := by decide +kernel
theorem dX5_add_32 : decode cX5_add 32 = .ok (.lload 5, 2) := by decide +kernel
theorem dX5_add_34 : decode cX5_add 34 = .ok (.land, 1) := by decide +kernel
theorem dX5_add_35 : decode cX5_add 35 = .ok (.lconst 0, 1) := by decide +kernel
theorem dX5_add_36 : decode cX5_add 36 = .ok (.lcmp, 1) := by decide +kernel
theorem dX5_add_37 : decode cX5_add 37 = .ok (.ifCond .ne 49, 3) := by decide +kernel
theorem dX5_add_40 : decode cX5_add 40 = .ok (.aload_n 0, 1) := by decide +kernel
theorem dX5_add_41 : decode cX5_add 41 = .ok (.getfield 25, 3) := by decide +kernel
theorem dX5_add_44 : decode cX5_add 44 = .ok (.sipush 12800, 3) := by decide +kernel
theorem dX5_add_47 : decode cX5_add 47 = .ok (.if_icmp .ge 39, 3) := by decide +kernel
theorem dX5_add_50 : decode cX5_add 50 = .ok (.aload_n 0, 1) := by decide +kernel
theorem dX5_add_51 : decode cX5_add 51 = .ok (.getfield 11, 3) := by decide +kernel
theorem dX5_add_54 : decode cX5_add 54 = .ok (.iload 4, 2) := by decide +kernel
theorem dX5_add_56 : decode cX5_add 56 = .ok (.bipush 6, 2) := by decide +kernel
theorem dX5_add_58 : decode cX5_add 58 = .ok (.ishr, 1) := by decide +kernel
theorem dX5_add_59 : decode cX5_add 59 = .ok (.dup2, 1) := by decide +kernel
theorem dX5_add_60 : decode cX5_add 60 = .ok (.laload, 1) := by decide +kernel
theorem dX5_add_61 : decode cX5_add 61 = .ok (.lload 5, 2) := by decide +kernel
theorem dX5_add_63 : decode cX5_add 63 = .ok (.lor, 1) := by decide +kernel
theorem dX5_add_64 : decode cX5_add 64 = .ok (.lastore, 1) := by decide +kernel
theorem dX5_add_65 : decode cX5_add 65 = .ok (.aload_n 0, 1) := by decide +kernel
theorem dX5_add_66 : decode cX5_add 66 = .ok (.getfield 15, 3) := by decide +kernel
theorem dX5_add_69 : decode cX5_add 69 = .ok (.aload_n 0, 1) := by decide +kernel
theorem dX5_add_70 : decode cX5_add 70 = .ok (.getfield 25, 3) := by decide +kernel
theorem dX5_add_73 : decode cX5_add 73 = .ok (.iload 4, 2) := by decide +kernel
theorem dX5_add_75 : decode cX5_add 75 = .ok (.iastore, 1) := by decide +kernel
theorem dX5_add_76 : decode cX5_add 76 = .ok (.aload_n 0, 1) := by decide +kernel
theorem dX5_add_77 : decode cX5_add 77 = .ok (.dup, 1) := by decide +kernel
theorem dX5_add_78 : decode cX5_add 78 = .ok (.getfield 25, 3) := by decide +kernel
theorem dX5_add_81 : decode cX5_add 81 = .ok (.iconst 1, 1) := by decide +kernel
theorem dX5_add_82 : decode cX5_add 82 = .ok (.iadd, 1) := by decide +kernel
theorem dX5_add_83 : decode cX5_add 83 = .ok (.putfield 25, 3) := by decide +kernel
theorem dX5_add_86 : decode cX5_add 86 = .ok (.return_, 1) := by decide +kernel
theorem dX5_stateOf_0 : decode cX5_stateOf 0 = .ok (.iload_n 0, 1) := by decide +kernel
theorem dX5_stateOf_1 : decode cX5_stateOf 1 = .ok (.bipush 12, 2) := by decide +kernel
theorem dX5_stateOf_3 : decode cX5_stateOf 3 = .ok (.ishr, 1) := by decide +kernel
theorem dX5_stateOf_4 : decode cX5_stateOf 4 = .ok (.ireturn, 1) := by decide +kernel
theorem dX5_wordOf_0 : decode cX5_wordOf 0 = .ok (.iload_n 1, 1) := by decide +kernel
theorem dX5_wordOf_1 : decode cX5_wordOf 1 = .ok (.ifCond .ne 10, 3) := by decide +kernel
theorem dX5_wordOf_4 : decode cX5_wordOf 4 = .ok (.iload_n 0, 1) := by decide +kernel
theorem dX5_wordOf_5 : decode cX5_wordOf 5 = .ok (.bipush 6, 2) := by decide +kernel
theorem dX5_wordOf_7 : decode cX5_wordOf 7 = .ok (.ishr, 1) := by decide +kernel
theorem dX5_wordOf_8 : decode cX5_wordOf 8 = .ok (.goto 4, 3) := by decide +kernel
theorem dX5_wordOf_11 : decode cX5_wordOf 11 = .ok (.iload_n 0, 1) := by decide +kernel
theorem dX5_wordOf_12 : decode cX5_wordOf 12 = .ok (.bipush 63, 2) := by decide +kernel
theorem dX5_wordOf_14 : decode cX5_wordOf 14 = .ok (.iand, 1) := by decide +kernel
theorem dX5_wordOf_15 : decode cX5_wordOf 15 = .ok (.ireturn, 1) := by decide +kernel
set_option maxRecDepth 20000 in
theorem ggX5_isAimed_X5_stateOf : GoodIn wsX5_isAimed wsX5_stateOf := goodIn_r _ [6] (by decide +kernel) (by decide +kernel)
set_option maxRecDepth 20000 in
theorem gX5_isAimed_X5_stateOf : GoodIn wsX5_isAimed (va_wsS RX5 49 yX5_stateOf wsX5_stateOf) := goodIn_app (goodIn_of _ (by decide +kernel)) ggX5_isAimed_X5_stateOf
set_option maxRecDepth 20000 in
theorem ggX5_isAimed_X5_wordOf : GoodIn wsX5_isAimed wsX5_wordOf := goodIn_r _ [9] (by decide +kernel) (by decide +kernel)
set_option maxRecDepth 20000 in
theorem gX5_isAimed_X5_wordOf : GoodIn wsX5_isAimed (va_wsS RX5 53 yX5_wordOf wsX5_wordOf) := goodIn_app (goodIn_of _ (by decide +kernel)) ggX5_isAimed_X5_wordOf
set_option maxRecDepth 20000 in
theorem ggX5_isAimed_X6_isIn : GoodIn wsX5_isAimed wsX6_isIn := goodIn_r _ [13] (by decide +kernel) (by decide +kernel)
set_option maxRecDepth 20000 in
theorem gX5_isAimed_X6_isIn : GoodIn wsX5_isAimed (va_wsS RX5 57 yX6_isIn wsX6_isIn) := goodIn_app (goodIn_of _ (by decide +kernel)) ggX5_isAimed_X6_isIn
theorem dX5_isAimed_0 : decode cX5_isAimed 0 = .ok (.iload_n 0, 1) := by decide +kernel
theorem dX5_isAimed_1 : decode cX5_isAimed 1 = .ok (.invokestatic 49, 3) := by decide +kernel
theorem dX5_isAimed_4 : decode cX5_isAimed 4 = .ok (.aload_n 1, 1) := by decide +kernel
theorem dX5_isAimed_5 : decode cX5_isAimed 5 = .ok (.getfield 29, 3) := by decide +kernel
theorem dX5_isAimed_8 : decode cX5_isAimed 8 = .ok (.if_icmp .ne 41, 3) := by decide +kernel
theorem dX5_isAimed_11 : decode cX5_isAimed 11 = .ok (.aload_n 1, 1) := by decide +kernel
theorem dX5_isAimed_12 : decode cX5_isAimed 12 = .ok (.getfield 34, 3) := by decide +kernel
theorem dX5_isAimed_15 : decode cX5_isAimed 15 = .ok (.iconst 0, 1) := by decide +kernel
theorem dX5_isAimed_16 : decode cX5_isAimed 16 = .ok (.iaload, 1) := by decide +kernel
theorem dX5_isAimed_17 : decode cX5_isAimed 17 = .ok (.iload_n 0, 1) := by decide +kernel
theorem dX5_isAimed_18 : decode cX5_isAimed 18 = .ok (.iconst 0, 1) := by decide +kernel
theorem dX5_isAimed_19 : decode cX5_isAimed 19 = .ok (.invokestatic 53, 3) := by decide +kernel
theorem dX5_isAimed_22 : decode cX5_isAimed 22 = .ok (.invokestatic 57, 3) := by decide +kernel
theorem dX5_isAimed_25 : decode cX5_isAimed 25 = .ok (.ifCond .eq 24, 3) := by decide +kernel
theorem dX5_isAimed_28 : decode cX5_isAimed 28 = .ok (.aload_n 1, 1) := by decide +kernel
theorem dX5_isAimed_29 : decode cX5_isAimed 29 = .ok (.getfield 34, 3) := by decide +kernel
theorem dX5_isAimed_32 : decode cX5_isAimed 32 = .ok (.iconst 1, 1) := by decide +kernel
theorem dX5_isAimed_33 : decode cX5_isAimed 33 = .ok (.iaload, 1) := by decide +kernel
theorem dX5_isAimed_34 : decode cX5_isAimed 34 = .ok (.iload_n 0, 1) := by decide +kernel
theorem dX5_isAimed_35 : decode cX5_isAimed 35 = .ok (.iconst 1, 1) := by decide +kernel
theorem dX5_isAimed_36 : decode cX5_isAimed 36 = .ok (.invokestatic 53, 3) := by decide +kernel
theorem dX5_isAimed_39 : decode cX5_isAimed 39 = .ok (.invokestatic 57, 3) := by decide +kernel
theorem dX5_isAimed_42 : decode cX5_isAimed 42 = .ok (.ifCond .eq 7, 3) := by decide +kernel
theorem dX5_isAimed_45 : decode cX5_isAimed 45 = .ok (.iconst 1, 1) := by decide +kernel
theorem dX5_isAimed_46 : decode cX5_isAimed 46 = .ok (.goto 4, 3) := by decide +kernel
theorem dX5_isAimed_49 : decode cX5_isAimed 49 = .ok (.iconst 0, 1) := by decide +kernel
theorem dX5_isAimed_50 : decode cX5_isAimed 50 = .ok (.ireturn, 1) := by decide +kernel
set_option maxRecDepth 20000 in
theorem ggX5_goOn_X0_part : GoodIn wsX5_goOn wsX0_part := goodIn_r _ [6, 7, 55, 56, 57, 58] (by decide +kernel) (by decide +kernel)
set_option maxRecDepth 20000 in
theorem gX5_goOn_X0_part : GoodIn wsX5_goOn (wsV RX5 68 RX0 yX0_part wsX0_part) := goodIn_app (goodIn_of _ (by decide +kernel)) ggX5_goOn_X0_part
set_option maxRecDepth 20000 in
theorem ggX5_goOn_X5_stateOf : GoodIn wsX5_goOn wsX5_stateOf := goodIn_r _ [11] (by decide +kernel) (by decide +kernel)
set_option maxRecDepth 20000 in
theorem gX5_goOn_X5_stateOf : GoodIn wsX5_goOn (va_wsS RX5 49 yX5_stateOf wsX5_stateOf) := goodIn_app (goodIn_of _ (by decide +kernel)) ggX5_goOn_X5_stateOf
set_option maxRecDepth 20000 in
theorem ggX5_goOn_X5_goBy : GoodIn wsX5_goOn wsX5_goBy := goodIn_r _ [15, 2, 3, 4, 5, 6, 7, 16, 17, 10, 18, 19, 20, 21, 22, 23, 24, 25, 26, 27, 28, 29, 30, 31, 32, 33, 34, 35, 36, 37, 38, 39, 40, 41, 42, 43, 44, 45, 46, 47, 48, 49, 50, 51, 52, 53, 54, 55, 56, 57, 58, 59, 60, 61] (by decide +kernel) (by decide +kernel)
set_option maxRecDepth 20000 in
theorem gX5_goOn_X5_goBy : GoodIn wsX5_goOn (wsV RX5 71 RX5 yX5_goBy wsX5_goBy) := goodIn_app (goodIn_of _ (by decide +kernel)) ggX5_goOn_X5_goBy
theorem dX5_goOn_0 : decode cX5_goOn 0 = .ok (.iconst 0, 1) := by decide +kernel
theorem dX5_goOn_1 : decode cX5_goOn 1 = .ok (.istore 4, 2) := by decide +kernel
theorem dX5_goOn_3 : decode cX5_goOn 3 = .ok (.iload 4, 2) := by decide +kernel
theorem dX5_goOn_5 : decode cX5_goOn 5 = .ok (.aload_n 1, 1) := by decide +kernel
theorem dX5_goOn_6 : decode cX5_goOn 6 = .ok (.getfield 63, 3) := by decide +kernel
theorem dX5_goOn_9 : decode cX5_goOn 9 = .ok (.if_icmp .ge 32, 3) := by decide +kernel
theorem dX5_goOn_12 : decode cX5_goOn 12 = .ok (.aload_n 1, 1) := by decide +kernel
theorem dX5_goOn_13 : decode cX5_goOn 13 = .ok (.iload 4, 2) := by decide +kernel
theorem dX5_goOn_15 : decode cX5_goOn 15 = .ok (.iconst 0, 1) := by decide +kernel
theorem dX5_goOn_16 : decode cX5_goOn 16 = .ok (.invokevirtual 68, 3) := by decide +kernel
theorem dX5_goOn_19 : decode cX5_goOn 19 = .ok (.iload_n 2, 1) := by decide +kernel
theorem dX5_goOn_20 : decode cX5_goOn 20 = .ok (.invokestatic 49, 3) := by decide +kernel
theorem dX5_goOn_23 : decode cX5_goOn 23 = .ok (.if_icmp .ne 12, 3) := by decide +kernel
theorem dX5_goOn_26 : decode cX5_goOn 26 = .ok (.aload_n 0, 1) := by decide +kernel
theorem dX5_goOn_27 : decode cX5_goOn 27 = .ok (.aload_n 1, 1) := by decide +kernel
theorem dX5_goOn_28 : decode cX5_goOn 28 = .ok (.iload 4, 2) := by decide +kernel
theorem dX5_goOn_30 : decode cX5_goOn 30 = .ok (.iload_n 2, 1) := by decide +kernel
theorem dX5_goOn_31 : decode cX5_goOn 31 = .ok (.iload_n 3, 1) := by decide +kernel
theorem dX5_goOn_32 : decode cX5_goOn 32 = .ok (.invokevirtual 71, 3) := by decide +kernel
theorem dX5_goOn_35 : decode cX5_goOn 35 = .ok (.iinc 4 1, 3) := by decide +kernel
theorem dX5_goOn_38 : decode cX5_goOn 38 = .ok (.goto (-35), 3) := by decide +kernel
theorem dX5_goOn_41 : decode cX5_goOn 41 = .ok (.return_, 1) := by decide +kernel
set_option maxRecDepth 20000 in
theorem ggX5_goBy_X0_part : GoodIn wsX5_goBy wsX0_part := goodIn_r _ [5, 6, 47, 48, 49, 50] (by decide +kernel) (by decide +kernel)
set_option maxRecDepth 20000 in
theorem gX5_goBy_X0_part : GoodIn wsX5_goBy (wsV RX5 68 RX0 yX0_part wsX0_part) := goodIn_app (goodIn_of _ (by decide +kernel)) ggX5_goBy_X0_part
set_option maxRecDepth 20000 in
theorem ggX5_goBy_X5_wordOf : GoodIn wsX5_goBy wsX5_wordOf := goodIn_r _ [10] (by decide +kernel) (by decide +kernel)
set_option maxRecDepth 20000 in
theorem gX5_goBy_X5_wordOf : GoodIn wsX5_goBy (va_wsS RX5 53 yX5_wordOf wsX5_wordOf) := goodIn_app (goodIn_of _ (by decide +kernel)) ggX5_goBy_X5_wordOf
set_option maxRecDepth 20000 in
theorem ggX5_goBy_X0_wordBehind : GoodIn wsX5_goBy wsX0_wordBehind := goodIn_r _ [14, 15, 16, 2, 3, 4, 5, 6, 17, 18, 19, 20, 21, 22, 23, 24, 25, 26, 27, 28, 29, 30, 31, 32, 33, 34, 35, 36, 47, 48, 49, 50] (by decide +kernel) (by decide +kernel)
set_option maxRecDepth 20000 in
theorem gX5_goBy_X0_wordBehind : GoodIn wsX5_goBy (wsV RX5 75 RX0 yX0_wordBehind wsX0_wordBehind) := goodIn_app (goodIn_of _ (by decide +kernel)) ggX5_goBy_X0_wordBehind
set_option maxRecDepth 20000 in
theorem ggX5_goBy_X6_isLonger : GoodIn wsX5_goBy wsX6_isLonger := goodIn_r _ [39] (by decide +kernel) (by decide +kernel)
set_option maxRecDepth 20000 in
theorem gX5_goBy_X6_isLonger : GoodIn wsX5_goBy (va_wsS RX5 78 yX6_isLonger wsX6_isLonger) := goodIn_app (goodIn_of _ (by decide +kernel)) ggX5_goBy_X6_isLonger
set_option maxRecDepth 20000 in
theorem ggX5_goBy_X5_add : GoodIn wsX5_goBy wsX5_add := goodIn_r _ [43, 44, 45, 46, 51, 52, 53] (by decide +kernel) (by decide +kernel)
set_option maxRecDepth 20000 in
theorem gX5_goBy_X5_add : GoodIn wsX5_goBy (wsV RX5 37 RX5 yX5_add wsX5_add) := goodIn_app (goodIn_of _ (by decide +kernel)) ggX5_goBy_X5_add
theorem dX5_goBy_0 : decode cX5_goBy 0 = .ok (.aload_n 1, 1) := by decide +kernel
theorem dX5_goBy_1 : decode cX5_goBy 1 = .ok (.iload_n 2, 1) := by decide +kernel
theorem dX5_goBy_2 : decode cX5_goBy 2 = .ok (.iconst 2, 1) := by decide +kernel
theorem dX5_goBy_3 : decode cX5_goBy 3 = .ok (.invokevirtual 68, 3) := by decide +kernel
theorem dX5_goBy_6 : decode cX5_goBy 6 = .ok (.istore 5, 2) := by decide +kernel
theorem dX5_goBy_8 : decode cX5_goBy 8 = .ok (.aload_n 1, 1) := by decide +kernel
theorem dX5_goBy_9 : decode cX5_goBy 9 = .ok (.iload_n 2, 1) := by decide +kernel
theorem dX5_goBy_10 : decode cX5_goBy 10 = .ok (.iload_n 3, 1) := by decide +kernel
theorem dX5_goBy_11 : decode cX5_goBy 11 = .ok (.iload 5, 2) := by decide +kernel
theorem dX5_goBy_13 : decode cX5_goBy 13 = .ok (.invokestatic 53, 3) := by decide +kernel
theorem dX5_goBy_16 : decode cX5_goBy 16 = .ok (.invokevirtual 75, 3) := by decide +kernel
theorem dX5_goBy_19 : decode cX5_goBy 19 = .ok (.istore 6, 2) := by decide +kernel
theorem dX5_goBy_21 : decode cX5_goBy 21 = .ok (.iload 6, 2) := by decide +kernel
theorem dX5_goBy_23 : decode cX5_goBy 23 = .ok (.iconst (-1), 1) := by decide +kernel
theorem dX5_goBy_24 : decode cX5_goBy 24 = .ok (.if_icmp .eq 13, 3) := by decide +kernel
theorem dX5_goBy_27 : decode cX5_goBy 27 = .ok (.iload 6, 2) := by decide +kernel
theorem dX5_goBy_29 : decode cX5_goBy 29 = .ok (.iload 4, 2) := by decide +kernel
theorem dX5_goBy_31 : decode cX5_goBy 31 = .ok (.invokestatic 78, 3) := by decide +kernel
theorem dX5_goBy_34 : decode cX5_goBy 34 = .ok (.ifCond .eq 4, 3) := by decide +kernel
theorem dX5_goBy_37 : decode cX5_goBy 37 = .ok (.return_, 1) := by decide +kernel
theorem dX5_goBy_38 : decode cX5_goBy 38 = .ok (.aload_n 1, 1) := by decide +kernel
theorem dX5_goBy_39 : decode cX5_goBy 39 = .ok (.iload_n 2, 1) := by decide +kernel
theorem dX5_goBy_40 : decode cX5_goBy 40 = .ok (.iconst 4, 1) := by decide +kernel
theorem dX5_goBy_41 : decode cX5_goBy 41 = .ok (.invokevirtual 68, 3) := by decide +kernel
theorem dX5_goBy_44 : decode cX5_goBy 44 = .ok (.istore 7, 2) := by decide +kernel
theorem dX5_goBy_46 : decode cX5_goBy 46 = .ok (.aload_n 0, 1) := by decide +kernel
theorem dX5_goBy_47 : decode cX5_goBy 47 = .ok (.iload 7, 2) := by decide +kernel
theorem dX5_goBy_49 : decode cX5_goBy 49 = .ok (.iload 5, 2) := by decide +kernel
theorem dX5_goBy_51 : decode cX5_goBy 51 = .ok (.ifCond .ne 8, 3) := by decide +kernel
theorem dX5_goBy_54 : decode cX5_goBy 54 = .ok (.iload 6, 2) := by decide +kernel
theorem dX5_goBy_56 : decode cX5_goBy 56 = .ok (.goto 8, 3) := by decide +kernel
theorem dX5_goBy_59 : decode cX5_goBy 59 = .ok (.iload_n 3, 1) := by decide +kernel
theorem dX5_goBy_60 : decode cX5_goBy 60 = .ok (.iconst 0, 1) := by decide +kernel
theorem dX5_goBy_61 : decode cX5_goBy 61 = .ok (.invokestatic 53, 3) := by decide +kernel
theorem dX5_goBy_64 : decode cX5_goBy 64 = .ok (.iload 5, 2) := by decide +kernel
theorem dX5_goBy_66 : decode cX5_goBy 66 = .ok (.iconst 1, 1) := by decide +kernel
theorem dX5_goBy_67 : decode cX5_goBy 67 = .ok (.if_icmp .ne 8, 3) := by decide +kernel
theorem dX5_goBy_70 : decode cX5_goBy 70 = .ok (.iload 6, 2) := by decide +kernel
theorem dX5_goBy_72 : decode cX5_goBy 72 = .ok (.goto 8, 3) := by decide +kernel
theorem dX5_goBy_75 : decode cX5_goBy 75 = .ok (.iload_n 3, 1) := by decide +kernel
theorem dX5_goBy_76 : decode cX5_goBy 76 = .ok (.iconst 1, 1) := by decide +kernel
theorem dX5_goBy_77 : decode cX5_goBy 77 = .ok (.invokestatic 53, 3) := by decide +kernel
theorem dX5_goBy_80 : decode cX5_goBy 80 = .ok (.invokevirtual 37, 3) := by decide +kernel
theorem dX5_goBy_83 : decode cX5_goBy 83 = .ok (.return_, 1) := by decide +kernel
theorem dX6_size_0 : decode cX6_size 0 = .ok (.iconst 0, 1) := by decide +kernel
theorem dX6_size_1 : decode cX6_size 1 = .ok (.istore_n 1, 1) := by decide +kernel
theorem dX6_size_2 : decode cX6_size 2 = .ok (.iload_n 1, 1) := by decide +kernel
theorem dX6_size_3 : decode cX6_size 3 = .ok (.bipush 15, 2) := by decide +kernel
theorem dX6_size_5 : decode cX6_size 5 = .ok (.if_icmp .ge 17, 3) := by decide +kernel
theorem dX6_size_8 : decode cX6_size 8 = .ok (.iload_n 0, 1) := by decide +kernel
theorem dX6_size_9 : decode cX6_size 9 = .ok (.iconst 2, 1) := by decide +kernel
theorem dX6_size_10 : decode cX6_size 10 = .ok (.iload_n 1, 1) := by decide +kernel
theorem dX6_size_11 : decode cX6_size 11 = .ok (.imul, 1) := by decide +kernel
theorem dX6_size_12 : decode cX6_size 12 = .ok (.iushr, 1) := by decide +kernel
theorem dX6_size_13 : decode cX6_size 13 = .ok (.ifCond .eq 9, 3) := by decide +kernel
theorem dX6_size_16 : decode cX6_size 16 = .ok (.iinc 1 1, 3) := by decide +kernel
theorem dX6_size_19 : decode cX6_size 19 = .ok (.goto (-17), 3) := by decide +kernel
theorem dX6_size_22 : decode cX6_size 22 = .ok (.iload_n 1, 1) := by decide +kernel
theorem dX6_size_23 : decode cX6_size 23 = .ok (.ireturn, 1) := by decide +kernel
theorem dX6_isLonger_0 : decode cX6_isLonger 0 = .ok (.iload_n 0, 1) := by decide +kernel
theorem dX6_isLonger_1 : decode cX6_isLonger 1 = .ok (.iconst 2, 1) := by decide +kernel
theorem dX6_isLonger_2 : decode cX6_isLonger 2 = .ok (.iload_n 1, 1) := by decide +kernel
theorem dX6_isLonger_3 : decode cX6_isLonger 3 = .ok (.imul, 1) := by decide +kernel
theorem dX6_isLonger_4 : decode cX6_isLonger 4 = .ok (.iushr, 1) := by decide +kernel
theorem dX6_isLonger_5 : decode cX6_isLonger 5 = .ok (.ifCond .eq 7, 3) := by decide +kernel
theorem dX6_isLonger_8 : decode cX6_isLonger 8 = .ok (.iconst 1, 1) := by decide +kernel
theorem dX6_isLonger_9 : decode cX6_isLonger 9 = .ok (.goto 4, 3) := by decide +kernel
theorem dX6_isLonger_12 : decode cX6_isLonger 12 = .ok (.iconst 0, 1) := by decide +kernel
theorem dX6_isLonger_13 : decode cX6_isLonger 13 = .ok (.ireturn, 1) := by decide +kernel
theorem dX6_at_0 : decode cX6_at 0 = .ok (.iload_n 0, 1) := by decide +kernel
theorem dX6_at_1 : decode cX6_at 1 = .ok (.iconst 2, 1) := by decide +kernel
theorem dX6_at_2 : decode cX6_at 2 = .ok (.iload_n 1, 1) := by decide +kernel
theorem dX6_at_3 : decode cX6_at 3 = .ok (.imul, 1) := by decide +kernel
theorem dX6_at_4 : decode cX6_at 4 = .ok (.iushr, 1) := by decide +kernel
theorem dX6_at_5 : decode cX6_at 5 = .ok (.iconst 3, 1) := by decide +kernel
theorem dX6_at_6 : decode cX6_at 6 = .ok (.iand, 1) := by decide +kernel
theorem dX6_at_7 : decode cX6_at 7 = .ok (.iconst 1, 1) := by decide +kernel
theorem dX6_at_8 : decode cX6_at 8 = .ok (.isub, 1) := by decide +kernel
theorem dX6_at_9 : decode cX6_at 9 = .ok (.ireturn, 1) := by decide +kernel
theorem dX6_with_0 : decode cX6_with 0 = .ok (.iload_n 0, 1) := by decide +kernel
theorem dX6_with_1 : decode cX6_with 1 = .ok (.iconst 1, 1) := by decide +kernel
theorem dX6_with_2 : decode cX6_with 2 = .ok (.iconst 2, 1) := by decide +kernel
theorem dX6_with_3 : decode cX6_with 3 = .ok (.iload_n 1, 1) := by decide +kernel
theorem dX6_with_4 : decode cX6_with 4 = .ok (.imul, 1) := by decide +kernel
theorem dX6_with_5 : decode cX6_with 5 = .ok (.ishl, 1) := by decide +kernel
theorem dX6_with_6 : decode cX6_with 6 = .ok (.iconst 1, 1) := by decide +kernel
theorem dX6_with_7 : decode cX6_with 7 = .ok (.isub, 1) := by decide +kernel
theorem dX6_with_8 : decode cX6_with 8 = .ok (.iand, 1) := by decide +kernel
theorem dX6_with_9 : decode cX6_with 9 = .ok (.istore_n 3, 1) := by decide +kernel
theorem dX6_with_10 : decode cX6_with 10 = .ok (.iload_n 0, 1) := by decide +kernel
theorem dX6_with_11 : decode cX6_with 11 = .ok (.iconst 2, 1) := by decide +kernel
theorem dX6_with_12 : decode cX6_with 12 = .ok (.iload_n 1, 1) := by decide +kernel
theorem dX6_with_13 : decode cX6_with 13 = .ok (.imul, 1) := by decide +kernel
theorem dX6_with_14 : decode cX6_with 14 = .ok (.iushr, 1) := by decide +kernel
theorem dX6_with_15 : decode cX6_with 15 = .ok (.istore 4, 2) := by decide +kernel
theorem dX6_with_17 : decode cX6_with 17 = .ok (.iload_n 3, 1) := by decide +kernel
theorem dX6_with_18 : decode cX6_with 18 = .ok (.iload 4, 2) := by decide +kernel
theorem dX6_with_20 : decode cX6_with 20 = .ok (.iconst 2, 1) := by decide +kernel
theorem dX6_with_21 : decode cX6_with 21 = .ok (.ishl, 1) := by decide +kernel
theorem dX6_with_22 : decode cX6_with 22 = .ok (.iload_n 2, 1) := by decide +kernel
theorem dX6_with_23 : decode cX6_with 23 = .ok (.iconst 1, 1) := by decide +kernel
theorem dX6_with_24 : decode cX6_with 24 = .ok (.iadd, 1) := by decide +kernel
theorem dX6_with_25 : decode cX6_with 25 = .ok (.ior, 1) := by decide +kernel
theorem dX6_with_26 : decode cX6_with 26 = .ok (.iconst 2, 1) := by decide +kernel
theorem dX6_with_27 : decode cX6_with 27 = .ok (.iload_n 1, 1) := by decide +kernel
theorem dX6_with_28 : decode cX6_with 28 = .ok (.imul, 1) := by decide +kernel
theorem dX6_with_29 : decode cX6_with 29 = .ok (.ishl, 1) := by decide +kernel
theorem dX6_with_30 : decode cX6_with 30 = .ok (.ior, 1) := by decide +kernel
theorem dX6_with_31 : decode cX6_with 31 = .ok (.ireturn, 1) := by decide +kernel
theorem dX6_without_0 : decode cX6_without 0 = .ok (.iload_n 0, 1) := by decide +kernel
theorem dX6_without_1 : decode cX6_without 1 = .ok (.iconst 1, 1) := by decide +kernel
theorem dX6_without_2 : decode cX6_without 2 = .ok (.iconst 2, 1) := by decide +kernel
theorem dX6_without_3 : decode cX6_without 3 = .ok (.iload_n 1, 1) := by decide +kernel
theorem dX6_without_4 : decode cX6_without 4 = .ok (.imul, 1) := by decide +kernel
theorem dX6_without_5 : decode cX6_without 5 = .ok (.ishl, 1) := by decide +kernel
theorem dX6_without_6 : decode cX6_without 6 = .ok (.iconst 1, 1) := by decide +kernel
theorem dX6_without_7 : decode cX6_without 7 = .ok (.isub, 1) := by decide +kernel
theorem dX6_without_8 : decode cX6_without 8 = .ok (.iand, 1) := by decide +kernel
theorem dX6_without_9 : decode cX6_without 9 = .ok (.istore_n 2, 1) := by decide +kernel
theorem dX6_without_10 : decode cX6_without 10 = .ok (.iload_n 0, 1) := by decide +kernel
theorem dX6_without_11 : decode cX6_without 11 = .ok (.iconst 2, 1) := by decide +kernel
theorem dX6_without_12 : decode cX6_without 12 = .ok (.iload_n 1, 1) := by decide +kernel
theorem dX6_without_13 : decode cX6_without 13 = .ok (.imul, 1) := by decide +kernel
theorem dX6_without_14 : decode cX6_without 14 = .ok (.iconst 2, 1) := by decide +kernel
theorem dX6_without_15 : decode cX6_without 15 = .ok (.iadd, 1) := by decide +kernel
theorem dX6_without_16 : decode cX6_without 16 = .ok (.iushr, 1) := by decide +kernel
theorem dX6_without_17 : decode cX6_without 17 = .ok (.istore_n 3, 1) := by decide +kernel
theorem dX6_without_18 : decode cX6_without 18 = .ok (.iload_n 2, 1) := by decide +kernel
theorem dX6_without_19 : decode cX6_without 19 = .ok (.iload_n 3, 1) := by decide +kernel
theorem dX6_without_20 : decode cX6_without 20 = .ok (.iconst 2, 1) := by decide +kernel
theorem dX6_without_21 : decode cX6_without 21 = .ok (.iload_n 1, 1) := by decide +kernel
theorem dX6_without_22 : decode cX6_without 22 = .ok (.imul, 1) := by decide +kernel
theorem dX6_without_23 : decode cX6_without 23 = .ok (.ishl, 1) := by decide +kernel
theorem dX6_without_24 : decode cX6_without 24 = .ok (.ior, 1) := by decide +kernel
theorem dX6_without_25 : decode cX6_without 25 = .ok (.ireturn, 1) := by decide +kernel
theorem dX6_find_0 : decode cX6_find 0 = .ok (.iconst 0, 1) := by decide +kernel
theorem dX6_find_1 : decode cX6_find 1 = .ok (.istore_n 2, 1) := by decide +kernel
theorem dX6_find_2 : decode cX6_find 2 = .ok (.iload_n 2, 1) := by decide +kernel
theorem dX6_find_3 : decode cX6_find 3 = .ok (.bipush 15, 2) := by decide +kernel
theorem dX6_find_5 : decode cX6_find 5 = .ok (.if_icmp .ge 24, 3) := by decide +kernel
theorem dX6_find_8 : decode cX6_find 8 = .ok (.iload_n 0, 1) := by decide +kernel
theorem dX6_find_9 : decode cX6_find 9 = .ok (.iconst 2, 1) := by decide +kernel
theorem dX6_find_10 : decode cX6_find 10 = .ok (.iload_n 2, 1) := by decide +kernel
theorem dX6_find_11 : decode cX6_find 11 = .ok (.imul, 1) := by decide +kernel
theorem dX6_find_12 : decode cX6_find 12 = .ok (.iushr, 1) := by decide +kernel
theorem dX6_find_13 : decode cX6_find 13 = .ok (.iconst 3, 1) := by decide +kernel
theorem dX6_find_14 : decode cX6_find 14 = .ok (.iand, 1) := by decide +kernel
theorem dX6_find_15 : decode cX6_find 15 = .ok (.iload_n 1, 1) := by decide +kernel
theorem dX6_find_16 : decode cX6_find 16 = .ok (.iconst 1, 1) := by decide +kernel
theorem dX6_find_17 : decode cX6_find 17 = .ok (.iadd, 1) := by decide +kernel
theorem dX6_find_18 : decode cX6_find 18 = .ok (.if_icmp .ne 5, 3) := by decide +kernel
theorem dX6_find_21 : decode cX6_find 21 = .ok (.iload_n 2, 1) := by decide +kernel
theorem dX6_find_22 : decode cX6_find 22 = .ok (.ireturn, 1) := by decide +kernel
theorem dX6_find_23 : decode cX6_find 23 = .ok (.iinc 2 1, 3) := by decide +kernel
theorem dX6_find_26 : decode cX6_find 26 = .ok (.goto (-24), 3) := by decide +kernel
theorem dX6_find_29 : decode cX6_find 29 = .ok (.iconst (-1), 1) := by decide +kernel
theorem dX6_find_30 : decode cX6_find 30 = .ok (.ireturn, 1) := by decide +kernel
theorem dX6_placeInOrder_0 : decode cX6_placeInOrder 0 = .ok (.iload_n 0, 1) := by decide +kernel
theorem dX6_placeInOrder_1 : decode cX6_placeInOrder 1 = .ok (.istore_n 2, 1) := by decide +kernel
theorem dX6_placeInOrder_2 : decode cX6_placeInOrder 2 = .ok (.iconst 0, 1) := by decide +kernel
theorem dX6_placeInOrder_3 : decode cX6_placeInOrder 3 = .ok (.istore_n 3, 1) := by decide +kernel
theorem dX6_placeInOrder_4 : decode cX6_placeInOrder 4 = .ok (.iload_n 3, 1) := by decide +kernel
theorem dX6_placeInOrder_5 : decode cX6_placeInOrder 5 = .ok (.bipush 15, 2) := by decide +kernel
theorem dX6_placeInOrder_7 : decode cX6_placeInOrder 7 = .ok (.if_icmp .ge 26, 3) := by decide +kernel
theorem dX6_placeInOrder_10 : decode cX6_placeInOrder 10 = .ok (.iload_n 2, 1) := by decide +kernel
theorem dX6_placeInOrder_11 : decode cX6_placeInOrder 11 = .ok (.ifCond .eq 22, 3) := by decide +kernel
theorem dX6_placeInOrder_14 : decode cX6_placeInOrder 14 = .ok (.iload_n 2, 1) := by decide +kernel
theorem dX6_placeInOrder_15 : decode cX6_placeInOrder 15 = .ok (.iconst 3, 1) := by decide +kernel
theorem dX6_placeInOrder_16 : decode cX6_placeInOrder 16 = .ok (.iand, 1) := by decide +kernel
theorem dX6_placeInOrder_17 : decode cX6_placeInOrder 17 = .ok (.iload_n 1, 1) := by decide +kernel
theorem dX6_placeInOrder_18 : decode cX6_placeInOrder 18 = .ok (.iconst 1, 1) := by decide +kernel
theorem dX6_placeInOrder_19 : decode cX6_placeInOrder 19 = .ok (.iadd, 1) := by decide +kernel
theorem dX6_placeInOrder_20 : decode cX6_placeInOrder 20 = .ok (.if_icmp .gt 13, 3) := by decide +kernel
theorem dX6_placeInOrder_23 : decode cX6_placeInOrder 23 = .ok (.iload_n 2, 1) := by decide +kernel
theorem dX6_placeInOrder_24 : decode cX6_placeInOrder 24 = .ok (.iconst 2, 1) := by decide +kernel
theorem dX6_placeInOrder_25 : decode cX6_placeInOrder 25 = .ok (.iushr, 1) := by decide +kernel
theorem dX6_placeInOrder_26 : decode cX6_placeInOrder 26 = .ok (.istore_n 2, 1) := by decide +kernel
theorem dX6_placeInOrder_27 : decode cX6_placeInOrder 27 = .ok (.iinc 3 1, 3) := by decide +kernel
theorem dX6_placeInOrder_30 : decode cX6_placeInOrder 30 = .ok (.goto (-26), 3) := by decide +kernel
theorem dX6_placeInOrder_33 : decode cX6_placeInOrder 33 = .ok (.iload_n 3, 1) := by decide +kernel
theorem dX6_placeInOrder_34 : decode cX6_placeInOrder 34 = .ok (.ireturn, 1) := by decide +kernel
theorem dX6_isIn_0 : decode cX6_isIn 0 = .ok (.iload_n 0, 1) := by decide +kernel
theorem dX6_isIn_1 : decode cX6_isIn 1 = .ok (.istore_n 2, 1) := by decide +kernel
theorem dX6_isIn_2 : decode cX6_isIn 2 = .ok (.iload_n 1, 1) := by decide +kernel
theorem dX6_isIn_3 : decode cX6_isIn 3 = .ok (.istore_n 3, 1) := by decide +kernel
theorem dX6_isIn_4 : decode cX6_isIn 4 = .ok (.iconst 0, 1) := by decide +kernel
theorem dX6_isIn_5 : decode cX6_isIn 5 = .ok (.istore 4, 2) := by decide +kernel
theorem dX6_isIn_7 : decode cX6_isIn 7 = .ok (.iload 4, 2) := by decide +kernel
theorem dX6_isIn_9 : decode cX6_isIn 9 = .ok (.bipush 15, 2) := by decide +kernel
theorem dX6_isIn_11 : decode cX6_isIn 11 = .ok (.if_icmp .ge 34, 3) := by decide +kernel
theorem dX6_isIn_14 : decode cX6_isIn 14 = .ok (.iload_n 2, 1) := by decide +kernel
theorem dX6_isIn_15 : decode cX6_isIn 15 = .ok (.ifCond .eq 30, 3) := by decide +kernel
theorem dX6_isIn_18 : decode cX6_isIn 18 = .ok (.iload_n 3, 1) := by decide +kernel
theorem dX6_isIn_19 : decode cX6_isIn 19 = .ok (.ifCond .eq 26, 3) := by decide +kernel
theorem dX6_isIn_22 : decode cX6_isIn 22 = .ok (.iload_n 2, 1) := by decide +kernel
theorem dX6_isIn_23 : decode cX6_isIn 23 = .ok (.iconst 3, 1) := by decide +kernel
theorem dX6_isIn_24 : decode cX6_isIn 24 = .ok (.iand, 1) := by decide +kernel
theorem dX6_isIn_25 : decode cX6_isIn 25 = .ok (.iload_n 3, 1) := by decide +kernel
theorem dX6_isIn_26 : decode cX6_isIn 26 = .ok (.iconst 3, 1) := by decide +kernel
theorem dX6_isIn_27 : decode cX6_isIn 27 = .ok (.iand, 1) := by decide +kernel
theorem dX6_isIn_28 : decode cX6_isIn 28 = .ok (.if_icmp .ne 7, 3) := by decide +kernel
theorem dX6_isIn_31 : decode cX6_isIn 31 = .ok (.iload_n 2, 1) := by decide +kernel
theorem dX6_isIn_32 : decode cX6_isIn 32 = .ok (.iconst 2, 1) := by decide +kernel
theorem dX6_isIn_33 : decode cX6_isIn 33 = .ok (.iushr, 1) := by decide +kernel
theorem dX6_isIn_34 : decode cX6_isIn 34 = .ok (.istore_n 2, 1) := by decide +kernel
theorem dX6_isIn_35 : decode cX6_isIn 35 = .ok (.iload_n 3, 1) := by decide +kernel
theorem dX6_isIn_36 : decode cX6_isIn 36 = .ok (.iconst 2, 1) := by decide +kernel
theorem dX6_isIn_37 : decode cX6_isIn 37 = .ok (.iushr, 1) := by decide +kernel
theorem dX6_isIn_38 : decode cX6_isIn 38 = .ok (.istore_n 3, 1) := by decide +kernel
theorem dX6_isIn_39 : decode cX6_isIn 39 = .ok (.iinc 4 1, 3) := by decide +kernel
theorem dX6_isIn_42 : decode cX6_isIn 42 = .ok (.goto (-35), 3) := by decide +kernel
theorem dX6_isIn_45 : decode cX6_isIn 45 = .ok (.iload_n 2, 1) := by decide +kernel
theorem dX6_isIn_46 : decode cX6_isIn 46 = .ok (.ifCond .ne 7, 3) := by decide +kernel
theorem dX6_isIn_49 : decode cX6_isIn 49 = .ok (.iconst 1, 1) := by decide +kernel
theorem dX6_isIn_50 : decode cX6_isIn 50 = .ok (.goto 4, 3) := by decide +kernel
theorem dX6_isIn_53 : decode cX6_isIn 53 = .ok (.iconst 0, 1) := by decide +kernel
theorem dX6_isIn_54 : decode cX6_isIn 54 = .ok (.ireturn, 1) := by decide +kernel
set_option maxRecDepth 20000 in
theorem ggX7_init_X0_init : GoodIn wsX7_init wsX0_init := goodIn_r _ [30, 31, 2, 3, 32, 33, 34, 35, 36, 66, 67, 68, 69] (by decide +kernel) (by decide +kernel)
set_option maxRecDepth 20000 in
theorem gX7_init_X0_init_n9 : GoodIn wsX7_init (wsX0_init) := ggX7_init_X0_init
set_option maxRecDepth 20000 in
theorem ggX7_init_X4_init : GoodIn wsX7_init wsX4_init := goodIn_r _ [38, 39, 2, 3, 35, 40, 41, 42, 78, 79, 80, 81] (by decide +kernel) (by decide +kernel)
set_option maxRecDepth 20000 in
theorem gX7_init_X4_init_n18 : GoodIn wsX7_init (wsX4_init) := ggX7_init_X4_init
set_option maxRecDepth 20000 in
theorem ggX7_init_X1_init : GoodIn wsX7_init wsX1_init := goodIn_r _ [44, 45, 2, 3, 35, 46, 82, 83] (by decide +kernel) (by decide +kernel)
set_option maxRecDepth 20000 in
theorem gX7_init_X1_init_n25 : GoodIn wsX7_init (wsX1_init) := ggX7_init_X1_init
set_option maxRecDepth 20000 in
theorem ggX7_init_X2_init : GoodIn wsX7_init wsX2_init := goodIn_r _ [48, 49, 2, 3, 35, 50, 51, 52, 53, 54, 55, 84, 85, 86, 87, 88, 89, 90, 91] (by decide +kernel) (by decide +kernel)
set_option maxRecDepth 20000 in
theorem gX7_init_X2_init_n35 : GoodIn wsX7_init (wsX2_init) := ggX7_init_X2_init
set_option maxRecDepth 20000 in
theorem ggX7_init_X5_init : GoodIn wsX7_init wsX5_init := goodIn_r _ [57, 58, 2, 3, 59, 60, 35, 61, 92, 93, 94] (by decide +kernel) (by decide +kernel)
set_option maxRecDepth 20000 in
theorem gX7_init_X5_init_n42 : GoodIn wsX7_init (wsX5_init) := ggX7_init_X5_init
set_option maxRecDepth 20000 in
theorem ggX7_init_X3_init : GoodIn wsX7_init wsX3_init := goodIn_r _ [63, 64, 2, 3, 35, 65, 95, 96, 97, 98] (by decide +kernel) (by decide +kernel)
set_option maxRecDepth 20000 in
theorem gX7_init_X3_init_n49 : GoodIn wsX7_init (wsX3_init) := ggX7_init_X3_init
theorem dX7_init_0 : decode cX7_init 0 = .ok (.aload_n 0, 1) := by decide +kernel
theorem dX7_init_1 : decode cX7_init 1 = .ok (.invokespecial 1, 3) := by decide +kernel
theorem dX7_init_4 : decode cX7_init 4 = .ok (.aload_n 0, 1) := by decide +kernel
theorem dX7_init_5 : decode cX7_init 5 = .ok (.new 7, 3) := by decide +kernel
theorem dX7_init_8 : decode cX7_init 8 = .ok (.dup, 1) := by decide +kernel
theorem dX7_init_9 : decode cX7_init 9 = .ok (.invokespecial 9, 3) := by decide +kernel
theorem dX7_init_12 : decode cX7_init 12 = .ok (.putfield 10, 3) := by decide +kernel
theorem dX7_init_15 : decode cX7_init 15 = .ok (.aload_n 0, 1) := by decide +kernel
theorem dX7_init_16 : decode cX7_init 16 = .ok (.new 16, 3) := by decide +kernel
theorem dX7_init_19 : decode cX7_init 19 = .ok (.dup, 1) := by decide +kernel
theorem dX7_init_20 : decode cX7_init 20 = .ok (.invokespecial 18, 3) := by decide +kernel
theorem dX7_init_23 : decode cX7_init 23 = .ok (.putfield 19, 3) := by decide +kernel
theorem dX7_init_26 : decode cX7_init 26 = .ok (.aload_n 0, 1) := by decide +kernel
theorem dX7_init_27 : decode cX7_init 27 = .ok (.new 23, 3) := by decide +kernel
theorem dX7_init_30 : decode cX7_init 30 = .ok (.dup, 1) := by decide +kernel
theorem dX7_init_31 : decode cX7_init 31 = .ok (.invokespecial 25, 3) := by decide +kernel
theorem dX7_init_34 : decode cX7_init 34 = .ok (.putfield 26, 3) := by decide +kernel
theorem dX7_init_37 : decode cX7_init 37 = .ok (.aload_n 0, 1) := by decide +kernel
theorem dX7_init_38 : decode cX7_init 38 = .ok (.new 23, 3) := by decide +kernel
theorem dX7_init_41 : decode cX7_init 41 = .ok (.dup, 1) := by decide +kernel
theorem dX7_init_42 : decode cX7_init 42 = .ok (.invokespecial 25, 3) := by decide +kernel
theorem dX7_init_45 : decode cX7_init 45 = .ok (.putfield 30, 3) := by decide +kernel
theorem dX7_init_48 : decode cX7_init 48 = .ok (.aload_n 0, 1) := by decide +kernel
theorem dX7_init_49 : decode cX7_init 49 = .ok (.new 33, 3) := by decide +kernel
theorem dX7_init_52 : decode cX7_init 52 = .ok (.dup, 1) := by decide +kernel
theorem dX7_init_53 : decode cX7_init 53 = .ok (.invokespecial 35, 3) := by decide +kernel
theorem dX7_init_56 : decode cX7_init 56 = .ok (.putfield 36, 3) := by decide +kernel
theorem dX7_init_59 : decode cX7_init 59 = .ok (.aload_n 0, 1) := by decide +kernel
theorem dX7_init_60 : decode cX7_init 60 = .ok (.new 40, 3) := by decide +kernel
theorem dX7_init_63 : decode cX7_init 63 = .ok (.dup, 1) := by decide +kernel
theorem dX7_init_64 : decode cX7_init 64 = .ok (.invokespecial 42, 3) := by decide +kernel
theorem dX7_init_67 : decode cX7_init 67 = .ok (.putfield 43, 3) := by decide +kernel
theorem dX7_init_70 : decode cX7_init 70 = .ok (.aload_n 0, 1) := by decide +kernel
theorem dX7_init_71 : decode cX7_init 71 = .ok (.iconst 2, 1) := by decide +kernel
theorem dX7_init_72 : decode cX7_init 72 = .ok (.anewarray 47, 3) := by decide +kernel
theorem dX7_init_75 : decode cX7_init 75 = .ok (.dup, 1) := by decide +kernel
theorem dX7_init_76 : decode cX7_init 76 = .ok (.iconst 0, 1) := by decide +kernel
theorem dX7_init_77 : decode cX7_init 77 = .ok (.new 47, 3) := by decide +kernel
theorem dX7_init_80 : decode cX7_init 80 = .ok (.dup, 1) := by decide +kernel
theorem dX7_init_81 : decode cX7_init 81 = .ok (.invokespecial 49, 3) := by decide +kernel
theorem dX7_init_84 : decode cX7_init 84 = .ok (.aastore, 1) := by decide +kernel
theorem dX7_init_85 : decode cX7_init 85 = .ok (.dup, 1) := by decide +kernel
theorem dX7_init_86 : decode cX7_init 86 = .ok (.iconst 1, 1) := by decide +kernel
theorem dX7_init_87 : decode cX7_init 87 = .ok (.new 47, 3) := by decide +kernel
theorem dX7_init_90 : decode cX7_init 90 = .ok (.dup, 1) := by decide +kernel
theorem dX7_init_91 : decode cX7_init 91 = .ok (.invokespecial 49, 3) := by decide +kernel
theorem dX7_init_94 : decode cX7_init 94 = .ok (.aastore, 1) := by decide +kernel
theorem dX7_init_95 : decode cX7_init 95 = .ok (.putfield 50, 3) := by decide +kernel
theorem dX7_init_98 : decode cX7_init 98 = .ok (.return_, 1) := by decide +kernel
set_option maxRecDepth 20000 in
theorem ggX7_states_X1_clear : GoodIn wsX7_states wsX1_clear := goodIn_r _ [9, 10, 11, 31, 32] (by decide +kernel) (by decide +kernel)
set_option maxRecDepth 20000 in
theorem gX7_states_X1_clear : GoodIn wsX7_states (wsV RX7 61 RX1 yX1_clear wsX1_clear) := goodIn_app (goodIn_of _ (by decide +kernel)) ggX7_states_X1_clear
set_option maxRecDepth 20000 in
theorem ggX7_states_X7_startAgain : GoodIn wsX7_states wsX7_startAgain := goodIn_r _ [16, 17, 18, 5, 6, 7, 8, 9, 10, 11, 19, 20, 21, 22, 23, 24, 25, 26, 31, 32] (by decide +kernel) (by decide +kernel)
set_option maxRecDepth 20000 in
theorem gX7_states_X7_startAgain : GoodIn wsX7_states (wsV RX7 65 RX7 yX7_startAgain wsX7_startAgain) := goodIn_app (goodIn_of _ (by decide +kernel)) ggX7_states_X7_startAgain
theorem dX7_states_0 : decode cX7_states 0 = .ok (.iload_n 1, 1) := by decide +kernel
theorem dX7_states_1 : decode cX7_states 1 = .ok (.iconst 1, 1) := by decide +kernel
theorem dX7_states_2 : decode cX7_states 2 = .ok (.if_icmp .lt 9, 3) := by decide +kernel
theorem dX7_states_5 : decode cX7_states 5 = .ok (.iload_n 1, 1) := by decide +kernel
theorem dX7_states_6 : decode cX7_states 6 = .ok (.bipush 8, 2) := by decide +kernel
theorem dX7_states_8 : decode cX7_states 8 = .ok (.if_icmp .le 5, 3) := by decide +kernel
theorem dX7_states_11 : decode cX7_states 11 = .ok (.iconst (-1), 1) := by decide +kernel
theorem dX7_states_12 : decode cX7_states 12 = .ok (.ireturn, 1) := by decide +kernel
theorem dX7_states_13 : decode cX7_states 13 = .ok (.aload_n 0, 1) := by decide +kernel
theorem dX7_states_14 : decode cX7_states 14 = .ok (.getfield 10, 3) := by decide +kernel
theorem dX7_states_17 : decode cX7_states 17 = .ok (.getfield 54, 3) := by decide +kernel
theorem dX7_states_20 : decode cX7_states 20 = .ok (.istore_n 2, 1) := by decide +kernel
theorem dX7_states_21 : decode cX7_states 21 = .ok (.aload_n 0, 1) := by decide +kernel
theorem dX7_states_22 : decode cX7_states 22 = .ok (.getfield 10, 3) := by decide +kernel
theorem dX7_states_25 : decode cX7_states 25 = .ok (.iload_n 1, 1) := by decide +kernel
theorem dX7_states_26 : decode cX7_states 26 = .ok (.putfield 54, 3) := by decide +kernel
theorem dX7_states_29 : decode cX7_states 29 = .ok (.aload_n 0, 1) := by decide +kernel
theorem dX7_states_30 : decode cX7_states 30 = .ok (.getfield 10, 3) := by decide +kernel
theorem dX7_states_33 : decode cX7_states 33 = .ok (.iconst 0, 1) := by decide +kernel
theorem dX7_states_34 : decode cX7_states 34 = .ok (.putfield 58, 3) := by decide +kernel
theorem dX7_states_37 : decode cX7_states 37 = .ok (.aload_n 0, 1) := by decide +kernel
theorem dX7_states_38 : decode cX7_states 38 = .ok (.getfield 30, 3) := by decide +kernel
theorem dX7_states_41 : decode cX7_states 41 = .ok (.iconst 0, 1) := by decide +kernel
theorem dX7_states_42 : decode cX7_states 42 = .ok (.invokevirtual 61, 3) := by decide +kernel
theorem dX7_states_45 : decode cX7_states 45 = .ok (.aload_n 0, 1) := by decide +kernel
theorem dX7_states_46 : decode cX7_states 46 = .ok (.invokevirtual 65, 3) := by decide +kernel
theorem dX7_states_49 : decode cX7_states 49 = .ok (.iload_n 2, 1) := by decide +kernel
theorem dX7_states_50 : decode cX7_states 50 = .ok (.ireturn, 1) := by decide +kernel
set_option maxRecDepth 20000 in
theorem ggX7_bag_X7_isAmong : GoodIn wsX7_bag wsX7_isAmong := goodIn_r _ [7] (by decide +kernel) (by decide +kernel)
set_option maxRecDepth 20000 in
theorem gX7_bag_X7_isAmong : GoodIn wsX7_bag (va_wsS RX7 68 yX7_isAmong wsX7_isAmong) := goodIn_app (goodIn_of _ (by decide +kernel)) ggX7_bag_X7_isAmong
set_option maxRecDepth 20000 in
theorem ggX7_bag_X1_clear : GoodIn wsX7_bag wsX1_clear := goodIn_r _ [12, 13, 14, 33, 34] (by decide +kernel) (by decide +kernel)
set_option maxRecDepth 20000 in
theorem gX7_bag_X1_clear : GoodIn wsX7_bag (wsV RX7 61 RX1 yX1_clear wsX1_clear) := goodIn_app (goodIn_of _ (by decide +kernel)) ggX7_bag_X1_clear
set_option maxRecDepth 20000 in
theorem ggX7_bag_X7_startAgain : GoodIn wsX7_bag wsX7_startAgain := goodIn_r _ [18, 19, 20, 8, 9, 10, 11, 12, 13, 14, 21, 22, 23, 24, 25, 26, 27, 28, 33, 34] (by decide +kernel) (by decide +kernel)
set_option maxRecDepth 20000 in
theorem gX7_bag_X7_startAgain : GoodIn wsX7_bag (wsV RX7 65 RX7 yX7_startAgain wsX7_startAgain) := goodIn_app (goodIn_of _ (by decide +kernel)) ggX7_bag_X7_startAgain
theorem dX7_bag_0 : decode cX7_bag 0 = .ok (.iload_n 1, 1) := by decide +kernel
theorem dX7_bag_1 : decode cX7_bag 1 = .ok (.iconst 2, 1) := by decide +kernel
theorem dX7_bag_2 : decode cX7_bag 2 = .ok (.invokestatic 68, 3) := by decide +kernel
theorem dX7_bag_5 : decode cX7_bag 5 = .ok (.ifCond .ne 5, 3) := by decide +kernel
theorem dX7_bag_8 : decode cX7_bag 8 = .ok (.iconst (-1), 1) := by decide +kernel
theorem dX7_bag_9 : decode cX7_bag 9 = .ok (.ireturn, 1) := by decide +kernel
theorem dX7_bag_10 : decode cX7_bag 10 = .ok (.aload_n 0, 1) := by decide +kernel
theorem dX7_bag_11 : decode cX7_bag 11 = .ok (.getfield 10, 3) := by decide +kernel
theorem dX7_bag_14 : decode cX7_bag 14 = .ok (.getfield 72, 3) := by decide +kernel
theorem dX7_bag_17 : decode cX7_bag 17 = .ok (.iload_n 1, 1) := by decide +kernel
theorem dX7_bag_18 : decode cX7_bag 18 = .ok (.baload, 1) := by decide +kernel
theorem dX7_bag_19 : decode cX7_bag 19 = .ok (.ifCond .eq 7, 3) := by decide +kernel
theorem dX7_bag_22 : decode cX7_bag 22 = .ok (.iconst 1, 1) := by decide +kernel
theorem dX7_bag_23 : decode cX7_bag 23 = .ok (.goto 4, 3) := by decide +kernel
theorem dX7_bag_26 : decode cX7_bag 26 = .ok (.iconst 0, 1) := by decide +kernel
theorem dX7_bag_27 : decode cX7_bag 27 = .ok (.istore_n 3, 1) := by decide +kernel
theorem dX7_bag_28 : decode cX7_bag 28 = .ok (.aload_n 0, 1) := by decide +kernel
theorem dX7_bag_29 : decode cX7_bag 29 = .ok (.getfield 10, 3) := by decide +kernel
theorem dX7_bag_32 : decode cX7_bag 32 = .ok (.getfield 72, 3) := by decide +kernel
theorem dX7_bag_35 : decode cX7_bag 35 = .ok (.iload_n 1, 1) := by decide +kernel
theorem dX7_bag_36 : decode cX7_bag 36 = .ok (.iload_n 2, 1) := by decide +kernel
theorem dX7_bag_37 : decode cX7_bag 37 = .ok (.bastore, 1) := by decide +kernel
theorem dX7_bag_38 : decode cX7_bag 38 = .ok (.aload_n 0, 1) := by decide +kernel
theorem dX7_bag_39 : decode cX7_bag 39 = .ok (.getfield 30, 3) := by decide +kernel
theorem dX7_bag_42 : decode cX7_bag 42 = .ok (.iconst 0, 1) := by decide +kernel
theorem dX7_bag_43 : decode cX7_bag 43 = .ok (.invokevirtual 61, 3) := by decide +kernel
theorem dX7_bag_46 : decode cX7_bag 46 = .ok (.aload_n 0, 1) := by decide +kernel
theorem dX7_bag_47 : decode cX7_bag 47 = .ok (.invokevirtual 65, 3) := by decide +kernel
theorem dX7_bag_50 : decode cX7_bag 50 = .ok (.iload_n 3, 1) := by decide +kernel
theorem dX7_bag_51 : decode cX7_bag 51 = .ok (.ireturn, 1) := by decide +kernel
set_option maxRecDepth 20000 in
theorem ggX7_arc_X0_canHave : GoodIn wsX7_arc wsX0_canHave := goodIn_r _ [7, 8, 9, 10, 11, 39, 40, 41, 42] (by decide +kernel) (by decide +kernel)
set_option maxRecDepth 20000 in
theorem gX7_arc_X0_canHave : GoodIn wsX7_arc (wsV RX7 76 RX0 yX0_canHave wsX0_canHave) := goodIn_app (goodIn_of _ (by decide +kernel)) ggX7_arc_X0_canHave
set_option maxRecDepth 20000 in
theorem ggX7_arc_X0_add : GoodIn wsX7_arc wsX0_add := goodIn_r _ [15, 16, 17, 39, 40, 41, 42] (by decide +kernel) (by decide +kernel)
set_option maxRecDepth 20000 in
theorem gX7_arc_X0_add : GoodIn wsX7_arc (wsV RX7 80 RX0 yX0_add wsX0_add) := goodIn_app (goodIn_of _ (by decide +kernel)) ggX7_arc_X0_add
set_option maxRecDepth 20000 in
theorem ggX7_arc_X7_startAgain : GoodIn wsX7_arc wsX7_startAgain := goodIn_r _ [21, 22, 23, 24, 25, 26, 27, 28, 29, 30, 31, 32, 33, 34, 35, 36, 37, 38, 43, 44] (by decide +kernel) (by decide +kernel)
set_option maxRecDepth 20000 in
theorem gX7_arc_X7_startAgain : GoodIn wsX7_arc (wsV RX7 65 RX7 yX7_startAgain wsX7_startAgain) := goodIn_app (goodIn_of _ (by decide +kernel)) ggX7_arc_X7_startAgain
theorem dX7_arc_0 : decode cX7_arc 0 = .ok (.aload_n 0, 1) := by decide +kernel
theorem dX7_arc_1 : decode cX7_arc 1 = .ok (.getfield 10, 3) := by decide +kernel
theorem dX7_arc_4 : decode cX7_arc 4 = .ok (.iload_n 1, 1) := by decide +kernel
theorem dX7_arc_5 : decode cX7_arc 5 = .ok (.iload_n 2, 1) := by decide +kernel
theorem dX7_arc_6 : decode cX7_arc 6 = .ok (.iload_n 3, 1) := by decide +kernel
theorem dX7_arc_7 : decode cX7_arc 7 = .ok (.iload 4, 2) := by decide +kernel
theorem dX7_arc_9 : decode cX7_arc 9 = .ok (.iload 5, 2) := by decide +kernel
theorem dX7_arc_11 : decode cX7_arc 11 = .ok (.invokevirtual 76, 3) := by decide +kernel
theorem dX7_arc_14 : decode cX7_arc 14 = .ok (.ifCond .ne 5, 3) := by decide +kernel
theorem dX7_arc_17 : decode cX7_arc 17 = .ok (.iconst (-1), 1) := by decide +kernel
theorem dX7_arc_18 : decode cX7_arc 18 = .ok (.ireturn, 1) := by decide +kernel
theorem dX7_arc_19 : decode cX7_arc 19 = .ok (.aload_n 0, 1) := by decide +kernel
theorem dX7_arc_20 : decode cX7_arc 20 = .ok (.getfield 10, 3) := by decide +kernel
theorem dX7_arc_23 : decode cX7_arc 23 = .ok (.getfield 58, 3) := by decide +kernel
theorem dX7_arc_26 : decode cX7_arc 26 = .ok (.bipush 20, 2) := by decide +kernel
theorem dX7_arc_28 : decode cX7_arc 28 = .ok (.if_icmp .lt 6, 3) := by decide +kernel
theorem dX7_arc_31 : decode cX7_arc 31 = .ok (.bipush (-3), 2) := by decide +kernel
theorem dX7_arc_33 : decode cX7_arc 33 = .ok (.ireturn, 1) := by decide +kernel
theorem dX7_arc_34 : decode cX7_arc 34 = .ok (.aload_n 0, 1) := by decide +kernel
theorem dX7_arc_35 : decode cX7_arc 35 = .ok (.getfield 10, 3) := by decide +kernel
theorem dX7_arc_38 : decode cX7_arc 38 = .ok (.iload_n 1, 1) := by decide +kernel
theorem dX7_arc_39 : decode cX7_arc 39 = .ok (.iload_n 2, 1) := by decide +kernel
theorem dX7_arc_40 : decode cX7_arc 40 = .ok (.iload_n 3, 1) := by decide +kernel
theorem dX7_arc_41 : decode cX7_arc 41 = .ok (.iload 4, 2) := by decide +kernel
theorem dX7_arc_43 : decode cX7_arc 43 = .ok (.iload 5, 2) := by decide +kernel
theorem dX7_arc_45 : decode cX7_arc 45 = .ok (.invokevirtual 80, 3) := by decide +kernel
theorem dX7_arc_48 : decode cX7_arc 48 = .ok (.aload_n 0, 1) := by decide +kernel
theorem dX7_arc_49 : decode cX7_arc 49 = .ok (.invokevirtual 65, 3) := by decide +kernel
theorem dX7_arc_52 : decode cX7_arc 52 = .ok (.aload_n 0, 1) := by decide +kernel
theorem dX7_arc_53 : decode cX7_arc 53 = .ok (.getfield 10, 3) := by decide +kernel
theorem dX7_arc_56 : decode cX7_arc 56 = .ok (.getfield 58, 3) := by decide +kernel
theorem dX7_arc_59 : decode cX7_arc 59 = .ok (.iconst 1, 1) := by decide +kernel
theorem dX7_arc_60 : decode cX7_arc 60 = .ok (.isub, 1) := by decide +kernel
theorem dX7_arc_61 : decode cX7_arc 61 = .ok (.ireturn, 1) := by decide +kernel
set_option maxRecDepth 20000 in
theorem ggX7_unarc_X7_startAgain : GoodIn wsX7_unarc wsX7_startAgain := goodIn_r _ [7, 8, 9, 10, 11, 12, 13, 14, 15, 16, 17, 18, 19, 20, 21, 22, 23, 24, 29, 30] (by decide +kernel) (by decide +kernel)
set_option maxRecDepth 20000 in
theorem gX7_unarc_X7_startAgain : GoodIn wsX7_unarc (wsV RX7 65 RX7 yX7_startAgain wsX7_startAgain) := goodIn_app (goodIn_of _ (by decide +kernel)) ggX7_unarc_X7_startAgain
theorem dX7_unarc_0 : decode cX7_unarc 0 = .ok (.aload_n 0, 1) := by decide +kernel
theorem dX7_unarc_1 : decode cX7_unarc 1 = .ok (.getfield 10, 3) := by decide +kernel
theorem dX7_unarc_4 : decode cX7_unarc 4 = .ok (.getfield 58, 3) := by decide +kernel
theorem dX7_unarc_7 : decode cX7_unarc 7 = .ok (.ifCond .ne 6, 3) := by decide +kernel
theorem dX7_unarc_10 : decode cX7_unarc 10 = .ok (.bipush (-2), 2) := by decide +kernel
theorem dX7_unarc_12 : decode cX7_unarc 12 = .ok (.ireturn, 1) := by decide +kernel
theorem dX7_unarc_13 : decode cX7_unarc 13 = .ok (.aload_n 0, 1) := by decide +kernel
theorem dX7_unarc_14 : decode cX7_unarc 14 = .ok (.getfield 10, 3) := by decide +kernel
theorem dX7_unarc_17 : decode cX7_unarc 17 = .ok (.dup, 1) := by decide +kernel
theorem dX7_unarc_18 : decode cX7_unarc 18 = .ok (.getfield 58, 3) := by decide +kernel
theorem dX7_unarc_21 : decode cX7_unarc 21 = .ok (.iconst 1, 1) := by decide +kernel
theorem dX7_unarc_22 : decode cX7_unarc 22 = .ok (.isub, 1) := by decide +kernel
theorem dX7_unarc_23 : decode cX7_unarc 23 = .ok (.putfield 58, 3) := by decide +kernel
theorem dX7_unarc_26 : decode cX7_unarc 26 = .ok (.aload_n 0, 1) := by decide +kernel
theorem dX7_unarc_27 : decode cX7_unarc 27 = .ok (.invokevirtual 65, 3) := by decide +kernel
theorem dX7_unarc_30 : decode cX7_unarc 30 = .ok (.aload_n 0, 1) := by decide +kernel
theorem dX7_unarc_31 : decode cX7_unarc 31 = .ok (.getfield 10, 3) := by decide +kernel
theorem dX7_unarc_34 : decode cX7_unarc 34 = .ok (.getfield 58, 3) := by decide +kernel
theorem dX7_unarc_37 : decode cX7_unarc 37 = .ok (.ireturn, 1) := by decide +kernel
set_option maxRecDepth 20000 in
theorem ggX7_told_X7_isAmong : GoodIn wsX7_told wsX7_isAmong := goodIn_r _ [6] (by decide +kernel) (by decide +kernel)
set_option maxRecDepth 20000 in
theorem gX7_told_X7_isAmong : GoodIn wsX7_told (va_wsS RX7 68 yX7_isAmong wsX7_isAmong) := goodIn_app (goodIn_of _ (by decide +kernel)) ggX7_told_X7_isAmong
set_option maxRecDepth 20000 in
theorem ggX7_told_X0_part : GoodIn wsX7_told wsX0_part := goodIn_r _ [11, 12, 21, 22, 23, 24] (by decide +kernel) (by decide +kernel)
set_option maxRecDepth 20000 in
theorem gX7_told_X0_part : GoodIn wsX7_told (wsV RX7 84 RX0 yX0_part wsX0_part) := goodIn_app (goodIn_of _ (by decide +kernel)) ggX7_told_X0_part
theorem dX7_told_0 : decode cX7_told 0 = .ok (.iload_n 1, 1) := by decide +kernel
theorem dX7_told_1 : decode cX7_told 1 = .ok (.aload_n 0, 1) := by decide +kernel
theorem dX7_told_2 : decode cX7_told 2 = .ok (.getfield 10, 3) := by decide +kernel
theorem dX7_told_5 : decode cX7_told 5 = .ok (.getfield 58, 3) := by decide +kernel
theorem dX7_told_8 : decode cX7_told 8 = .ok (.invokestatic 68, 3) := by decide +kernel
theorem dX7_told_11 : decode cX7_told 11 = .ok (.ifCond .eq 11, 3) := by decide +kernel
theorem dX7_told_14 : decode cX7_told 14 = .ok (.iload_n 2, 1) := by decide +kernel
theorem dX7_told_15 : decode cX7_told 15 = .ok (.iconst 5, 1) := by decide +kernel
theorem dX7_told_16 : decode cX7_told 16 = .ok (.invokestatic 68, 3) := by decide +kernel
theorem dX7_told_19 : decode cX7_told 19 = .ok (.ifCond .ne 5, 3) := by decide +kernel
theorem dX7_told_22 : decode cX7_told 22 = .ok (.iconst (-1), 1) := by decide +kernel
theorem dX7_told_23 : decode cX7_told 23 = .ok (.ireturn, 1) := by decide +kernel
theorem dX7_told_24 : decode cX7_told 24 = .ok (.aload_n 0, 1) := by decide +kernel
theorem dX7_told_25 : decode cX7_told 25 = .ok (.getfield 10, 3) := by decide +kernel
theorem dX7_told_28 : decode cX7_told 28 = .ok (.iload_n 1, 1) := by decide +kernel
theorem dX7_told_29 : decode cX7_told 29 = .ok (.iload_n 2, 1) := by decide +kernel
theorem dX7_told_30 : decode cX7_told 30 = .ok (.invokevirtual 84, 3) := by decide +kernel
theorem dX7_told_33 : decode cX7_told 33 = .ok (.ireturn, 1) := by decide +kernel
set_option maxRecDepth 20000 in
theorem ggX7_type_X4_canHave : GoodIn wsX7_type wsX4_canHave := goodIn_r _ [6, 7, 8, 5, 9] (by decide +kernel) (by decide +kernel)
set_option maxRecDepth 20000 in
theorem gX7_type_X4_canHave : GoodIn wsX7_type (va_wsS RX7 88 yX4_canHave wsX4_canHave) := goodIn_app (goodIn_of _ (by decide +kernel)) ggX7_type_X4_canHave
set_option maxRecDepth 20000 in
theorem ggX7_type_X4_add : GoodIn wsX7_type wsX4_add := goodIn_r _ [13, 14, 15, 7, 8, 5, 9, 24, 25, 26, 27] (by decide +kernel) (by decide +kernel)
set_option maxRecDepth 20000 in
theorem gX7_type_X4_add : GoodIn wsX7_type (wsV RX7 94 RX4 yX4_add wsX4_add) := goodIn_app (goodIn_of _ (by decide +kernel)) ggX7_type_X4_add
theorem dX7_type_0 : decode cX7_type 0 = .ok (.iload_n 3, 1) := by decide +kernel
theorem dX7_type_1 : decode cX7_type 1 = .ok (.iconst 1, 1) := by decide +kernel
theorem dX7_type_2 : decode cX7_type 2 = .ok (.if_icmp .lt 17, 3) := by decide +kernel
theorem dX7_type_5 : decode cX7_type 5 = .ok (.iload_n 3, 1) := by decide +kernel
theorem dX7_type_6 : decode cX7_type 6 = .ok (.bipush 8, 2) := by decide +kernel
theorem dX7_type_8 : decode cX7_type 8 = .ok (.if_icmp .gt 11, 3) := by decide +kernel
theorem dX7_type_11 : decode cX7_type 11 = .ok (.lload_n 1, 1) := by decide +kernel
theorem dX7_type_12 : decode cX7_type 12 = .ok (.iload_n 3, 1) := by decide +kernel
theorem dX7_type_13 : decode cX7_type 13 = .ok (.invokestatic 88, 3) := by decide +kernel
theorem dX7_type_16 : decode cX7_type 16 = .ok (.ifCond .ne 5, 3) := by decide +kernel
theorem dX7_type_19 : decode cX7_type 19 = .ok (.iconst (-1), 1) := by decide +kernel
theorem dX7_type_20 : decode cX7_type 20 = .ok (.ireturn, 1) := by decide +kernel
theorem dX7_type_21 : decode cX7_type 21 = .ok (.aload_n 0, 1) := by decide +kernel
theorem dX7_type_22 : decode cX7_type 22 = .ok (.getfield 19, 3) := by decide +kernel
theorem dX7_type_25 : decode cX7_type 25 = .ok (.getfield 91, 3) := by decide +kernel
theorem dX7_type_28 : decode cX7_type 28 = .ok (.iload_n 3, 1) := by decide +kernel
theorem dX7_type_29 : decode cX7_type 29 = .ok (.iadd, 1) := by decide +kernel
theorem dX7_type_30 : decode cX7_type 30 = .ok (.sipush 130, 3) := by decide +kernel
theorem dX7_type_33 : decode cX7_type 33 = .ok (.if_icmp .le 6, 3) := by decide +kernel
theorem dX7_type_36 : decode cX7_type 36 = .ok (.bipush (-3), 2) := by decide +kernel
theorem dX7_type_38 : decode cX7_type 38 = .ok (.ireturn, 1) := by decide +kernel
theorem dX7_type_39 : decode cX7_type 39 = .ok (.aload_n 0, 1) := by decide +kernel
theorem dX7_type_40 : decode cX7_type 40 = .ok (.getfield 19, 3) := by decide +kernel
theorem dX7_type_43 : decode cX7_type 43 = .ok (.lload_n 1, 1) := by decide +kernel
theorem dX7_type_44 : decode cX7_type 44 = .ok (.iload_n 3, 1) := by decide +kernel
theorem dX7_type_45 : decode cX7_type 45 = .ok (.invokevirtual 94, 3) := by decide +kernel
theorem dX7_type_48 : decode cX7_type 48 = .ok (.aload_n 0, 1) := by decide +kernel
theorem dX7_type_49 : decode cX7_type 49 = .ok (.getfield 19, 3) := by decide +kernel
theorem dX7_type_52 : decode cX7_type 52 = .ok (.getfield 91, 3) := by decide +kernel
theorem dX7_type_55 : decode cX7_type 55 = .ok (.ireturn, 1) := by decide +kernel
set_option maxRecDepth 20000 in
theorem ggX7_read_X4_parse : GoodIn wsX7_read wsX4_parse := goodIn_r _ [10, 11, 12, 13, 14, 15, 16, 9, 17, 18, 19, 20, 21, 22, 23, 24, 25, 26, 27, 28, 29, 30, 31, 32, 33, 34, 35, 36, 37, 78, 79, 80, 81] (by decide +kernel) (by decide +kernel)
set_option maxRecDepth 20000 in
theorem gX7_read_X4_parse : GoodIn wsX7_read (wsV RX7 97 RX4 yX4_parse wsX4_parse) := goodIn_app (goodIn_of _ (by decide +kernel)) ggX7_read_X4_parse
set_option maxRecDepth 20000 in
theorem ggX7_read_X0_replace : GoodIn wsX7_read wsX0_replace := goodIn_r _ [42, 43, 44, 45, 46, 41, 47, 48, 49, 50, 51, 52, 74, 75, 76, 77] (by decide +kernel) (by decide +kernel)
set_option maxRecDepth 20000 in
theorem gX7_read_X0_replace : GoodIn wsX7_read (wsV RX7 105 RX0 yX0_replace wsX0_replace) := goodIn_app (goodIn_of _ (by decide +kernel)) ggX7_read_X0_replace
set_option maxRecDepth 20000 in
theorem ggX7_read_X7_startAgain : GoodIn wsX7_read wsX7_startAgain := goodIn_r _ [56, 57, 58, 59, 60, 61, 62, 63, 64, 65, 66, 67, 68, 69, 70, 71, 72, 73, 82, 83] (by decide +kernel) (by decide +kernel)
set_option maxRecDepth 20000 in
theorem gX7_read_X7_startAgain : GoodIn wsX7_read (wsV RX7 65 RX7 yX7_startAgain wsX7_startAgain) := goodIn_app (goodIn_of _ (by decide +kernel)) ggX7_read_X7_startAgain
theorem dX7_read_0 : decode cX7_read 0 = .ok (.aload_n 0, 1) := by decide +kernel
theorem dX7_read_1 : decode cX7_read 1 = .ok (.getfield 19, 3) := by decide +kernel
theorem dX7_read_4 : decode cX7_read 4 = .ok (.aload_n 0, 1) := by decide +kernel
theorem dX7_read_5 : decode cX7_read 5 = .ok (.getfield 10, 3) := by decide +kernel
theorem dX7_read_8 : decode cX7_read 8 = .ok (.getfield 54, 3) := by decide +kernel
theorem dX7_read_11 : decode cX7_read 11 = .ok (.invokevirtual 97, 3) := by decide +kernel
theorem dX7_read_14 : decode cX7_read 14 = .ok (.istore_n 1, 1) := by decide +kernel
theorem dX7_read_15 : decode cX7_read 15 = .ok (.aload_n 0, 1) := by decide +kernel
theorem dX7_read_16 : decode cX7_read 16 = .ok (.getfield 19, 3) := by decide +kernel
theorem dX7_read_19 : decode cX7_read 19 = .ok (.iconst 0, 1) := by decide +kernel
theorem dX7_read_20 : decode cX7_read 20 = .ok (.putfield 91, 3) := by decide +kernel
theorem dX7_read_23 : decode cX7_read 23 = .ok (.iload_n 1, 1) := by decide +kernel
theorem dX7_read_24 : decode cX7_read 24 = .ok (.ifCond .le 22, 3) := by decide +kernel
theorem dX7_read_27 : decode cX7_read 27 = .ok (.aload_n 0, 1) := by decide +kernel
theorem dX7_read_28 : decode cX7_read 28 = .ok (.getfield 10, 3) := by decide +kernel
theorem dX7_read_31 : decode cX7_read 31 = .ok (.aload_n 0, 1) := by decide +kernel
theorem dX7_read_32 : decode cX7_read 32 = .ok (.getfield 19, 3) := by decide +kernel
theorem dX7_read_35 : decode cX7_read 35 = .ok (.getfield 101, 3) := by decide +kernel
theorem dX7_read_38 : decode cX7_read 38 = .ok (.iload_n 1, 1) := by decide +kernel
theorem dX7_read_39 : decode cX7_read 39 = .ok (.invokevirtual 105, 3) := by decide +kernel
theorem dX7_read_42 : decode cX7_read 42 = .ok (.aload_n 0, 1) := by decide +kernel
theorem dX7_read_43 : decode cX7_read 43 = .ok (.invokevirtual 65, 3) := by decide +kernel
theorem dX7_read_46 : decode cX7_read 46 = .ok (.iload_n 1, 1) := by decide +kernel
theorem dX7_read_47 : decode cX7_read 47 = .ok (.ireturn, 1) := by decide +kernel
set_option maxRecDepth 20000 in
theorem ggX7_arcs_X7_isAmong : GoodIn wsX7_arcs wsX7_isAmong := goodIn_r _ [9] (by decide +kernel) (by decide +kernel)
set_option maxRecDepth 20000 in
theorem gX7_arcs_X7_isAmong : GoodIn wsX7_arcs (va_wsS RX7 68 yX7_isAmong wsX7_isAmong) := goodIn_app (goodIn_of _ (by decide +kernel)) ggX7_arcs_X7_isAmong
set_option maxRecDepth 20000 in
theorem ggX7_arcs_X3_faultAs : GoodIn wsX7_arcs wsX3_faultAs := goodIn_r _ [14, 15, 16, 58, 59, 60, 61] (by decide +kernel) (by decide +kernel)
set_option maxRecDepth 20000 in
theorem gX7_arcs_X3_faultAs : GoodIn wsX7_arcs (wsV RX7 109 RX3 yX3_faultAs wsX3_faultAs) := goodIn_app (goodIn_of _ (by decide +kernel)) ggX7_arcs_X3_faultAs
set_option maxRecDepth 20000 in
theorem ggX7_arcs_X0_canHaveAll : GoodIn wsX7_arcs wsX0_canHaveAll := goodIn_r _ [21, 22, 23, 24, 20, 25, 26, 7, 8, 9, 62, 63, 64, 65] (by decide +kernel) (by decide +kernel)
set_option maxRecDepth 20000 in
theorem gX7_arcs_X0_canHaveAll : GoodIn wsX7_arcs (wsV RX7 116 RX0 yX0_canHaveAll wsX0_canHaveAll) := goodIn_app (goodIn_of _ (by decide +kernel)) ggX7_arcs_X0_canHaveAll
set_option maxRecDepth 20000 in
theorem ggX7_arcs_X0_addAll : GoodIn wsX7_arcs wsX0_addAll := goodIn_r _ [30, 31, 32, 33, 20, 34, 35, 36, 62, 63, 64, 65] (by decide +kernel) (by decide +kernel)
set_option maxRecDepth 20000 in
theorem gX7_arcs_X0_addAll : GoodIn wsX7_arcs (wsV RX7 120 RX0 yX0_addAll wsX0_addAll) := goodIn_app (goodIn_of _ (by decide +kernel)) ggX7_arcs_X0_addAll
set_option maxRecDepth 20000 in
theorem ggX7_arcs_X7_startAgain : GoodIn wsX7_arcs wsX7_startAgain := goodIn_r _ [40, 41, 42, 43, 44, 45, 46, 47, 48, 49, 50, 51, 52, 53, 54, 55, 56, 57, 66, 67] (by decide +kernel) (by decide +kernel)
set_option maxRecDepth 20000 in
theorem gX7_arcs_X7_startAgain : GoodIn wsX7_arcs (wsV RX7 65 RX7 yX7_startAgain wsX7_startAgain) := goodIn_app (goodIn_of _ (by decide +kernel)) ggX7_arcs_X7_startAgain
theorem dX7_arcs_0 : decode cX7_arcs 0 = .ok (.iload_n 1, 1) := by decide +kernel
theorem dX7_arcs_1 : decode cX7_arcs 1 = .ok (.iconst 2, 1) := by decide +kernel
theorem dX7_arcs_2 : decode cX7_arcs 2 = .ok (.invokestatic 68, 3) := by decide +kernel
theorem dX7_arcs_5 : decode cX7_arcs 5 = .ok (.ifCond .eq 23, 3) := by decide +kernel
theorem dX7_arcs_8 : decode cX7_arcs 8 = .ok (.iload_n 2, 1) := by decide +kernel
theorem dX7_arcs_9 : decode cX7_arcs 9 = .ok (.iconst 2, 1) := by decide +kernel
theorem dX7_arcs_10 : decode cX7_arcs 10 = .ok (.invokestatic 68, 3) := by decide +kernel
theorem dX7_arcs_13 : decode cX7_arcs 13 = .ok (.ifCond .eq 15, 3) := by decide +kernel
theorem dX7_arcs_16 : decode cX7_arcs 16 = .ok (.iload 4, 2) := by decide +kernel
theorem dX7_arcs_18 : decode cX7_arcs 18 = .ok (.ifCond .lt 10, 3) := by decide +kernel
theorem dX7_arcs_21 : decode cX7_arcs 21 = .ok (.iload 4, 2) := by decide +kernel
theorem dX7_arcs_23 : decode cX7_arcs 23 = .ok (.bipush 12, 2) := by decide +kernel
theorem dX7_arcs_25 : decode cX7_arcs 25 = .ok (.if_icmp .le 5, 3) := by decide +kernel
theorem dX7_arcs_28 : decode cX7_arcs 28 = .ok (.iconst (-1), 1) := by decide +kernel
theorem dX7_arcs_29 : decode cX7_arcs 29 = .ok (.ireturn, 1) := by decide +kernel
theorem dX7_arcs_30 : decode cX7_arcs 30 = .ok (.aload_n 0, 1) := by decide +kernel
theorem dX7_arcs_31 : decode cX7_arcs 31 = .ok (.getfield 50, 3) := by decide +kernel
theorem dX7_arcs_34 : decode cX7_arcs 34 = .ok (.iload_n 1, 1) := by decide +kernel
theorem dX7_arcs_35 : decode cX7_arcs 35 = .ok (.aaload, 1) := by decide +kernel
theorem dX7_arcs_36 : decode cX7_arcs 36 = .ok (.astore 5, 2) := by decide +kernel
theorem dX7_arcs_38 : decode cX7_arcs 38 = .ok (.aload 5, 2) := by decide +kernel
theorem dX7_arcs_40 : decode cX7_arcs 40 = .ok (.iload_n 2, 1) := by decide +kernel
theorem dX7_arcs_41 : decode cX7_arcs 41 = .ok (.invokevirtual 109, 3) := by decide +kernel
theorem dX7_arcs_44 : decode cX7_arcs 44 = .ok (.istore 6, 2) := by decide +kernel
theorem dX7_arcs_46 : decode cX7_arcs 46 = .ok (.iload 6, 2) := by decide +kernel
theorem dX7_arcs_48 : decode cX7_arcs 48 = .ok (.ifCond .eq 6, 3) := by decide +kernel
theorem dX7_arcs_51 : decode cX7_arcs 51 = .ok (.iload 6, 2) := by decide +kernel
theorem dX7_arcs_53 : decode cX7_arcs 53 = .ok (.ireturn, 1) := by decide +kernel
theorem dX7_arcs_54 : decode cX7_arcs 54 = .ok (.iload_n 3, 1) := by decide +kernel
theorem dX7_arcs_55 : decode cX7_arcs 55 = .ok (.ifCond .lt 17, 3) := by decide +kernel
theorem dX7_arcs_58 : decode cX7_arcs 58 = .ok (.iload_n 3, 1) := by decide +kernel
theorem dX7_arcs_59 : decode cX7_arcs 59 = .ok (.aload 5, 2) := by decide +kernel
theorem dX7_arcs_61 : decode cX7_arcs 61 = .ok (.getfield 112, 3) := by decide +kernel
theorem dX7_arcs_64 : decode cX7_arcs 64 = .ok (.iload 4, 2) := by decide +kernel
theorem dX7_arcs_66 : decode cX7_arcs 66 = .ok (.iconst 5, 1) := by decide +kernel
theorem dX7_arcs_67 : decode cX7_arcs 67 = .ok (.imul, 1) := by decide +kernel
theorem dX7_arcs_68 : decode cX7_arcs 68 = .ok (.isub, 1) := by decide +kernel
theorem dX7_arcs_69 : decode cX7_arcs 69 = .ok (.if_icmp .le 6, 3) := by decide +kernel
theorem dX7_arcs_72 : decode cX7_arcs 72 = .ok (.bipush (-13), 2) := by decide +kernel
theorem dX7_arcs_74 : decode cX7_arcs 74 = .ok (.ireturn, 1) := by decide +kernel
theorem dX7_arcs_75 : decode cX7_arcs 75 = .ok (.aload_n 0, 1) := by decide +kernel
theorem dX7_arcs_76 : decode cX7_arcs 76 = .ok (.getfield 10, 3) := by decide +kernel
theorem dX7_arcs_79 : decode cX7_arcs 79 = .ok (.aload 5, 2) := by decide +kernel
theorem dX7_arcs_81 : decode cX7_arcs 81 = .ok (.getfield 113, 3) := by decide +kernel
theorem dX7_arcs_84 : decode cX7_arcs 84 = .ok (.iload_n 3, 1) := by decide +kernel
theorem dX7_arcs_85 : decode cX7_arcs 85 = .ok (.iload 4, 2) := by decide +kernel
theorem dX7_arcs_87 : decode cX7_arcs 87 = .ok (.invokevirtual 116, 3) := by decide +kernel
theorem dX7_arcs_90 : decode cX7_arcs 90 = .ok (.ifCond .ne 6, 3) := by decide +kernel
theorem dX7_arcs_93 : decode cX7_arcs 93 = .ok (.bipush (-2), 2) := by decide +kernel
theorem dX7_arcs_95 : decode cX7_arcs 95 = .ok (.ireturn, 1) := by decide +kernel
theorem dX7_arcs_96 : decode cX7_arcs 96 = .ok (.aload_n 0, 1) := by decide +kernel
theorem dX7_arcs_97 : decode cX7_arcs 97 = .ok (.getfield 10, 3) := by decide +kernel
theorem dX7_arcs_100 : decode cX7_arcs 100 = .ok (.getfield 58, 3) := by decide +kernel
theorem dX7_arcs_103 : decode cX7_arcs 103 = .ok (.iload 4, 2) := by decide +kernel
theorem dX7_arcs_105 : decode cX7_arcs 105 = .ok (.iadd, 1) := by decide +kernel
theorem dX7_arcs_106 : decode cX7_arcs 106 = .ok (.bipush 20, 2) := by decide +kernel
theorem dX7_arcs_108 : decode cX7_arcs 108 = .ok (.if_icmp .le 6, 3) := by decide +kernel
theorem dX7_arcs_111 : decode cX7_arcs 111 = .ok (.bipush (-3), 2) := by decide +kernel
theorem dX7_arcs_113 : decode cX7_arcs 113 = .ok (.ireturn, 1) := by decide +kernel
theorem dX7_arcs_114 : decode cX7_arcs 114 = .ok (.aload_n 0, 1) := by decide +kernel
theorem dX7_arcs_115 : decode cX7_arcs 115 = .ok (.getfield 10, 3) := by decide +kernel
theorem dX7_arcs_118 : decode cX7_arcs 118 = .ok (.aload 5, 2) := by decide +kernel
theorem dX7_arcs_120 : decode cX7_arcs 120 = .ok (.getfield 113, 3) := by decide +kernel
theorem dX7_arcs_123 : decode cX7_arcs 123 = .ok (.iload_n 3, 1) := by decide +kernel
theorem dX7_arcs_124 : decode cX7_arcs 124 = .ok (.iload 4, 2) := by decide +kernel
theorem dX7_arcs_126 : decode cX7_arcs 126 = .ok (.invokevirtual 120, 3) := by decide +kernel
theorem dX7_arcs_129 : decode cX7_arcs 129 = .ok (.aload_n 0, 1) := by decide +kernel
theorem dX7_arcs_130 : decode cX7_arcs 130 = .ok (.invokevirtual 65, 3) := by decide +kernel
theorem dX7_arcs_133 : decode cX7_arcs 133 = .ok (.aload_n 0, 1) := by decide +kernel
theorem dX7_arcs_134 : decode cX7_arcs 134 = .ok (.getfield 10, 3) := by decide +kernel
theorem dX7_arcs_137 : decode cX7_arcs 137 = .ok (.getfield 58, 3) := by decide +kernel
theorem dX7_arcs_140 : decode cX7_arcs 140 = .ok (.ireturn, 1) := by decide +kernel
set_option maxRecDepth 20000 in
theorem ggX7_go_X7_isAmong : GoodIn wsX7_go wsX7_isAmong := goodIn_r _ [9] (by decide +kernel) (by decide +kernel)
set_option maxRecDepth 20000 in
theorem gX7_go_X7_isAmong : GoodIn wsX7_go (va_wsS RX7 68 yX7_isAmong wsX7_isAmong) := goodIn_app (goodIn_of _ (by decide +kernel)) ggX7_go_X7_isAmong
set_option maxRecDepth 20000 in
theorem ggX7_go_X0_part : GoodIn wsX7_go wsX0_part := goodIn_r _ [14, 15, 53, 54, 55, 56] (by decide +kernel) (by decide +kernel)
set_option maxRecDepth 20000 in
theorem gX7_go_X0_part : GoodIn wsX7_go (wsV RX7 84 RX0 yX0_part wsX0_part) := goodIn_app (goodIn_of _ (by decide +kernel)) ggX7_go_X0_part
set_option maxRecDepth 20000 in
theorem ggX7_go_X0_wordBehind : GoodIn wsX7_go wsX0_wordBehind := goodIn_r _ [19, 20, 21, 11, 12, 13, 14, 15, 22, 23, 24, 25, 26, 27, 28, 29, 30, 31, 32, 33, 34, 35, 36, 37, 38, 39, 40, 41, 53, 54, 55, 56] (by decide +kernel) (by decide +kernel)
set_option maxRecDepth 20000 in
theorem gX7_go_X0_wordBehind : GoodIn wsX7_go (wsV RX7 130 RX0 yX0_wordBehind wsX0_wordBehind) := goodIn_app (goodIn_of _ (by decide +kernel)) ggX7_go_X0_wordBehind
set_option maxRecDepth 20000 in
theorem ggX7_go_X6_isLonger : GoodIn wsX7_go wsX6_isLonger := goodIn_r _ [44] (by decide +kernel) (by decide +kernel)
set_option maxRecDepth 20000 in
theorem gX7_go_X6_isLonger : GoodIn wsX7_go (va_wsS RX7 135 yX6_isLonger wsX6_isLonger) := goodIn_app (goodIn_of _ (by decide +kernel)) ggX7_go_X6_isLonger
theorem dX7_go_0 : decode cX7_go 0 = .ok (.iload_n 1, 1) := by decide +kernel
theorem dX7_go_1 : decode cX7_go 1 = .ok (.aload_n 0, 1) := by decide +kernel
theorem dX7_go_2 : decode cX7_go 2 = .ok (.getfield 10, 3) := by decide +kernel
theorem dX7_go_5 : decode cX7_go 5 = .ok (.getfield 58, 3) := by decide +kernel
theorem dX7_go_8 : decode cX7_go 8 = .ok (.invokestatic 68, 3) := by decide +kernel
theorem dX7_go_11 : decode cX7_go 11 = .ok (.ifCond .ne 5, 3) := by decide +kernel
theorem dX7_go_14 : decode cX7_go 14 = .ok (.iconst (-1), 1) := by decide +kernel
theorem dX7_go_15 : decode cX7_go 15 = .ok (.ireturn, 1) := by decide +kernel
theorem dX7_go_16 : decode cX7_go 16 = .ok (.aload_n 0, 1) := by decide +kernel
theorem dX7_go_17 : decode cX7_go 17 = .ok (.getfield 10, 3) := by decide +kernel
theorem dX7_go_20 : decode cX7_go 20 = .ok (.iload_n 1, 1) := by decide +kernel
theorem dX7_go_21 : decode cX7_go 21 = .ok (.iconst 0, 1) := by decide +kernel
theorem dX7_go_22 : decode cX7_go 22 = .ok (.invokevirtual 84, 3) := by decide +kernel
theorem dX7_go_25 : decode cX7_go 25 = .ok (.aload_n 0, 1) := by decide +kernel
theorem dX7_go_26 : decode cX7_go 26 = .ok (.getfield 26, 3) := by decide +kernel
theorem dX7_go_29 : decode cX7_go 29 = .ok (.getfield 124, 3) := by decide +kernel
theorem dX7_go_32 : decode cX7_go 32 = .ok (.if_icmp .eq 6, 3) := by decide +kernel
theorem dX7_go_35 : decode cX7_go 35 = .ok (.bipush (-2), 2) := by decide +kernel
theorem dX7_go_37 : decode cX7_go 37 = .ok (.ireturn, 1) := by decide +kernel
theorem dX7_go_38 : decode cX7_go 38 = .ok (.aload_n 0, 1) := by decide +kernel
theorem dX7_go_39 : decode cX7_go 39 = .ok (.getfield 10, 3) := by decide +kernel
theorem dX7_go_42 : decode cX7_go 42 = .ok (.iload_n 1, 1) := by decide +kernel
theorem dX7_go_43 : decode cX7_go 43 = .ok (.iconst 2, 1) := by decide +kernel
theorem dX7_go_44 : decode cX7_go 44 = .ok (.invokevirtual 84, 3) := by decide +kernel
theorem dX7_go_47 : decode cX7_go 47 = .ok (.istore_n 2, 1) := by decide +kernel
theorem dX7_go_48 : decode cX7_go 48 = .ok (.aload_n 0, 1) := by decide +kernel
theorem dX7_go_49 : decode cX7_go 49 = .ok (.getfield 10, 3) := by decide +kernel
theorem dX7_go_52 : decode cX7_go 52 = .ok (.iload_n 1, 1) := by decide +kernel
theorem dX7_go_53 : decode cX7_go 53 = .ok (.aload_n 0, 1) := by decide +kernel
theorem dX7_go_54 : decode cX7_go 54 = .ok (.getfield 26, 3) := by decide +kernel
theorem dX7_go_57 : decode cX7_go 57 = .ok (.getfield 127, 3) := by decide +kernel
theorem dX7_go_60 : decode cX7_go 60 = .ok (.iload_n 2, 1) := by decide +kernel
theorem dX7_go_61 : decode cX7_go 61 = .ok (.iaload, 1) := by decide +kernel
theorem dX7_go_62 : decode cX7_go 62 = .ok (.invokevirtual 130, 3) := by decide +kernel
theorem dX7_go_65 : decode cX7_go 65 = .ok (.istore_n 3, 1) := by decide +kernel
theorem dX7_go_66 : decode cX7_go 66 = .ok (.iload_n 3, 1) := by decide +kernel
theorem dX7_go_67 : decode cX7_go 67 = .ok (.iconst (-1), 1) := by decide +kernel
theorem dX7_go_68 : decode cX7_go 68 = .ok (.if_icmp .ne 6, 3) := by decide +kernel
theorem dX7_go_71 : decode cX7_go 71 = .ok (.bipush (-2), 2) := by decide +kernel
theorem dX7_go_73 : decode cX7_go 73 = .ok (.ireturn, 1) := by decide +kernel
theorem dX7_go_74 : decode cX7_go 74 = .ok (.iload_n 3, 1) := by decide +kernel
theorem dX7_go_75 : decode cX7_go 75 = .ok (.bipush 10, 2) := by decide +kernel
theorem dX7_go_77 : decode cX7_go 77 = .ok (.invokestatic 135, 3) := by decide +kernel
theorem dX7_go_80 : decode cX7_go 80 = .ok (.ifCond .eq 6, 3) := by decide +kernel
theorem dX7_go_83 : decode cX7_go 83 = .ok (.bipush (-3), 2) := by decide +kernel
theorem dX7_go_85 : decode cX7_go 85 = .ok (.ireturn, 1) := by decide +kernel
theorem dX7_go_86 : decode cX7_go 86 = .ok (.aload_n 0, 1) := by decide +kernel
theorem dX7_go_87 : decode cX7_go 87 = .ok (.getfield 26, 3) := by decide +kernel
theorem dX7_go_90 : decode cX7_go 90 = .ok (.getfield 127, 3) := by decide +kernel
theorem dX7_go_93 : decode cX7_go 93 = .ok (.iload_n 2, 1) := by decide +kernel
theorem dX7_go_94 : decode cX7_go 94 = .ok (.iload_n 3, 1) := by decide +kernel
theorem dX7_go_95 : decode cX7_go 95 = .ok (.iastore, 1) := by decide +kernel
theorem dX7_go_96 : decode cX7_go 96 = .ok (.aload_n 0, 1) := by decide +kernel
theorem dX7_go_97 : decode cX7_go 97 = .ok (.getfield 26, 3) := by decide +kernel
theorem dX7_go_100 : decode cX7_go 100 = .ok (.aload_n 0, 1) := by decide +kernel
theorem dX7_go_101 : decode cX7_go 101 = .ok (.getfield 10, 3) := by decide +kernel
theorem dX7_go_104 : decode cX7_go 104 = .ok (.iload_n 1, 1) := by decide +kernel
theorem dX7_go_105 : decode cX7_go 105 = .ok (.iconst 4, 1) := by decide +kernel
theorem dX7_go_106 : decode cX7_go 106 = .ok (.invokevirtual 84, 3) := by decide +kernel
theorem dX7_go_109 : decode cX7_go 109 = .ok (.putfield 124, 3) := by decide +kernel
theorem dX7_go_112 : decode cX7_go 112 = .ok (.aload_n 0, 1) := by decide +kernel
theorem dX7_go_113 : decode cX7_go 113 = .ok (.getfield 26, 3) := by decide +kernel
theorem dX7_go_116 : decode cX7_go 116 = .ok (.getfield 124, 3) := by decide +kernel
theorem dX7_go_119 : decode cX7_go 119 = .ok (.ireturn, 1) := by decide +kernel
set_option maxRecDepth 20000 in
theorem ggX7_lose_X7_isAmong : GoodIn wsX7_lose wsX7_isAmong := goodIn_r _ [6] (by decide +kernel) (by decide +kernel)
set_option maxRecDepth 20000 in
theorem gX7_lose_X7_isAmong : GoodIn wsX7_lose (va_wsS RX7 68 yX7_isAmong wsX7_isAmong) := goodIn_app (goodIn_of _ (by decide +kernel)) ggX7_lose_X7_isAmong
set_option maxRecDepth 20000 in
theorem ggX7_lose_X6_size : GoodIn wsX7_lose wsX6_size := goodIn_r _ [10] (by decide +kernel) (by decide +kernel)
set_option maxRecDepth 20000 in
theorem gX7_lose_X6_size : GoodIn wsX7_lose (va_wsS RX7 138 yX6_size wsX6_size) := goodIn_app (goodIn_of _ (by decide +kernel)) ggX7_lose_X6_size
set_option maxRecDepth 20000 in
theorem ggX7_lose_X6_at : GoodIn wsX7_lose wsX6_at := goodIn_r _ [13] (by decide +kernel) (by decide +kernel)
end
section
set_option maxRecDepth 20000 in
theorem gX7_lose_X6_at : GoodIn wsX7_lose (va_wsS RX7 140 yX6_at wsX6_at) := goodIn_app (goodIn_of _ (by decide +kernel)) ggX7_lose_X6_at
set_option maxRecDepth 20000 in
theorem ggX7_lose_X6_without : GoodIn wsX7_lose wsX6_without := goodIn_r _ [16] (by decide +kernel) (by decide +kernel)
set_option maxRecDepth 20000 in
theorem gX7_lose_X6_without : GoodIn wsX7_lose (va_wsS RX7 143 yX6_without wsX6_without) := goodIn_app (goodIn_of _ (by decide +kernel)) ggX7_lose_X6_without
theorem dX7_lose_0 : decode cX7_lose 0 = .ok (.iload_n 1, 1) := by decide +kernel
theorem dX7_lose_1 : decode cX7_lose 1 = .ok (.iconst 2, 1) := by decide +kernel
theorem dX7_lose_2 : decode cX7_lose 2 = .ok (.invokestatic 68, 3) := by decide +kernel
theorem dX7_lose_5 : decode cX7_lose 5 = .ok (.ifCond .eq 22, 3) := by decide +kernel
theorem dX7_lose_8 : decode cX7_lose 8 = .ok (.iload_n 2, 1) := by decide +kernel
theorem dX7_lose_9 : decode cX7_lose 9 = .ok (.aload_n 0, 1) := by decide +kernel
theorem dX7_lose_10 : decode cX7_lose 10 = .ok (.getfield 26, 3) := by decide +kernel
theorem dX7_lose_13 : decode cX7_lose 13 = .ok (.getfield 127, 3) := by decide +kernel
theorem dX7_lose_16 : decode cX7_lose 16 = .ok (.iload_n 1, 1) := by decide +kernel
theorem dX7_lose_17 : decode cX7_lose 17 = .ok (.iaload, 1) := by decide +kernel
theorem dX7_lose_18 : decode cX7_lose 18 = .ok (.invokestatic 138, 3) := by decide +kernel
theorem dX7_lose_21 : decode cX7_lose 21 = .ok (.invokestatic 68, 3) := by decide +kernel
theorem dX7_lose_24 : decode cX7_lose 24 = .ok (.ifCond .ne 5, 3) := by decide +kernel
theorem dX7_lose_27 : decode cX7_lose 27 = .ok (.iconst (-1), 1) := by decide +kernel
theorem dX7_lose_28 : decode cX7_lose 28 = .ok (.ireturn, 1) := by decide +kernel
theorem dX7_lose_29 : decode cX7_lose 29 = .ok (.aload_n 0, 1) := by decide +kernel
theorem dX7_lose_30 : decode cX7_lose 30 = .ok (.getfield 26, 3) := by decide +kernel
theorem dX7_lose_33 : decode cX7_lose 33 = .ok (.getfield 127, 3) := by decide +kernel
theorem dX7_lose_36 : decode cX7_lose 36 = .ok (.iload_n 1, 1) := by decide +kernel
theorem dX7_lose_37 : decode cX7_lose 37 = .ok (.iaload, 1) := by decide +kernel
theorem dX7_lose_38 : decode cX7_lose 38 = .ok (.iload_n 2, 1) := by decide +kernel
theorem dX7_lose_39 : decode cX7_lose 39 = .ok (.invokestatic 140, 3) := by decide +kernel
theorem dX7_lose_42 : decode cX7_lose 42 = .ok (.istore_n 3, 1) := by decide +kernel
theorem dX7_lose_43 : decode cX7_lose 43 = .ok (.aload_n 0, 1) := by decide +kernel
theorem dX7_lose_44 : decode cX7_lose 44 = .ok (.getfield 26, 3) := by decide +kernel
theorem dX7_lose_47 : decode cX7_lose 47 = .ok (.getfield 127, 3) := by decide +kernel
theorem dX7_lose_50 : decode cX7_lose 50 = .ok (.iload_n 1, 1) := by decide +kernel
theorem dX7_lose_51 : decode cX7_lose 51 = .ok (.aload_n 0, 1) := by decide +kernel
theorem dX7_lose_52 : decode cX7_lose 52 = .ok (.getfield 26, 3) := by decide +kernel
theorem dX7_lose_55 : decode cX7_lose 55 = .ok (.getfield 127, 3) := by decide +kernel
theorem dX7_lose_58 : decode cX7_lose 58 = .ok (.iload_n 1, 1) := by decide +kernel
theorem dX7_lose_59 : decode cX7_lose 59 = .ok (.iaload, 1) := by decide +kernel
theorem dX7_lose_60 : decode cX7_lose 60 = .ok (.iload_n 2, 1) := by decide +kernel
theorem dX7_lose_61 : decode cX7_lose 61 = .ok (.invokestatic 143, 3) := by decide +kernel
theorem dX7_lose_64 : decode cX7_lose 64 = .ok (.iastore, 1) := by decide +kernel
theorem dX7_lose_65 : decode cX7_lose 65 = .ok (.iload_n 3, 1) := by decide +kernel
theorem dX7_lose_66 : decode cX7_lose 66 = .ok (.ireturn, 1) := by decide +kernel
set_option maxRecDepth 20000 in
theorem ggX7_now_X7_isAmong : GoodIn wsX7_now wsX7_isAmong := goodIn_r _ [7] (by decide +kernel) (by decide +kernel)
set_option maxRecDepth 20000 in
theorem gX7_now_X7_isAmong : GoodIn wsX7_now (va_wsS RX7 68 yX7_isAmong wsX7_isAmong) := goodIn_app (goodIn_of _ (by decide +kernel)) ggX7_now_X7_isAmong
set_option maxRecDepth 20000 in
theorem ggX7_now_X6_size : GoodIn wsX7_now wsX6_size := goodIn_r _ [11] (by decide +kernel) (by decide +kernel)
set_option maxRecDepth 20000 in
theorem gX7_now_X6_size : GoodIn wsX7_now (va_wsS RX7 138 yX6_size wsX6_size) := goodIn_app (goodIn_of _ (by decide +kernel)) ggX7_now_X6_size
set_option maxRecDepth 20000 in
theorem ggX7_now_X6_at : GoodIn wsX7_now wsX6_at := goodIn_r _ [14] (by decide +kernel) (by decide +kernel)
set_option maxRecDepth 20000 in
theorem gX7_now_X6_at : GoodIn wsX7_now (va_wsS RX7 140 yX6_at wsX6_at) := goodIn_app (goodIn_of _ (by decide +kernel)) ggX7_now_X6_at
theorem dX7_now_0 : decode cX7_now 0 = .ok (.iload_n 2, 1) := by decide +kernel
theorem dX7_now_1 : decode cX7_now 1 = .ok (.bipush (-2), 2) := by decide +kernel
theorem dX7_now_3 : decode cX7_now 3 = .ok (.if_icmp .ne 11, 3) := by decide +kernel
theorem dX7_now_6 : decode cX7_now 6 = .ok (.aload_n 0, 1) := by decide +kernel
theorem dX7_now_7 : decode cX7_now 7 = .ok (.getfield 26, 3) := by decide +kernel
theorem dX7_now_10 : decode cX7_now 10 = .ok (.getfield 124, 3) := by decide +kernel
theorem dX7_now_13 : decode cX7_now 13 = .ok (.ireturn, 1) := by decide +kernel
theorem dX7_now_14 : decode cX7_now 14 = .ok (.iload_n 1, 1) := by decide +kernel
theorem dX7_now_15 : decode cX7_now 15 = .ok (.iconst 2, 1) := by decide +kernel
theorem dX7_now_16 : decode cX7_now 16 = .ok (.invokestatic 68, 3) := by decide +kernel
theorem dX7_now_19 : decode cX7_now 19 = .ok (.ifCond .ne 5, 3) := by decide +kernel
theorem dX7_now_22 : decode cX7_now 22 = .ok (.iconst (-1), 1) := by decide +kernel
theorem dX7_now_23 : decode cX7_now 23 = .ok (.ireturn, 1) := by decide +kernel
theorem dX7_now_24 : decode cX7_now 24 = .ok (.aload_n 0, 1) := by decide +kernel
theorem dX7_now_25 : decode cX7_now 25 = .ok (.getfield 26, 3) := by decide +kernel
theorem dX7_now_28 : decode cX7_now 28 = .ok (.getfield 127, 3) := by decide +kernel
theorem dX7_now_31 : decode cX7_now 31 = .ok (.iload_n 1, 1) := by decide +kernel
theorem dX7_now_32 : decode cX7_now 32 = .ok (.iaload, 1) := by decide +kernel
theorem dX7_now_33 : decode cX7_now 33 = .ok (.invokestatic 138, 3) := by decide +kernel
theorem dX7_now_36 : decode cX7_now 36 = .ok (.istore_n 3, 1) := by decide +kernel
theorem dX7_now_37 : decode cX7_now 37 = .ok (.iload_n 2, 1) := by decide +kernel
theorem dX7_now_38 : decode cX7_now 38 = .ok (.iconst (-1), 1) := by decide +kernel
theorem dX7_now_39 : decode cX7_now 39 = .ok (.if_icmp .ne 5, 3) := by decide +kernel
theorem dX7_now_42 : decode cX7_now 42 = .ok (.iload_n 3, 1) := by decide +kernel
theorem dX7_now_43 : decode cX7_now 43 = .ok (.ireturn, 1) := by decide +kernel
theorem dX7_now_44 : decode cX7_now 44 = .ok (.iload_n 2, 1) := by decide +kernel
theorem dX7_now_45 : decode cX7_now 45 = .ok (.iload_n 3, 1) := by decide +kernel
theorem dX7_now_46 : decode cX7_now 46 = .ok (.invokestatic 68, 3) := by decide +kernel
theorem dX7_now_49 : decode cX7_now 49 = .ok (.ifCond .eq 19, 3) := by decide +kernel
theorem dX7_now_52 : decode cX7_now 52 = .ok (.aload_n 0, 1) := by decide +kernel
theorem dX7_now_53 : decode cX7_now 53 = .ok (.getfield 26, 3) := by decide +kernel
theorem dX7_now_56 : decode cX7_now 56 = .ok (.getfield 127, 3) := by decide +kernel
theorem dX7_now_59 : decode cX7_now 59 = .ok (.iload_n 1, 1) := by decide +kernel
theorem dX7_now_60 : decode cX7_now 60 = .ok (.iaload, 1) := by decide +kernel
theorem dX7_now_61 : decode cX7_now 61 = .ok (.iload_n 2, 1) := by decide +kernel
theorem dX7_now_62 : decode cX7_now 62 = .ok (.invokestatic 140, 3) := by decide +kernel
theorem dX7_now_65 : decode cX7_now 65 = .ok (.goto 4, 3) := by decide +kernel
theorem dX7_now_68 : decode cX7_now 68 = .ok (.iconst (-1), 1) := by decide +kernel
theorem dX7_now_69 : decode cX7_now 69 = .ok (.ireturn, 1) := by decide +kernel
set_option maxRecDepth 20000 in
theorem ggX7_reset_X1_clear : GoodIn wsX7_reset wsX1_clear := goodIn_r _ [6, 7, 8, 17, 18] (by decide +kernel) (by decide +kernel)
set_option maxRecDepth 20000 in
theorem gX7_reset_X1_clear : GoodIn wsX7_reset (wsV RX7 61 RX1 yX1_clear wsX1_clear) := goodIn_app (goodIn_of _ (by decide +kernel)) ggX7_reset_X1_clear
theorem dX7_reset_0 : decode cX7_reset 0 = .ok (.aload_n 0, 1) := by decide +kernel
theorem dX7_reset_1 : decode cX7_reset 1 = .ok (.getfield 26, 3) := by decide +kernel
theorem dX7_reset_4 : decode cX7_reset 4 = .ok (.iconst 0, 1) := by decide +kernel
theorem dX7_reset_5 : decode cX7_reset 5 = .ok (.invokevirtual 61, 3) := by decide +kernel
theorem dX7_reset_8 : decode cX7_reset 8 = .ok (.iconst 1, 1) := by decide +kernel
theorem dX7_reset_9 : decode cX7_reset 9 = .ok (.ireturn, 1) := by decide +kernel
set_option maxRecDepth 20000 in
theorem ggX7_aim_X7_isAmong : GoodIn wsX7_aim wsX7_isAmong := goodIn_r _ [8] (by decide +kernel) (by decide +kernel)
set_option maxRecDepth 20000 in
theorem gX7_aim_X7_isAmong : GoodIn wsX7_aim (va_wsS RX7 68 yX7_isAmong wsX7_isAmong) := goodIn_app (goodIn_of _ (by decide +kernel)) ggX7_aim_X7_isAmong
set_option maxRecDepth 20000 in
theorem ggX7_aim_X1_clear : GoodIn wsX7_aim wsX1_clear := goodIn_r _ [13, 14, 15, 28, 29] (by decide +kernel) (by decide +kernel)
set_option maxRecDepth 20000 in
theorem gX7_aim_X1_clear : GoodIn wsX7_aim (wsV RX7 61 RX1 yX1_clear wsX1_clear) := goodIn_app (goodIn_of _ (by decide +kernel)) ggX7_aim_X1_clear
theorem dX7_aim_0 : decode cX7_aim 0 = .ok (.iload_n 1, 1) := by decide +kernel
theorem dX7_aim_1 : decode cX7_aim 1 = .ok (.aload_n 0, 1) := by decide +kernel
theorem dX7_aim_2 : decode cX7_aim 2 = .ok (.getfield 10, 3) := by decide +kernel
theorem dX7_aim_5 : decode cX7_aim 5 = .ok (.getfield 54, 3) := by decide +kernel
theorem dX7_aim_8 : decode cX7_aim 8 = .ok (.invokestatic 68, 3) := by decide +kernel
theorem dX7_aim_11 : decode cX7_aim 11 = .ok (.ifCond .ne 5, 3) := by decide +kernel
theorem dX7_aim_14 : decode cX7_aim 14 = .ok (.iconst (-1), 1) := by decide +kernel
theorem dX7_aim_15 : decode cX7_aim 15 = .ok (.ireturn, 1) := by decide +kernel
theorem dX7_aim_16 : decode cX7_aim 16 = .ok (.aload_n 0, 1) := by decide +kernel
theorem dX7_aim_17 : decode cX7_aim 17 = .ok (.getfield 30, 3) := by decide +kernel
theorem dX7_aim_20 : decode cX7_aim 20 = .ok (.iload_n 1, 1) := by decide +kernel
theorem dX7_aim_21 : decode cX7_aim 21 = .ok (.invokevirtual 61, 3) := by decide +kernel
theorem dX7_aim_24 : decode cX7_aim 24 = .ok (.aload_n 0, 1) := by decide +kernel
theorem dX7_aim_25 : decode cX7_aim 25 = .ok (.iconst 0, 1) := by decide +kernel
theorem dX7_aim_26 : decode cX7_aim 26 = .ok (.putfield 146, 3) := by decide +kernel
theorem dX7_aim_29 : decode cX7_aim 29 = .ok (.iconst 1, 1) := by decide +kernel
theorem dX7_aim_30 : decode cX7_aim 30 = .ok (.ireturn, 1) := by decide +kernel
set_option maxRecDepth 20000 in
theorem ggX7_want_X7_isAmong : GoodIn wsX7_want wsX7_isAmong := goodIn_r _ [8] (by decide +kernel) (by decide +kernel)
set_option maxRecDepth 20000 in
theorem gX7_want_X7_isAmong : GoodIn wsX7_want (va_wsS RX7 68 yX7_isAmong wsX7_isAmong) := goodIn_app (goodIn_of _ (by decide +kernel)) ggX7_want_X7_isAmong
set_option maxRecDepth 20000 in
theorem ggX7_want_X6_size : GoodIn wsX7_want wsX6_size := goodIn_r _ [12] (by decide +kernel) (by decide +kernel)
set_option maxRecDepth 20000 in
theorem gX7_want_X6_size : GoodIn wsX7_want (va_wsS RX7 138 yX6_size wsX6_size) := goodIn_app (goodIn_of _ (by decide +kernel)) ggX7_want_X6_size
set_option maxRecDepth 20000 in
theorem ggX7_want_X0_wordWith : GoodIn wsX7_want wsX0_wordWith := goodIn_r _ [17, 18, 19, 20, 11, 21, 22, 10, 12, 23, 24, 25, 36, 37, 38, 39] (by decide +kernel) (by decide +kernel)
set_option maxRecDepth 20000 in
theorem gX7_want_X0_wordWith : GoodIn wsX7_want (wsV RX7 150 RX0 yX0_wordWith wsX0_wordWith) := goodIn_app (goodIn_of _ (by decide +kernel)) ggX7_want_X0_wordWith
theorem dX7_want_0 : decode cX7_want 0 = .ok (.iload_n 1, 1) := by decide +kernel
theorem dX7_want_1 : decode cX7_want 1 = .ok (.iconst 2, 1) := by decide +kernel
theorem dX7_want_2 : decode cX7_want 2 = .ok (.invokestatic 68, 3) := by decide +kernel
theorem dX7_want_5 : decode cX7_want 5 = .ok (.ifCond .eq 11, 3) := by decide +kernel
theorem dX7_want_8 : decode cX7_want 8 = .ok (.iload_n 2, 1) := by decide +kernel
theorem dX7_want_9 : decode cX7_want 9 = .ok (.iconst 3, 1) := by decide +kernel
theorem dX7_want_10 : decode cX7_want 10 = .ok (.invokestatic 68, 3) := by decide +kernel
theorem dX7_want_13 : decode cX7_want 13 = .ok (.ifCond .ne 5, 3) := by decide +kernel
theorem dX7_want_16 : decode cX7_want 16 = .ok (.iconst (-1), 1) := by decide +kernel
theorem dX7_want_17 : decode cX7_want 17 = .ok (.ireturn, 1) := by decide +kernel
theorem dX7_want_18 : decode cX7_want 18 = .ok (.aload_n 0, 1) := by decide +kernel
theorem dX7_want_19 : decode cX7_want 19 = .ok (.getfield 30, 3) := by decide +kernel
theorem dX7_want_22 : decode cX7_want 22 = .ok (.getfield 127, 3) := by decide +kernel
theorem dX7_want_25 : decode cX7_want 25 = .ok (.iload_n 1, 1) := by decide +kernel
theorem dX7_want_26 : decode cX7_want 26 = .ok (.iaload, 1) := by decide +kernel
theorem dX7_want_27 : decode cX7_want 27 = .ok (.invokestatic 138, 3) := by decide +kernel
theorem dX7_want_30 : decode cX7_want 30 = .ok (.istore_n 3, 1) := by decide +kernel
theorem dX7_want_31 : decode cX7_want 31 = .ok (.iload_n 3, 1) := by decide +kernel
theorem dX7_want_32 : decode cX7_want 32 = .ok (.bipush 10, 2) := by decide +kernel
theorem dX7_want_34 : decode cX7_want 34 = .ok (.if_icmp .lt 6, 3) := by decide +kernel
theorem dX7_want_37 : decode cX7_want 37 = .ok (.bipush (-3), 2) := by decide +kernel
theorem dX7_want_39 : decode cX7_want 39 = .ok (.ireturn, 1) := by decide +kernel
theorem dX7_want_40 : decode cX7_want 40 = .ok (.aload_n 0, 1) := by decide +kernel
theorem dX7_want_41 : decode cX7_want 41 = .ok (.getfield 30, 3) := by decide +kernel
theorem dX7_want_44 : decode cX7_want 44 = .ok (.getfield 127, 3) := by decide +kernel
theorem dX7_want_47 : decode cX7_want 47 = .ok (.iload_n 1, 1) := by decide +kernel
theorem dX7_want_48 : decode cX7_want 48 = .ok (.aload_n 0, 1) := by decide +kernel
theorem dX7_want_49 : decode cX7_want 49 = .ok (.getfield 10, 3) := by decide +kernel
theorem dX7_want_52 : decode cX7_want 52 = .ok (.iload_n 1, 1) := by decide +kernel
theorem dX7_want_53 : decode cX7_want 53 = .ok (.aload_n 0, 1) := by decide +kernel
theorem dX7_want_54 : decode cX7_want 54 = .ok (.getfield 30, 3) := by decide +kernel
theorem dX7_want_57 : decode cX7_want 57 = .ok (.getfield 127, 3) := by decide +kernel
theorem dX7_want_60 : decode cX7_want 60 = .ok (.iload_n 1, 1) := by decide +kernel
theorem dX7_want_61 : decode cX7_want 61 = .ok (.iaload, 1) := by decide +kernel
theorem dX7_want_62 : decode cX7_want 62 = .ok (.iload_n 2, 1) := by decide +kernel
theorem dX7_want_63 : decode cX7_want 63 = .ok (.invokevirtual 150, 3) := by decide +kernel
theorem dX7_want_66 : decode cX7_want 66 = .ok (.iastore, 1) := by decide +kernel
theorem dX7_want_67 : decode cX7_want 67 = .ok (.aload_n 0, 1) := by decide +kernel
theorem dX7_want_68 : decode cX7_want 68 = .ok (.iconst 0, 1) := by decide +kernel
theorem dX7_want_69 : decode cX7_want 69 = .ok (.putfield 146, 3) := by decide +kernel
theorem dX7_want_72 : decode cX7_want 72 = .ok (.iload_n 3, 1) := by decide +kernel
theorem dX7_want_73 : decode cX7_want 73 = .ok (.iconst 1, 1) := by decide +kernel
theorem dX7_want_74 : decode cX7_want 74 = .ok (.iadd, 1) := by decide +kernel
theorem dX7_want_75 : decode cX7_want 75 = .ok (.ireturn, 1) := by decide +kernel
set_option maxRecDepth 20000 in
theorem ggX7_found_X7_searchOnce : GoodIn wsX7_found wsX7_searchOnce := goodIn_r _ [8, 9, 1, 10, 11, 12, 13, 14, 15, 16, 17, 18, 19, 20, 21, 22, 23, 24, 25, 26, 27, 28, 29, 30, 31, 32, 33, 34, 35, 36, 37, 38, 39, 40, 41, 42, 43, 44, 45, 46, 47, 48, 49, 50, 51, 52, 53, 54, 55, 56, 57, 58, 59, 60, 61, 62, 63, 64, 65, 66, 67, 68, 69, 70, 71, 72, 73, 74, 75, 76, 77, 78, 79, 80, 81, 82, 83, 84, 85, 86, 87, 88, 89, 90, 91, 92, 93, 94, 95, 96, 97, 98, 99, 100, 101, 102, 103, 104, 105, 106] (by decide +kernel) (by decide +kernel)
set_option maxRecDepth 20000 in
theorem gX7_found_X7_searchOnce : GoodIn wsX7_found (wsV RX7 154 RX7 yX7_searchOnce wsX7_searchOnce) := goodIn_app (goodIn_of _ (by decide +kernel)) ggX7_found_X7_searchOnce
theorem dX7_found_0 : decode cX7_found 0 = .ok (.aload_n 0, 1) := by decide +kernel
theorem dX7_found_1 : decode cX7_found 1 = .ok (.invokevirtual 154, 3) := by decide +kernel
theorem dX7_found_4 : decode cX7_found 4 = .ok (.aload_n 0, 1) := by decide +kernel
theorem dX7_found_5 : decode cX7_found 5 = .ok (.getfield 36, 3) := by decide +kernel
theorem dX7_found_8 : decode cX7_found 8 = .ok (.getfield 157, 3) := by decide +kernel
theorem dX7_found_11 : decode cX7_found 11 = .ok (.ifCond .eq 8, 3) := by decide +kernel
theorem dX7_found_14 : decode cX7_found 14 = .ok (.bipush (-3), 2) := by decide +kernel
theorem dX7_found_16 : decode cX7_found 16 = .ok (.goto 10, 3) := by decide +kernel
theorem dX7_found_19 : decode cX7_found 19 = .ok (.aload_n 0, 1) := by decide +kernel
theorem dX7_found_20 : decode cX7_found 20 = .ok (.getfield 36, 3) := by decide +kernel
theorem dX7_found_23 : decode cX7_found 23 = .ok (.getfield 160, 3) := by decide +kernel
theorem dX7_found_26 : decode cX7_found 26 = .ok (.ireturn, 1) := by decide +kernel
set_option maxRecDepth 20000 in
theorem ggX7_about_X7_searchOnce : GoodIn wsX7_about wsX7_searchOnce := goodIn_r _ [8, 9, 1, 10, 11, 12, 13, 14, 15, 16, 17, 18, 19, 20, 21, 22, 23, 24, 25, 26, 27, 28, 29, 30, 31, 32, 33, 34, 35, 36, 37, 38, 39, 40, 41, 42, 43, 44, 45, 46, 47, 48, 49, 50, 51, 52, 53, 54, 55, 56, 57, 58, 59, 60, 61, 62, 63, 64, 65, 66, 67, 68, 69, 70, 71, 72, 73, 74, 75, 76, 77, 78, 79, 80, 81, 82, 83, 84, 94, 95, 96, 97, 98, 99, 100, 101, 102, 103, 104, 105, 106, 107, 108, 109, 110, 111, 112, 113, 114, 115] (by decide +kernel) (by decide +kernel)
set_option maxRecDepth 20000 in
theorem gX7_about_X7_searchOnce : GoodIn wsX7_about (wsV RX7 154 RX7 yX7_searchOnce wsX7_searchOnce) := goodIn_app (goodIn_of _ (by decide +kernel)) ggX7_about_X7_searchOnce
set_option maxRecDepth 20000 in
theorem ggX7_about_X2_fact : GoodIn wsX7_about wsX2_fact := goodIn_r _ [88, 22, 31, 27, 28, 29, 30, 89, 53, 50, 54, 90, 91, 92, 15, 93, 17, 75, 76, 77, 78, 79, 80, 81, 102, 103, 104, 105, 106, 107, 108, 109] (by decide +kernel) (by decide +kernel)
set_option maxRecDepth 20000 in
theorem gX7_about_X2_fact : GoodIn wsX7_about (wsV RX7 161 RX2 yX2_fact wsX2_fact) := goodIn_app (goodIn_of _ (by decide +kernel)) ggX7_about_X2_fact
theorem dX7_about_0 : decode cX7_about 0 = .ok (.iload_n 1, 1) := by decide +kernel
theorem dX7_about_1 : decode cX7_about 1 = .ok (.ifCond .lt 13, 3) := by decide +kernel
theorem dX7_about_4 : decode cX7_about 4 = .ok (.iload_n 2, 1) := by decide +kernel
theorem dX7_about_5 : decode cX7_about 5 = .ok (.ifCond .lt 9, 3) := by decide +kernel
theorem dX7_about_8 : decode cX7_about 8 = .ok (.iload_n 2, 1) := by decide +kernel
theorem dX7_about_9 : decode cX7_about 9 = .ok (.bipush 6, 2) := by decide +kernel
theorem dX7_about_11 : decode cX7_about 11 = .ok (.if_icmp .le 5, 3) := by decide +kernel
theorem dX7_about_14 : decode cX7_about 14 = .ok (.iconst (-1), 1) := by decide +kernel
theorem dX7_about_15 : decode cX7_about 15 = .ok (.ireturn, 1) := by decide +kernel
theorem dX7_about_16 : decode cX7_about 16 = .ok (.aload_n 0, 1) := by decide +kernel
theorem dX7_about_17 : decode cX7_about 17 = .ok (.invokevirtual 154, 3) := by decide +kernel
theorem dX7_about_20 : decode cX7_about 20 = .ok (.aload_n 0, 1) := by decide +kernel
theorem dX7_about_21 : decode cX7_about 21 = .ok (.getfield 36, 3) := by decide +kernel
theorem dX7_about_24 : decode cX7_about 24 = .ok (.getfield 157, 3) := by decide +kernel
theorem dX7_about_27 : decode cX7_about 27 = .ok (.ifCond .eq 6, 3) := by decide +kernel
theorem dX7_about_30 : decode cX7_about 30 = .ok (.bipush (-3), 2) := by decide +kernel
theorem dX7_about_32 : decode cX7_about 32 = .ok (.ireturn, 1) := by decide +kernel
theorem dX7_about_33 : decode cX7_about 33 = .ok (.iload_n 1, 1) := by decide +kernel
theorem dX7_about_34 : decode cX7_about 34 = .ok (.aload_n 0, 1) := by decide +kernel
theorem dX7_about_35 : decode cX7_about 35 = .ok (.getfield 36, 3) := by decide +kernel
theorem dX7_about_38 : decode cX7_about 38 = .ok (.getfield 160, 3) := by decide +kernel
theorem dX7_about_41 : decode cX7_about 41 = .ok (.if_icmp .ge 15, 3) := by decide +kernel
theorem dX7_about_44 : decode cX7_about 44 = .ok (.aload_n 0, 1) := by decide +kernel
theorem dX7_about_45 : decode cX7_about 45 = .ok (.getfield 36, 3) := by decide +kernel
theorem dX7_about_48 : decode cX7_about 48 = .ok (.iload_n 1, 1) := by decide +kernel
theorem dX7_about_49 : decode cX7_about 49 = .ok (.iload_n 2, 1) := by decide +kernel
theorem dX7_about_50 : decode cX7_about 50 = .ok (.invokevirtual 161, 3) := by decide +kernel
theorem dX7_about_53 : decode cX7_about 53 = .ok (.goto 4, 3) := by decide +kernel
theorem dX7_about_56 : decode cX7_about 56 = .ok (.iconst (-1), 1) := by decide +kernel
theorem dX7_about_57 : decode cX7_about 57 = .ok (.ireturn, 1) := by decide +kernel
set_option maxRecDepth 20000 in
theorem ggX7_letter_X7_isAmong : GoodIn wsX7_letter wsX7_isAmong := goodIn_r _ [7] (by decide +kernel) (by decide +kernel)
set_option maxRecDepth 20000 in
theorem gX7_letter_X7_isAmong : GoodIn wsX7_letter (va_wsS RX7 68 yX7_isAmong wsX7_isAmong) := goodIn_app (goodIn_of _ (by decide +kernel)) ggX7_letter_X7_isAmong
set_option maxRecDepth 20000 in
theorem ggX7_letter_X7_searchOnce : GoodIn wsX7_letter wsX7_searchOnce := goodIn_r _ [11, 12, 1, 13, 14, 15, 16, 17, 18, 19, 20, 21, 22, 23, 24, 25, 26, 27, 28, 29, 30, 31, 32, 33, 34, 35, 36, 37, 38, 39, 40, 41, 42, 43, 44, 45, 46, 47, 48, 49, 50, 51, 52, 53, 54, 55, 56, 57, 58, 59, 60, 61, 62, 63, 64, 65, 66, 67, 68, 69, 70, 71, 72, 73, 74, 75, 76, 77, 78, 79, 80, 81, 82, 83, 84, 85, 86, 87, 94, 95, 96, 97, 98, 99, 100, 101, 102, 103, 104, 105, 106, 107, 108, 109, 110, 111, 112, 113, 114, 115] (by decide +kernel) (by decide +kernel)
set_option maxRecDepth 20000 in
theorem gX7_letter_X7_searchOnce : GoodIn wsX7_letter (wsV RX7 154 RX7 yX7_searchOnce wsX7_searchOnce) := goodIn_app (goodIn_of _ (by decide +kernel)) ggX7_letter_X7_searchOnce
set_option maxRecDepth 20000 in
theorem ggX7_letter_X2_wordOf : GoodIn wsX7_letter wsX2_wordOf := goodIn_r _ [91, 30, 31, 102, 103, 104, 105, 106, 107, 108, 109] (by decide +kernel) (by decide +kernel)
set_option maxRecDepth 20000 in
theorem gX7_letter_X2_wordOf : GoodIn wsX7_letter (wsV RX7 164 RX2 yX2_wordOf wsX2_wordOf) := goodIn_app (goodIn_of _ (by decide +kernel)) ggX7_letter_X2_wordOf
set_option maxRecDepth 20000 in
theorem ggX7_letter_X6_size : GoodIn wsX7_letter wsX6_size := goodIn_r _ [57] (by decide +kernel) (by decide +kernel)
set_option maxRecDepth 20000 in
theorem gX7_letter_X6_size : GoodIn wsX7_letter (va_wsS RX7 138 yX6_size wsX6_size) := goodIn_app (goodIn_of _ (by decide +kernel)) ggX7_letter_X6_size
set_option maxRecDepth 20000 in
theorem ggX7_letter_X6_at : GoodIn wsX7_letter wsX6_at := goodIn_r _ [60] (by decide +kernel) (by decide +kernel)
set_option maxRecDepth 20000 in
theorem gX7_letter_X6_at : GoodIn wsX7_letter (va_wsS RX7 140 yX6_at wsX6_at) := goodIn_app (goodIn_of _ (by decide +kernel)) ggX7_letter_X6_at
theorem dX7_letter_0 : decode cX7_letter 0 = .ok (.iload_n 1, 1) := by decide +kernel
theorem dX7_letter_1 : decode cX7_letter 1 = .ok (.ifCond .lt 15, 3) := by decide +kernel
theorem dX7_letter_4 : decode cX7_letter 4 = .ok (.iload_n 3, 1) := by decide +kernel
theorem dX7_letter_5 : decode cX7_letter 5 = .ok (.ifCond .lt 11, 3) := by decide +kernel
theorem dX7_letter_8 : decode cX7_letter 8 = .ok (.iload_n 2, 1) := by decide +kernel
theorem dX7_letter_9 : decode cX7_letter 9 = .ok (.iconst 2, 1) := by decide +kernel
theorem dX7_letter_10 : decode cX7_letter 10 = .ok (.invokestatic 68, 3) := by decide +kernel
theorem dX7_letter_13 : decode cX7_letter 13 = .ok (.ifCond .ne 5, 3) := by decide +kernel
theorem dX7_letter_16 : decode cX7_letter 16 = .ok (.iconst (-1), 1) := by decide +kernel
theorem dX7_letter_17 : decode cX7_letter 17 = .ok (.ireturn, 1) := by decide +kernel
theorem dX7_letter_18 : decode cX7_letter 18 = .ok (.aload_n 0, 1) := by decide +kernel
theorem dX7_letter_19 : decode cX7_letter 19 = .ok (.invokevirtual 154, 3) := by decide +kernel
theorem dX7_letter_22 : decode cX7_letter 22 = .ok (.aload_n 0, 1) := by decide +kernel
theorem dX7_letter_23 : decode cX7_letter 23 = .ok (.getfield 36, 3) := by decide +kernel
theorem dX7_letter_26 : decode cX7_letter 26 = .ok (.getfield 157, 3) := by decide +kernel
theorem dX7_letter_29 : decode cX7_letter 29 = .ok (.ifCond .eq 6, 3) := by decide +kernel
theorem dX7_letter_32 : decode cX7_letter 32 = .ok (.bipush (-3), 2) := by decide +kernel
theorem dX7_letter_34 : decode cX7_letter 34 = .ok (.ireturn, 1) := by decide +kernel
theorem dX7_letter_35 : decode cX7_letter 35 = .ok (.iload_n 1, 1) := by decide +kernel
theorem dX7_letter_36 : decode cX7_letter 36 = .ok (.aload_n 0, 1) := by decide +kernel
theorem dX7_letter_37 : decode cX7_letter 37 = .ok (.getfield 36, 3) := by decide +kernel
theorem dX7_letter_40 : decode cX7_letter 40 = .ok (.getfield 160, 3) := by decide +kernel
theorem dX7_letter_43 : decode cX7_letter 43 = .ok (.if_icmp .lt 5, 3) := by decide +kernel
theorem dX7_letter_46 : decode cX7_letter 46 = .ok (.iconst (-1), 1) := by decide +kernel
theorem dX7_letter_47 : decode cX7_letter 47 = .ok (.ireturn, 1) := by decide +kernel
theorem dX7_letter_48 : decode cX7_letter 48 = .ok (.aload_n 0, 1) := by decide +kernel
theorem dX7_letter_49 : decode cX7_letter 49 = .ok (.getfield 36, 3) := by decide +kernel
theorem dX7_letter_52 : decode cX7_letter 52 = .ok (.iload_n 1, 1) := by decide +kernel
theorem dX7_letter_53 : decode cX7_letter 53 = .ok (.iload_n 2, 1) := by decide +kernel
theorem dX7_letter_54 : decode cX7_letter 54 = .ok (.invokevirtual 164, 3) := by decide +kernel
theorem dX7_letter_57 : decode cX7_letter 57 = .ok (.istore 4, 2) := by decide +kernel
theorem dX7_letter_59 : decode cX7_letter 59 = .ok (.iload_n 3, 1) := by decide +kernel
theorem dX7_letter_60 : decode cX7_letter 60 = .ok (.iload 4, 2) := by decide +kernel
theorem dX7_letter_62 : decode cX7_letter 62 = .ok (.invokestatic 138, 3) := by decide +kernel
theorem dX7_letter_65 : decode cX7_letter 65 = .ok (.if_icmp .ge 12, 3) := by decide +kernel
theorem dX7_letter_68 : decode cX7_letter 68 = .ok (.iload 4, 2) := by decide +kernel
theorem dX7_letter_70 : decode cX7_letter 70 = .ok (.iload_n 3, 1) := by decide +kernel
theorem dX7_letter_71 : decode cX7_letter 71 = .ok (.invokestatic 140, 3) := by decide +kernel
theorem dX7_letter_74 : decode cX7_letter 74 = .ok (.goto 4, 3) := by decide +kernel
theorem dX7_letter_77 : decode cX7_letter 77 = .ok (.iconst (-1), 1) := by decide +kernel
theorem dX7_letter_78 : decode cX7_letter 78 = .ok (.ireturn, 1) := by decide +kernel
set_option maxRecDepth 20000 in
theorem ggX7_least_X7_searchOnce : GoodIn wsX7_least wsX7_searchOnce := goodIn_r _ [7, 8, 1, 9, 10, 11, 12, 13, 14, 15, 16, 17, 18, 19, 20, 21, 22, 23, 24, 25, 26, 27, 28, 29, 30, 31, 32, 33, 34, 35, 36, 37, 38, 39, 40, 41, 42, 43, 44, 45, 46, 47, 48, 49, 50, 51, 52, 53, 54, 55, 56, 57, 58, 59, 60, 61, 62, 63, 64, 65, 66, 67, 68, 69, 70, 71, 72, 73, 74, 75, 76, 77, 78, 79, 80, 81, 82, 83, 92, 93, 94, 95, 96, 97, 98, 99, 100, 101, 102, 103, 104, 105, 106, 107, 108, 109, 110, 111, 112, 113] (by decide +kernel) (by decide +kernel)
set_option maxRecDepth 20000 in
theorem gX7_least_X7_searchOnce : GoodIn wsX7_least (wsV RX7 154 RX7 yX7_searchOnce wsX7_searchOnce) := goodIn_app (goodIn_of _ (by decide +kernel)) ggX7_least_X7_searchOnce
set_option maxRecDepth 20000 in
theorem ggX7_least_X2_countLeast : GoodIn wsX7_least wsX2_countLeast := goodIn_r _ [87, 16, 88, 89, 90, 14, 91, 21, 26, 27, 74, 75, 76, 77, 78, 79, 49, 80, 100, 101, 102, 103, 104, 105, 106, 107] (by decide +kernel) (by decide +kernel)
set_option maxRecDepth 20000 in
theorem gX7_least_X2_countLeast : GoodIn wsX7_least (wsV RX7 167 RX2 yX2_countLeast wsX2_countLeast) := goodIn_app (goodIn_of _ (by decide +kernel)) ggX7_least_X2_countLeast
theorem dX7_least_0 : decode cX7_least 0 = .ok (.aload_n 0, 1) := by decide +kernel
theorem dX7_least_1 : decode cX7_least 1 = .ok (.invokevirtual 154, 3) := by decide +kernel
theorem dX7_least_4 : decode cX7_least 4 = .ok (.aload_n 0, 1) := by decide +kernel
theorem dX7_least_5 : decode cX7_least 5 = .ok (.getfield 36, 3) := by decide +kernel
theorem dX7_least_8 : decode cX7_least 8 = .ok (.getfield 157, 3) := by decide +kernel
theorem dX7_least_11 : decode cX7_least 11 = .ok (.ifCond .eq 8, 3) := by decide +kernel
theorem dX7_least_14 : decode cX7_least 14 = .ok (.bipush (-3), 2) := by decide +kernel
theorem dX7_least_16 : decode cX7_least 16 = .ok (.goto 10, 3) := by decide +kernel
theorem dX7_least_19 : decode cX7_least 19 = .ok (.aload_n 0, 1) := by decide +kernel
theorem dX7_least_20 : decode cX7_least 20 = .ok (.getfield 36, 3) := by decide +kernel
theorem dX7_least_23 : decode cX7_least 23 = .ok (.invokevirtual 167, 3) := by decide +kernel
theorem dX7_least_26 : decode cX7_least 26 = .ok (.ireturn, 1) := by decide +kernel
set_option maxRecDepth 20000 in
theorem ggX7_far_X7_searchOnce : GoodIn wsX7_far wsX7_searchOnce := goodIn_r _ [11, 12, 1, 13, 14, 15, 16, 17, 18, 19, 20, 21, 22, 23, 24, 25, 26, 27, 28, 29, 30, 31, 32, 33, 34, 35, 36, 37, 38, 39, 40, 41, 42, 43, 44, 45, 46, 47, 48, 49, 50, 51, 52, 53, 54, 55, 56, 57, 58, 59, 60, 61, 62, 63, 64, 65, 66, 67, 68, 69, 70, 71, 72, 73, 74, 75, 76, 77, 78, 79, 80, 81, 82, 83, 84, 85, 86, 87, 89, 90, 91, 92, 93, 94, 95, 96, 97, 98, 99, 100, 101, 102, 103, 104, 105, 106, 107, 108, 109, 110] (by decide +kernel) (by decide +kernel)
set_option maxRecDepth 20000 in
theorem gX7_far_X7_searchOnce : GoodIn wsX7_far (wsV RX7 154 RX7 yX7_searchOnce wsX7_searchOnce) := goodIn_app (goodIn_of _ (by decide +kernel)) ggX7_far_X7_searchOnce
set_option maxRecDepth 20000 in
theorem ggX7_far_X2_firstBelow : GoodIn wsX7_far wsX2_firstBelow := goodIn_r _ [77, 20, 78, 79, 80, 18, 81, 25, 30, 31, 82, 83, 53, 84, 97, 98, 99, 100, 101, 102, 103, 104] (by decide +kernel) (by decide +kernel)
set_option maxRecDepth 20000 in
theorem gX7_far_X2_firstBelow : GoodIn wsX7_far (wsV RX7 171 RX2 yX2_firstBelow wsX2_firstBelow) := goodIn_app (goodIn_of _ (by decide +kernel)) ggX7_far_X2_firstBelow
theorem dX7_far_0 : decode cX7_far 0 = .ok (.aload_n 0, 1) := by decide +kernel
theorem dX7_far_1 : decode cX7_far 1 = .ok (.invokevirtual 154, 3) := by decide +kernel
theorem dX7_far_4 : decode cX7_far 4 = .ok (.aload_n 0, 1) := by decide +kernel
theorem dX7_far_5 : decode cX7_far 5 = .ok (.getfield 36, 3) := by decide +kernel
theorem dX7_far_8 : decode cX7_far 8 = .ok (.getfield 157, 3) := by decide +kernel
theorem dX7_far_11 : decode cX7_far 11 = .ok (.ifCond .eq 6, 3) := by decide +kernel
theorem dX7_far_14 : decode cX7_far 14 = .ok (.bipush (-3), 2) := by decide +kernel
theorem dX7_far_16 : decode cX7_far 16 = .ok (.ireturn, 1) := by decide +kernel
theorem dX7_far_17 : decode cX7_far 17 = .ok (.aload_n 0, 1) := by decide +kernel
theorem dX7_far_18 : decode cX7_far 18 = .ok (.getfield 36, 3) := by decide +kernel
theorem dX7_far_21 : decode cX7_far 21 = .ok (.aload_n 0, 1) := by decide +kernel
theorem dX7_far_22 : decode cX7_far 22 = .ok (.getfield 26, 3) := by decide +kernel
theorem dX7_far_25 : decode cX7_far 25 = .ok (.getfield 124, 3) := by decide +kernel
theorem dX7_far_28 : decode cX7_far 28 = .ok (.aload_n 0, 1) := by decide +kernel
theorem dX7_far_29 : decode cX7_far 29 = .ok (.getfield 26, 3) := by decide +kernel
theorem dX7_far_32 : decode cX7_far 32 = .ok (.getfield 127, 3) := by decide +kernel
theorem dX7_far_35 : decode cX7_far 35 = .ok (.iconst 0, 1) := by decide +kernel
theorem dX7_far_36 : decode cX7_far 36 = .ok (.iaload, 1) := by decide +kernel
theorem dX7_far_37 : decode cX7_far 37 = .ok (.aload_n 0, 1) := by decide +kernel
theorem dX7_far_38 : decode cX7_far 38 = .ok (.getfield 26, 3) := by decide +kernel
theorem dX7_far_41 : decode cX7_far 41 = .ok (.getfield 127, 3) := by decide +kernel
theorem dX7_far_44 : decode cX7_far 44 = .ok (.iconst 1, 1) := by decide +kernel
theorem dX7_far_45 : decode cX7_far 45 = .ok (.iaload, 1) := by decide +kernel
theorem dX7_far_46 : decode cX7_far 46 = .ok (.invokevirtual 171, 3) := by decide +kernel
theorem dX7_far_49 : decode cX7_far 49 = .ok (.istore_n 1, 1) := by decide +kernel
theorem dX7_far_50 : decode cX7_far 50 = .ok (.iload_n 1, 1) := by decide +kernel
theorem dX7_far_51 : decode cX7_far 51 = .ok (.ifCond .ge 8, 3) := by decide +kernel
theorem dX7_far_54 : decode cX7_far 54 = .ok (.bipush (-4), 2) := by decide +kernel
theorem dX7_far_56 : decode cX7_far 56 = .ok (.goto 12, 3) := by decide +kernel
theorem dX7_far_59 : decode cX7_far 59 = .ok (.aload_n 0, 1) := by decide +kernel
theorem dX7_far_60 : decode cX7_far 60 = .ok (.getfield 36, 3) := by decide +kernel
theorem dX7_far_63 : decode cX7_far 63 = .ok (.getfield 174, 3) := by decide +kernel
theorem dX7_far_66 : decode cX7_far 66 = .ok (.iload_n 1, 1) := by decide +kernel
theorem dX7_far_67 : decode cX7_far 67 = .ok (.iaload, 1) := by decide +kernel
theorem dX7_far_68 : decode cX7_far 68 = .ok (.ireturn, 1) := by decide +kernel
set_option maxRecDepth 20000 in
theorem ggX7_way_X7_searchOnce : GoodIn wsX7_way wsX7_searchOnce := goodIn_r _ [11, 12, 1, 13, 14, 15, 16, 17, 18, 19, 20, 21, 22, 23, 24, 25, 26, 27, 28, 29, 30, 31, 32, 33, 34, 35, 36, 37, 38, 39, 40, 41, 42, 43, 44, 45, 46, 47, 48, 49, 50, 51, 52, 53, 54, 55, 56, 57, 58, 59, 60, 61, 62, 63, 64, 65, 66, 67, 68, 69, 70, 71, 72, 73, 74, 75, 76, 77, 78, 79, 80, 81, 82, 83, 84, 85, 86, 87, 93, 94, 95, 96, 97, 98, 99, 100, 101, 102, 103, 104, 105, 106, 107, 108, 109, 110, 111, 112, 113, 114] (by decide +kernel) (by decide +kernel)
set_option maxRecDepth 20000 in
theorem gX7_way_X7_searchOnce : GoodIn wsX7_way (wsV RX7 154 RX7 yX7_searchOnce wsX7_searchOnce) := goodIn_app (goodIn_of _ (by decide +kernel)) ggX7_way_X7_searchOnce
set_option maxRecDepth 20000 in
theorem ggX7_way_X2_firstBelow : GoodIn wsX7_way wsX2_firstBelow := goodIn_r _ [77, 20, 78, 79, 80, 18, 81, 25, 30, 31, 82, 83, 53, 84, 101, 102, 103, 104, 105, 106, 107, 108] (by decide +kernel) (by decide +kernel)
set_option maxRecDepth 20000 in
theorem gX7_way_X2_firstBelow : GoodIn wsX7_way (wsV RX7 171 RX2 yX2_firstBelow wsX2_firstBelow) := goodIn_app (goodIn_of _ (by decide +kernel)) ggX7_way_X2_firstBelow
set_option maxRecDepth 20000 in
theorem ggX7_way_X2_arcOfWay : GoodIn wsX7_way wsX2_arcOfWay := goodIn_r _ [92, 33, 32, 101, 102, 103, 104, 105, 106, 107, 108] (by decide +kernel) (by decide +kernel)
set_option maxRecDepth 20000 in
theorem gX7_way_X2_arcOfWay : GoodIn wsX7_way (wsV RX7 177 RX2 yX2_arcOfWay wsX2_arcOfWay) := goodIn_app (goodIn_of _ (by decide +kernel)) ggX7_way_X2_arcOfWay
theorem dX7_way_0 : decode cX7_way 0 = .ok (.iload_n 1, 1) := by decide +kernel
theorem dX7_way_1 : decode cX7_way 1 = .ok (.ifCond .ge 5, 3) := by decide +kernel
theorem dX7_way_4 : decode cX7_way 4 = .ok (.iconst (-1), 1) := by decide +kernel
theorem dX7_way_5 : decode cX7_way 5 = .ok (.ireturn, 1) := by decide +kernel
theorem dX7_way_6 : decode cX7_way 6 = .ok (.aload_n 0, 1) := by decide +kernel
theorem dX7_way_7 : decode cX7_way 7 = .ok (.invokevirtual 154, 3) := by decide +kernel
theorem dX7_way_10 : decode cX7_way 10 = .ok (.aload_n 0, 1) := by decide +kernel
theorem dX7_way_11 : decode cX7_way 11 = .ok (.getfield 36, 3) := by decide +kernel
theorem dX7_way_14 : decode cX7_way 14 = .ok (.getfield 157, 3) := by decide +kernel
theorem dX7_way_17 : decode cX7_way 17 = .ok (.ifCond .eq 6, 3) := by decide +kernel
theorem dX7_way_20 : decode cX7_way 20 = .ok (.bipush (-3), 2) := by decide +kernel
theorem dX7_way_22 : decode cX7_way 22 = .ok (.ireturn, 1) := by decide +kernel
theorem dX7_way_23 : decode cX7_way 23 = .ok (.aload_n 0, 1) := by decide +kernel
theorem dX7_way_24 : decode cX7_way 24 = .ok (.getfield 36, 3) := by decide +kernel
theorem dX7_way_27 : decode cX7_way 27 = .ok (.aload_n 0, 1) := by decide +kernel
theorem dX7_way_28 : decode cX7_way 28 = .ok (.getfield 26, 3) := by decide +kernel
theorem dX7_way_31 : decode cX7_way 31 = .ok (.getfield 124, 3) := by decide +kernel
theorem dX7_way_34 : decode cX7_way 34 = .ok (.aload_n 0, 1) := by decide +kernel
theorem dX7_way_35 : decode cX7_way 35 = .ok (.getfield 26, 3) := by decide +kernel
theorem dX7_way_38 : decode cX7_way 38 = .ok (.getfield 127, 3) := by decide +kernel
theorem dX7_way_41 : decode cX7_way 41 = .ok (.iconst 0, 1) := by decide +kernel
theorem dX7_way_42 : decode cX7_way 42 = .ok (.iaload, 1) := by decide +kernel
theorem dX7_way_43 : decode cX7_way 43 = .ok (.aload_n 0, 1) := by decide +kernel
theorem dX7_way_44 : decode cX7_way 44 = .ok (.getfield 26, 3) := by decide +kernel
theorem dX7_way_47 : decode cX7_way 47 = .ok (.getfield 127, 3) := by decide +kernel
theorem dX7_way_50 : decode cX7_way 50 = .ok (.iconst 1, 1) := by decide +kernel
theorem dX7_way_51 : decode cX7_way 51 = .ok (.iaload, 1) := by decide +kernel
theorem dX7_way_52 : decode cX7_way 52 = .ok (.invokevirtual 171, 3) := by decide +kernel
theorem dX7_way_55 : decode cX7_way 55 = .ok (.istore_n 2, 1) := by decide +kernel
theorem dX7_way_56 : decode cX7_way 56 = .ok (.iload_n 2, 1) := by decide +kernel
theorem dX7_way_57 : decode cX7_way 57 = .ok (.ifCond .ge 6, 3) := by decide +kernel
theorem dX7_way_60 : decode cX7_way 60 = .ok (.bipush (-4), 2) := by decide +kernel
theorem dX7_way_62 : decode cX7_way 62 = .ok (.ireturn, 1) := by decide +kernel
theorem dX7_way_63 : decode cX7_way 63 = .ok (.iload_n 1, 1) := by decide +kernel
theorem dX7_way_64 : decode cX7_way 64 = .ok (.aload_n 0, 1) := by decide +kernel
theorem dX7_way_65 : decode cX7_way 65 = .ok (.getfield 36, 3) := by decide +kernel
theorem dX7_way_68 : decode cX7_way 68 = .ok (.getfield 174, 3) := by decide +kernel
theorem dX7_way_71 : decode cX7_way 71 = .ok (.iload_n 2, 1) := by decide +kernel
theorem dX7_way_72 : decode cX7_way 72 = .ok (.iaload, 1) := by decide +kernel
theorem dX7_way_73 : decode cX7_way 73 = .ok (.if_icmp .ge 15, 3) := by decide +kernel
theorem dX7_way_76 : decode cX7_way 76 = .ok (.aload_n 0, 1) := by decide +kernel
theorem dX7_way_77 : decode cX7_way 77 = .ok (.getfield 36, 3) := by decide +kernel
theorem dX7_way_80 : decode cX7_way 80 = .ok (.iload_n 2, 1) := by decide +kernel
theorem dX7_way_81 : decode cX7_way 81 = .ok (.iload_n 1, 1) := by decide +kernel
theorem dX7_way_82 : decode cX7_way 82 = .ok (.invokevirtual 177, 3) := by decide +kernel
theorem dX7_way_85 : decode cX7_way 85 = .ok (.goto 4, 3) := by decide +kernel
theorem dX7_way_88 : decode cX7_way 88 = .ok (.iconst (-1), 1) := by decide +kernel
theorem dX7_way_89 : decode cX7_way 89 = .ok (.ireturn, 1) := by decide +kernel
set_option maxRecDepth 20000 in
theorem ggX7_strict_X1_isLonger : GoodIn wsX7_strict wsX1_isLonger := goodIn_r _ [9, 10, 11, 12, 13, 14, 94, 95] (by decide +kernel) (by decide +kernel)
set_option maxRecDepth 20000 in
theorem gX7_strict_X1_isLonger : GoodIn wsX7_strict (wsV RX7 180 RX1 yX1_isLonger wsX1_isLonger) := goodIn_app (goodIn_of _ (by decide +kernel)) ggX7_strict_X1_isLonger
set_option maxRecDepth 20000 in
theorem ggX7_strict_X5_fewest : GoodIn wsX7_strict wsX5_fewest := goodIn_r _ [19, 20, 21, 22, 23, 24, 25, 26, 27, 28, 29, 30, 31, 18, 32, 33, 34, 35, 36, 37, 38, 39, 40, 41, 42, 43, 13, 44, 45, 46, 47, 48, 49, 50, 51, 52, 53, 54, 55, 56, 57, 58, 59, 60, 61, 62, 63, 64, 65, 66, 67, 68, 69, 70, 71, 72, 73, 74, 75, 76, 77, 78, 79, 80, 81, 82, 83, 84, 85, 12, 14, 96, 97, 98, 94, 95, 99, 100, 101, 102] (by decide +kernel) (by decide +kernel)
set_option maxRecDepth 20000 in
theorem gX7_strict_X5_fewest : GoodIn wsX7_strict (wsV RX7 183 RX5 yX5_fewest wsX5_fewest) := goodIn_app (goodIn_of _ (by decide +kernel)) ggX7_strict_X5_fewest
theorem dX7_strict_0 : decode cX7_strict 0 = .ok (.iload_n 1, 1) := by decide +kernel
theorem dX7_strict_1 : decode cX7_strict 1 = .ok (.ifCond .lt 8, 3) := by decide +kernel
theorem dX7_strict_4 : decode cX7_strict 4 = .ok (.iload_n 1, 1) := by decide +kernel
theorem dX7_strict_5 : decode cX7_strict 5 = .ok (.iconst 3, 1) := by decide +kernel
theorem dX7_strict_6 : decode cX7_strict 6 = .ok (.if_icmp .le 5, 3) := by decide +kernel
theorem dX7_strict_9 : decode cX7_strict 9 = .ok (.iconst (-1), 1) := by decide +kernel
theorem dX7_strict_10 : decode cX7_strict 10 = .ok (.ireturn, 1) := by decide +kernel
theorem dX7_strict_11 : decode cX7_strict 11 = .ok (.aload_n 0, 1) := by decide +kernel
theorem dX7_strict_12 : decode cX7_strict 12 = .ok (.getfield 26, 3) := by decide +kernel
theorem dX7_strict_15 : decode cX7_strict 15 = .ok (.iload_n 1, 1) := by decide +kernel
theorem dX7_strict_16 : decode cX7_strict 16 = .ok (.invokevirtual 180, 3) := by decide +kernel
theorem dX7_strict_19 : decode cX7_strict 19 = .ok (.ifCond .ne 14, 3) := by decide +kernel
theorem dX7_strict_22 : decode cX7_strict 22 = .ok (.aload_n 0, 1) := by decide +kernel
theorem dX7_strict_23 : decode cX7_strict 23 = .ok (.getfield 30, 3) := by decide +kernel
theorem dX7_strict_26 : decode cX7_strict 26 = .ok (.iload_n 1, 1) := by decide +kernel
theorem dX7_strict_27 : decode cX7_strict 27 = .ok (.invokevirtual 180, 3) := by decide +kernel
theorem dX7_strict_30 : decode cX7_strict 30 = .ok (.ifCond .eq 6, 3) := by decide +kernel
theorem dX7_strict_33 : decode cX7_strict 33 = .ok (.bipush (-2), 2) := by decide +kernel
theorem dX7_strict_35 : decode cX7_strict 35 = .ok (.ireturn, 1) := by decide +kernel
theorem dX7_strict_36 : decode cX7_strict 36 = .ok (.aload_n 0, 1) := by decide +kernel
theorem dX7_strict_37 : decode cX7_strict 37 = .ok (.getfield 43, 3) := by decide +kernel
theorem dX7_strict_40 : decode cX7_strict 40 = .ok (.aload_n 0, 1) := by decide +kernel
theorem dX7_strict_41 : decode cX7_strict 41 = .ok (.getfield 10, 3) := by decide +kernel
theorem dX7_strict_44 : decode cX7_strict 44 = .ok (.aload_n 0, 1) := by decide +kernel
theorem dX7_strict_45 : decode cX7_strict 45 = .ok (.getfield 26, 3) := by decide +kernel
theorem dX7_strict_48 : decode cX7_strict 48 = .ok (.aload_n 0, 1) := by decide +kernel
theorem dX7_strict_49 : decode cX7_strict 49 = .ok (.getfield 30, 3) := by decide +kernel
theorem dX7_strict_52 : decode cX7_strict 52 = .ok (.iload_n 1, 1) := by decide +kernel
theorem dX7_strict_53 : decode cX7_strict 53 = .ok (.invokevirtual 183, 3) := by decide +kernel
theorem dX7_strict_56 : decode cX7_strict 56 = .ok (.ireturn, 1) := by decide +kernel
set_option maxRecDepth 20000 in
theorem ggX7_sheet_X7_isAmong : GoodIn wsX7_sheet wsX7_isAmong := goodIn_r _ [5] (by decide +kernel) (by decide +kernel)
set_option maxRecDepth 20000 in
theorem gX7_sheet_X7_isAmong : GoodIn wsX7_sheet (va_wsS RX7 68 yX7_isAmong wsX7_isAmong) := goodIn_app (goodIn_of _ (by decide +kernel)) ggX7_sheet_X7_isAmong
set_option maxRecDepth 20000 in
theorem ggX7_sheet_X3_hold : GoodIn wsX7_sheet wsX3_hold := goodIn_r _ [10, 11, 12, 13, 14, 15, 16, 17, 18, 27, 28, 29, 30] (by decide +kernel) (by decide +kernel)
set_option maxRecDepth 20000 in
theorem gX7_sheet_X3_hold : GoodIn wsX7_sheet (wsV RX7 187 RX3 yX3_hold wsX3_hold) := goodIn_app (goodIn_of _ (by decide +kernel)) ggX7_sheet_X3_hold
theorem dX7_sheet_0 : decode cX7_sheet 0 = .ok (.iload_n 1, 1) := by decide +kernel
theorem dX7_sheet_1 : decode cX7_sheet 1 = .ok (.iconst 2, 1) := by decide +kernel
theorem dX7_sheet_2 : decode cX7_sheet 2 = .ok (.invokestatic 68, 3) := by decide +kernel
theorem dX7_sheet_5 : decode cX7_sheet 5 = .ok (.ifCond .eq 17, 3) := by decide +kernel
theorem dX7_sheet_8 : decode cX7_sheet 8 = .ok (.iload_n 2, 1) := by decide +kernel
theorem dX7_sheet_9 : decode cX7_sheet 9 = .ok (.iconst 2, 1) := by decide +kernel
theorem dX7_sheet_10 : decode cX7_sheet 10 = .ok (.invokestatic 68, 3) := by decide +kernel
theorem dX7_sheet_13 : decode cX7_sheet 13 = .ok (.ifCond .eq 9, 3) := by decide +kernel
theorem dX7_sheet_16 : decode cX7_sheet 16 = .ok (.iload_n 3, 1) := by decide +kernel
theorem dX7_sheet_17 : decode cX7_sheet 17 = .ok (.bipush 60, 2) := by decide +kernel
theorem dX7_sheet_19 : decode cX7_sheet 19 = .ok (.if_icmp .le 5, 3) := by decide +kernel
theorem dX7_sheet_22 : decode cX7_sheet 22 = .ok (.iconst (-1), 1) := by decide +kernel
theorem dX7_sheet_23 : decode cX7_sheet 23 = .ok (.ireturn, 1) := by decide +kernel
theorem dX7_sheet_24 : decode cX7_sheet 24 = .ok (.iload_n 3, 1) := by decide +kernel
theorem dX7_sheet_25 : decode cX7_sheet 25 = .ok (.ifCond .ge 6, 3) := by decide +kernel
theorem dX7_sheet_28 : decode cX7_sheet 28 = .ok (.bipush (-14), 2) := by decide +kernel
theorem dX7_sheet_30 : decode cX7_sheet 30 = .ok (.ireturn, 1) := by decide +kernel
theorem dX7_sheet_31 : decode cX7_sheet 31 = .ok (.aload_n 0, 1) := by decide +kernel
theorem dX7_sheet_32 : decode cX7_sheet 32 = .ok (.getfield 50, 3) := by decide +kernel
theorem dX7_sheet_35 : decode cX7_sheet 35 = .ok (.iload_n 1, 1) := by decide +kernel
theorem dX7_sheet_36 : decode cX7_sheet 36 = .ok (.aaload, 1) := by decide +kernel
theorem dX7_sheet_37 : decode cX7_sheet 37 = .ok (.iload_n 2, 1) := by decide +kernel
theorem dX7_sheet_38 : decode cX7_sheet 38 = .ok (.iload_n 3, 1) := by decide +kernel
theorem dX7_sheet_39 : decode cX7_sheet 39 = .ok (.invokevirtual 187, 3) := by decide +kernel
theorem dX7_sheet_42 : decode cX7_sheet 42 = .ok (.iload_n 3, 1) := by decide +kernel
theorem dX7_sheet_43 : decode cX7_sheet 43 = .ok (.ireturn, 1) := by decide +kernel
set_option maxRecDepth 20000 in
theorem ggX7_drop_X7_isAmong : GoodIn wsX7_drop wsX7_isAmong := goodIn_r _ [7] (by decide +kernel) (by decide +kernel)
set_option maxRecDepth 20000 in
theorem gX7_drop_X7_isAmong : GoodIn wsX7_drop (va_wsS RX7 68 yX7_isAmong wsX7_isAmong) := goodIn_app (goodIn_of _ (by decide +kernel)) ggX7_drop_X7_isAmong
theorem dX7_drop_0 : decode cX7_drop 0 = .ok (.iload_n 1, 1) := by decide +kernel
theorem dX7_drop_1 : decode cX7_drop 1 = .ok (.iconst 2, 1) := by decide +kernel
theorem dX7_drop_2 : decode cX7_drop 2 = .ok (.invokestatic 68, 3) := by decide +kernel
theorem dX7_drop_5 : decode cX7_drop 5 = .ok (.ifCond .ne 5, 3) := by decide +kernel
theorem dX7_drop_8 : decode cX7_drop 8 = .ok (.iconst (-1), 1) := by decide +kernel
theorem dX7_drop_9 : decode cX7_drop 9 = .ok (.ireturn, 1) := by decide +kernel
theorem dX7_drop_10 : decode cX7_drop 10 = .ok (.aload_n 0, 1) := by decide +kernel
theorem dX7_drop_11 : decode cX7_drop 11 = .ok (.getfield 50, 3) := by decide +kernel
theorem dX7_drop_14 : decode cX7_drop 14 = .ok (.iload_n 1, 1) := by decide +kernel
theorem dX7_drop_15 : decode cX7_drop 15 = .ok (.aaload, 1) := by decide +kernel
theorem dX7_drop_16 : decode cX7_drop 16 = .ok (.getfield 191, 3) := by decide +kernel
theorem dX7_drop_19 : decode cX7_drop 19 = .ok (.ifCond .ne 6, 3) := by decide +kernel
theorem dX7_drop_22 : decode cX7_drop 22 = .ok (.bipush (-11), 2) := by decide +kernel
theorem dX7_drop_24 : decode cX7_drop 24 = .ok (.ireturn, 1) := by decide +kernel
theorem dX7_drop_25 : decode cX7_drop 25 = .ok (.aload_n 0, 1) := by decide +kernel
theorem dX7_drop_26 : decode cX7_drop 26 = .ok (.getfield 50, 3) := by decide +kernel
theorem dX7_drop_29 : decode cX7_drop 29 = .ok (.iload_n 1, 1) := by decide +kernel
theorem dX7_drop_30 : decode cX7_drop 30 = .ok (.aaload, 1) := by decide +kernel
theorem dX7_drop_31 : decode cX7_drop 31 = .ok (.iconst 0, 1) := by decide +kernel
theorem dX7_drop_32 : decode cX7_drop 32 = .ok (.putfield 191, 3) := by decide +kernel
theorem dX7_drop_35 : decode cX7_drop 35 = .ok (.aload_n 0, 1) := by decide +kernel
theorem dX7_drop_36 : decode cX7_drop 36 = .ok (.getfield 50, 3) := by decide +kernel
theorem dX7_drop_39 : decode cX7_drop 39 = .ok (.iload_n 1, 1) := by decide +kernel
theorem dX7_drop_40 : decode cX7_drop 40 = .ok (.aaload, 1) := by decide +kernel
theorem dX7_drop_41 : decode cX7_drop 41 = .ok (.getfield 112, 3) := by decide +kernel
theorem dX7_drop_44 : decode cX7_drop 44 = .ok (.ireturn, 1) := by decide +kernel
set_option maxRecDepth 20000 in
theorem ggX7_item_X7_isAmong : GoodIn wsX7_item wsX7_isAmong := goodIn_r _ [6] (by decide +kernel) (by decide +kernel)
set_option maxRecDepth 20000 in
theorem gX7_item_X7_isAmong : GoodIn wsX7_item (va_wsS RX7 68 yX7_isAmong wsX7_isAmong) := goodIn_app (goodIn_of _ (by decide +kernel)) ggX7_item_X7_isAmong
set_option maxRecDepth 20000 in
theorem ggX7_item_X3_faultAs : GoodIn wsX7_item wsX3_faultAs := goodIn_r _ [11, 12, 13, 27, 28, 29, 30] (by decide +kernel) (by decide +kernel)
set_option maxRecDepth 20000 in
theorem gX7_item_X3_faultAs : GoodIn wsX7_item (wsV RX7 109 RX3 yX3_faultAs wsX3_faultAs) := goodIn_app (goodIn_of _ (by decide +kernel)) ggX7_item_X3_faultAs
set_option maxRecDepth 20000 in
theorem ggX7_item_X3_put : GoodIn wsX7_item wsX3_put := goodIn_r _ [17, 18, 13, 27, 28, 29, 30] (by decide +kernel) (by decide +kernel)
set_option maxRecDepth 20000 in
theorem gX7_item_X3_put : GoodIn wsX7_item (wsV RX7 194 RX3 yX3_put wsX3_put) := goodIn_app (goodIn_of _ (by decide +kernel)) ggX7_item_X3_put
theorem dX7_item_0 : decode cX7_item 0 = .ok (.iload_n 1, 1) := by decide +kernel
theorem dX7_item_1 : decode cX7_item 1 = .ok (.iconst 2, 1) := by decide +kernel
theorem dX7_item_2 : decode cX7_item 2 = .ok (.invokestatic 68, 3) := by decide +kernel
theorem dX7_item_5 : decode cX7_item 5 = .ok (.ifCond .eq 11, 3) := by decide +kernel
theorem dX7_item_8 : decode cX7_item 8 = .ok (.iload_n 2, 1) := by decide +kernel
theorem dX7_item_9 : decode cX7_item 9 = .ok (.iconst 2, 1) := by decide +kernel
theorem dX7_item_10 : decode cX7_item 10 = .ok (.invokestatic 68, 3) := by decide +kernel
theorem dX7_item_13 : decode cX7_item 13 = .ok (.ifCond .ne 5, 3) := by decide +kernel
theorem dX7_item_16 : decode cX7_item 16 = .ok (.iconst (-1), 1) := by decide +kernel
theorem dX7_item_17 : decode cX7_item 17 = .ok (.ireturn, 1) := by decide +kernel
theorem dX7_item_18 : decode cX7_item 18 = .ok (.aload_n 0, 1) := by decide +kernel
theorem dX7_item_19 : decode cX7_item 19 = .ok (.getfield 50, 3) := by decide +kernel
theorem dX7_item_22 : decode cX7_item 22 = .ok (.iload_n 1, 1) := by decide +kernel
theorem dX7_item_23 : decode cX7_item 23 = .ok (.aaload, 1) := by decide +kernel
theorem dX7_item_24 : decode cX7_item 24 = .ok (.astore 5, 2) := by decide +kernel
theorem dX7_item_26 : decode cX7_item 26 = .ok (.aload 5, 2) := by decide +kernel
theorem dX7_item_28 : decode cX7_item 28 = .ok (.iload_n 2, 1) := by decide +kernel
theorem dX7_item_29 : decode cX7_item 29 = .ok (.invokevirtual 109, 3) := by decide +kernel
theorem dX7_item_32 : decode cX7_item 32 = .ok (.istore 6, 2) := by decide +kernel
theorem dX7_item_34 : decode cX7_item 34 = .ok (.iload 6, 2) := by decide +kernel
theorem dX7_item_36 : decode cX7_item 36 = .ok (.ifCond .eq 6, 3) := by decide +kernel
theorem dX7_item_39 : decode cX7_item 39 = .ok (.iload 6, 2) := by decide +kernel
theorem dX7_item_41 : decode cX7_item 41 = .ok (.ireturn, 1) := by decide +kernel
theorem dX7_item_42 : decode cX7_item 42 = .ok (.iload_n 3, 1) := by decide +kernel
theorem dX7_item_43 : decode cX7_item 43 = .ok (.aload 5, 2) := by decide +kernel
theorem dX7_item_45 : decode cX7_item 45 = .ok (.getfield 112, 3) := by decide +kernel
theorem dX7_item_48 : decode cX7_item 48 = .ok (.invokestatic 68, 3) := by decide +kernel
theorem dX7_item_51 : decode cX7_item 51 = .ok (.ifCond .ne 6, 3) := by decide +kernel
theorem dX7_item_54 : decode cX7_item 54 = .ok (.bipush (-13), 2) := by decide +kernel
theorem dX7_item_56 : decode cX7_item 56 = .ok (.ireturn, 1) := by decide +kernel
theorem dX7_item_57 : decode cX7_item 57 = .ok (.aload 5, 2) := by decide +kernel
theorem dX7_item_59 : decode cX7_item 59 = .ok (.iload_n 3, 1) := by decide +kernel
theorem dX7_item_60 : decode cX7_item 60 = .ok (.iload 4, 2) := by decide +kernel
theorem dX7_item_62 : decode cX7_item 62 = .ok (.invokevirtual 194, 3) := by decide +kernel
theorem dX7_item_65 : decode cX7_item 65 = .ok (.iconst 1, 1) := by decide +kernel
theorem dX7_item_66 : decode cX7_item 66 = .ok (.ireturn, 1) := by decide +kernel
theorem dX7_isAmong_0 : decode cX7_isAmong 0 = .ok (.iload_n 0, 1) := by decide +kernel
theorem dX7_isAmong_1 : decode cX7_isAmong 1 = .ok (.ifCond .lt 12, 3) := by decide +kernel
theorem dX7_isAmong_4 : decode cX7_isAmong 4 = .ok (.iload_n 0, 1) := by decide +kernel
theorem dX7_isAmong_5 : decode cX7_isAmong 5 = .ok (.iload_n 1, 1) := by decide +kernel
theorem dX7_isAmong_6 : decode cX7_isAmong 6 = .ok (.if_icmp .ge 7, 3) := by decide +kernel
theorem dX7_isAmong_9 : decode cX7_isAmong 9 = .ok (.iconst 1, 1) := by decide +kernel
theorem dX7_isAmong_10 : decode cX7_isAmong 10 = .ok (.goto 4, 3) := by decide +kernel
theorem dX7_isAmong_13 : decode cX7_isAmong 13 = .ok (.iconst 0, 1) := by decide +kernel
theorem dX7_isAmong_14 : decode cX7_isAmong 14 = .ok (.ireturn, 1) := by decide +kernel
set_option maxRecDepth 20000 in
theorem ggX7_startAgain_X1_clear : GoodIn wsX7_startAgain wsX1_clear := goodIn_r _ [7, 8, 9, 18, 19] (by decide +kernel) (by decide +kernel)
set_option maxRecDepth 20000 in
theorem gX7_startAgain_X1_clear : GoodIn wsX7_startAgain (wsV RX7 61 RX1 yX1_clear wsX1_clear) := goodIn_app (goodIn_of _ (by decide +kernel)) ggX7_startAgain_X1_clear
theorem dX7_startAgain_0 : decode cX7_startAgain 0 = .ok (.aload_n 0, 1) := by decide +kernel
theorem dX7_startAgain_1 : decode cX7_startAgain 1 = .ok (.getfield 26, 3) := by decide +kernel
theorem dX7_startAgain_4 : decode cX7_startAgain 4 = .ok (.iconst 0, 1) := by decide +kernel
theorem dX7_startAgain_5 : decode cX7_startAgain 5 = .ok (.invokevirtual 61, 3) := by decide +kernel
theorem dX7_startAgain_8 : decode cX7_startAgain 8 = .ok (.aload_n 0, 1) := by decide +kernel
theorem dX7_startAgain_9 : decode cX7_startAgain 9 = .ok (.iconst 0, 1) := by decide +kernel
theorem dX7_startAgain_10 : decode cX7_startAgain 10 = .ok (.putfield 146, 3) := by decide +kernel
theorem dX7_startAgain_13 : decode cX7_startAgain 13 = .ok (.return_, 1) := by decide +kernel
set_option maxRecDepth 20000 in
theorem ggX7_searchOnce_X2_run : GoodIn wsX7_searchOnce wsX2_run := goodIn_r _ [9, 10, 11, 12, 13, 14, 15, 16, 17, 18, 8, 19, 20, 21, 22, 23, 24, 25, 26, 27, 28, 29, 30, 31, 32, 33, 34, 35, 36, 37, 38, 39, 40, 41, 42, 43, 44, 45, 46, 47, 48, 49, 50, 51, 52, 53, 54, 55, 56, 57, 58, 59, 60, 61, 62, 63, 64, 65, 66, 67, 68, 69, 70, 71, 72, 73, 74, 75, 76, 77, 86, 87, 88, 89, 90, 91, 92, 93, 94, 95, 96, 97, 98, 99] (by decide +kernel) (by decide +kernel)
set_option maxRecDepth 20000 in
theorem gX7_searchOnce_X2_run : GoodIn wsX7_searchOnce (wsV RX7 197 RX2 yX2_run wsX2_run) := goodIn_app (goodIn_of _ (by decide +kernel)) ggX7_searchOnce_X2_run
theorem dX7_searchOnce_0 : decode cX7_searchOnce 0 = .ok (.aload_n 0, 1) := by decide +kernel
theorem dX7_searchOnce_1 : decode cX7_searchOnce 1 = .ok (.getfield 146, 3) := by decide +kernel
theorem dX7_searchOnce_4 : decode cX7_searchOnce 4 = .ok (.ifCond .ne 23, 3) := by decide +kernel
theorem dX7_searchOnce_7 : decode cX7_searchOnce 7 = .ok (.aload_n 0, 1) := by decide +kernel
theorem dX7_searchOnce_8 : decode cX7_searchOnce 8 = .ok (.getfield 36, 3) := by decide +kernel
theorem dX7_searchOnce_11 : decode cX7_searchOnce 11 = .ok (.aload_n 0, 1) := by decide +kernel
theorem dX7_searchOnce_12 : decode cX7_searchOnce 12 = .ok (.getfield 10, 3) := by decide +kernel
theorem dX7_searchOnce_15 : decode cX7_searchOnce 15 = .ok (.aload_n 0, 1) := by decide +kernel
theorem dX7_searchOnce_16 : decode cX7_searchOnce 16 = .ok (.getfield 30, 3) := by decide +kernel
theorem dX7_searchOnce_19 : decode cX7_searchOnce 19 = .ok (.invokevirtual 197, 3) := by decide +kernel
theorem dX7_searchOnce_22 : decode cX7_searchOnce 22 = .ok (.aload_n 0, 1) := by decide +kernel
theorem dX7_searchOnce_23 : decode cX7_searchOnce 23 = .ok (.iconst 1, 1) := by decide +kernel
theorem dX7_searchOnce_24 : decode cX7_searchOnce 24 = .ok (.putfield 146, 3) := by decide +kernel
theorem dX7_searchOnce_27 : decode cX7_searchOnce 27 = .ok (.return_, 1) := by decide +kernel
theorem dX8_in_0 : decode cX8_in 0 = .ok (.iload_n 0, 1) := by decide +kernel
theorem dX8_in_1 : decode cX8_in 1 = .ok (.iload_n 1, 1) := by decide +kernel
theorem dX8_in_2 : decode cX8_in 2 = .ok (.if_icmp .lt 12, 3) := by decide +kernel
theorem dX8_in_5 : decode cX8_in 5 = .ok (.iload_n 0, 1) := by decide +kernel
theorem dX8_in_6 : decode cX8_in 6 = .ok (.iload_n 2, 1) := by decide +kernel
theorem dX8_in_7 : decode cX8_in 7 = .ok (.if_icmp .gt 7, 3) := by decide +kernel
theorem dX8_in_10 : decode cX8_in 10 = .ok (.iconst 1, 1) := by decide +kernel
theorem dX8_in_11 : decode cX8_in 11 = .ok (.goto 4, 3) := by decide +kernel
theorem dX8_in_14 : decode cX8_in 14 = .ok (.iconst 0, 1) := by decide +kernel
theorem dX8_in_15 : decode cX8_in 15 = .ok (.ireturn, 1) := by decide +kernel
theorem dX8_init_0 : decode cX8_init 0 = .ok (.aload_n 0, 1) := by decide +kernel
theorem dX8_init_1 : decode cX8_init 1 = .ok (.invokespecial 1, 3) := by decide +kernel
theorem dX8_init_4 : decode cX8_init 4 = .ok (.aload_n 0, 1) := by decide +kernel
theorem dX8_init_5 : decode cX8_init 5 = .ok (.iconst 4, 1) := by decide +kernel
theorem dX8_init_6 : decode cX8_init 6 = .ok (.putfield 7, 3) := by decide +kernel
theorem dX8_init_9 : decode cX8_init 9 = .ok (.aload_n 0, 1) := by decide +kernel
theorem dX8_init_10 : decode cX8_init 10 = .ok (.iconst 2, 1) := by decide +kernel
theorem dX8_init_11 : decode cX8_init 11 = .ok (.newarray .boolean, 2) := by decide +kernel
theorem dX8_init_13 : decode cX8_init 13 = .ok (.putfield 13, 3) := by decide +kernel
theorem dX8_init_16 : decode cX8_init 16 = .ok (.aload_n 0, 1) := by decide +kernel
theorem dX8_init_17 : decode cX8_init 17 = .ok (.bipush 20, 2) := by decide +kernel
theorem dX8_init_19 : decode cX8_init 19 = .ok (.newarray .int, 2) := by decide +kernel
theorem dX8_init_21 : decode cX8_init 21 = .ok (.putfield 17, 3) := by decide +kernel
theorem dX8_init_24 : decode cX8_init 24 = .ok (.aload_n 0, 1) := by decide +kernel
theorem dX8_init_25 : decode cX8_init 25 = .ok (.bipush 20, 2) := by decide +kernel
theorem dX8_init_27 : decode cX8_init 27 = .ok (.newarray .int, 2) := by decide +kernel
theorem dX8_init_29 : decode cX8_init 29 = .ok (.putfield 21, 3) := by decide +kernel
theorem dX8_init_32 : decode cX8_init 32 = .ok (.aload_n 0, 1) := by decide +kernel
theorem dX8_init_33 : decode cX8_init 33 = .ok (.bipush 20, 2) := by decide +kernel
theorem dX8_init_35 : decode cX8_init 35 = .ok (.newarray .int, 2) := by decide +kernel
theorem dX8_init_37 : decode cX8_init 37 = .ok (.putfield 24, 3) := by decide +kernel
theorem dX8_init_40 : decode cX8_init 40 = .ok (.aload_n 0, 1) := by decide +kernel
theorem dX8_init_41 : decode cX8_init 41 = .ok (.bipush 20, 2) := by decide +kernel
theorem dX8_init_43 : decode cX8_init 43 = .ok (.newarray .int, 2) := by decide +kernel
theorem dX8_init_45 : decode cX8_init 45 = .ok (.putfield 27, 3) := by decide +kernel
theorem dX8_init_48 : decode cX8_init 48 = .ok (.aload_n 0, 1) := by decide +kernel
theorem dX8_init_49 : decode cX8_init 49 = .ok (.bipush 20, 2) := by decide +kernel
theorem dX8_init_51 : decode cX8_init 51 = .ok (.newarray .int, 2) := by decide +kernel
theorem dX8_init_53 : decode cX8_init 53 = .ok (.putfield 30, 3) := by decide +kernel
theorem dX8_init_56 : decode cX8_init 56 = .ok (.aload_n 0, 1) := by decide +kernel
theorem dX8_init_57 : decode cX8_init 57 = .ok (.sipush 130, 3) := by decide +kernel
theorem dX8_init_60 : decode cX8_init 60 = .ok (.newarray .int, 2) := by decide +kernel
theorem dX8_init_62 : decode cX8_init 62 = .ok (.putfield 33, 3) := by decide +kernel
theorem dX8_init_65 : decode cX8_init 65 = .ok (.aload_n 0, 1) := by decide +kernel
theorem dX8_init_66 : decode cX8_init 66 = .ok (.bipush 100, 2) := by decide +kernel
theorem dX8_init_68 : decode cX8_init 68 = .ok (.newarray .int, 2) := by decide +kernel
theorem dX8_init_70 : decode cX8_init 70 = .ok (.putfield 36, 3) := by decide +kernel
theorem dX8_init_73 : decode cX8_init 73 = .ok (.aload_n 0, 1) := by decide +kernel
theorem dX8_init_74 : decode cX8_init 74 = .ok (.bipush 83, 2) := by decide +kernel
theorem dX8_init_76 : decode cX8_init 76 = .ok (.newarray .int, 2) := by decide +kernel
theorem dX8_init_78 : decode cX8_init 78 = .ok (.putfield 39, 3) := by decide +kernel
theorem dX8_init_81 : decode cX8_init 81 = .ok (.aload_n 0, 1) := by decide +kernel
theorem dX8_init_82 : decode cX8_init 82 = .ok (.sipush 166, 3) := by decide +kernel
theorem dX8_init_85 : decode cX8_init 85 = .ok (.newarray .int, 2) := by decide +kernel
theorem dX8_init_87 : decode cX8_init 87 = .ok (.putfield 42, 3) := by decide +kernel
theorem dX8_init_90 : decode cX8_init 90 = .ok (.aload_n 0, 1) := by decide +kernel
theorem dX8_init_91 : decode cX8_init 91 = .ok (.sipush 1826, 3) := by decide +kernel
theorem dX8_init_94 : decode cX8_init 94 = .ok (.newarray .int, 2) := by decide +kernel
theorem dX8_init_96 : decode cX8_init 96 = .ok (.putfield 45, 3) := by decide +kernel
theorem dX8_init_99 : decode cX8_init 99 = .ok (.aload_n 0, 1) := by decide +kernel
theorem dX8_init_100 : decode cX8_init 100 = .ok (.bipush 80, 2) := by decide +kernel
theorem dX8_init_102 : decode cX8_init 102 = .ok (.newarray .int, 2) := by decide +kernel
theorem dX8_init_104 : decode cX8_init 104 = .ok (.putfield 48, 3) := by decide +kernel
theorem dX8_init_107 : decode cX8_init 107 = .ok (.aload_n 0, 1) := by decide +kernel
theorem dX8_init_108 : decode cX8_init 108 = .ok (.bipush 80, 2) := by decide +kernel
theorem dX8_init_110 : decode cX8_init 110 = .ok (.newarray .int, 2) := by decide +kernel
theorem dX8_init_112 : decode cX8_init 112 = .ok (.putfield 51, 3) := by decide +kernel
theorem dX8_init_115 : decode cX8_init 115 = .ok (.aload_n 0, 1) := by decide +kernel
theorem dX8_init_116 : decode cX8_init 116 = .ok (.bipush 80, 2) := by decide +kernel
theorem dX8_init_118 : decode cX8_init 118 = .ok (.newarray .int, 2) := by decide +kernel
theorem dX8_init_120 : decode cX8_init 120 = .ok (.putfield 54, 3) := by decide +kernel
theorem dX8_init_123 : decode cX8_init 123 = .ok (.aload_n 0, 1) := by decide +kernel
theorem dX8_init_124 : decode cX8_init 124 = .ok (.ldc 57, 2) := by decide +kernel
theorem dX8_init_126 : decode cX8_init 126 = .ok (.newarray .int, 2) := by decide +kernel
theorem dX8_init_128 : decode cX8_init 128 = .ok (.putfield 58, 3) := by decide +kernel
theorem dX8_init_131 : decode cX8_init 131 = .ok (.aload_n 0, 1) := by decide +kernel
theorem dX8_init_132 : decode cX8_init 132 = .ok (.ldc 57, 2) := by decide +kernel
theorem dX8_init_134 : decode cX8_init 134 = .ok (.newarray .int, 2) := by decide +kernel
theorem dX8_init_136 : decode cX8_init 136 = .ok (.putfield 61, 3) := by decide +kernel
theorem dX8_init_139 : decode cX8_init 139 = .ok (.aload_n 0, 1) := by decide +kernel
theorem dX8_init_140 : decode cX8_init 140 = .ok (.iconst 2, 1) := by decide +kernel
theorem dX8_init_141 : decode cX8_init 141 = .ok (.newarray .int, 2) := by decide +kernel
theorem dX8_init_143 : decode cX8_init 143 = .ok (.putfield 64, 3) := by decide +kernel
theorem dX8_init_146 : decode cX8_init 146 = .ok (.aload_n 0, 1) := by decide +kernel
theorem dX8_init_147 : decode cX8_init 147 = .ok (.iconst 2, 1) := by decide +kernel
theorem dX8_init_148 : decode cX8_init 148 = .ok (.newarray .int, 2) := by decide +kernel
theorem dX8_init_150 : decode cX8_init 150 = .ok (.putfield 67, 3) := by decide +kernel
theorem dX8_init_153 : decode cX8_init 153 = .ok (.aload_n 0, 1) := by decide +kernel
theorem dX8_init_154 : decode cX8_init 154 = .ok (.bipush 120, 2) := by decide +kernel
theorem dX8_init_156 : decode cX8_init 156 = .ok (.newarray .int, 2) := by decide +kernel
theorem dX8_init_158 : decode cX8_init 158 = .ok (.putfield 70, 3) := by decide +kernel
theorem dX8_init_161 : decode cX8_init 161 = .ok (.aload_n 0, 1) := by decide +kernel
theorem dX8_init_162 : decode cX8_init 162 = .ok (.getfield 64, 3) := by decide +kernel
theorem dX8_init_165 : decode cX8_init 165 = .ok (.iconst 0, 1) := by decide +kernel
theorem dX8_init_166 : decode cX8_init 166 = .ok (.iconst (-1), 1) := by decide +kernel
theorem dX8_init_167 : decode cX8_init 167 = .ok (.iastore, 1) := by decide +kernel
theorem dX8_init_168 : decode cX8_init 168 = .ok (.aload_n 0, 1) := by decide +kernel
theorem dX8_init_169 : decode cX8_init 169 = .ok (.getfield 64, 3) := by decide +kernel
theorem dX8_init_172 : decode cX8_init 172 = .ok (.iconst 1, 1) := by decide +kernel
theorem dX8_init_173 : decode cX8_init 173 = .ok (.iconst (-1), 1) := by decide +kernel
theorem dX8_init_174 : decode cX8_init 174 = .ok (.iastore, 1) := by decide +kernel
theorem dX8_init_175 : decode cX8_init 175 = .ok (.return_, 1) := by decide +kernel
theorem dX8_empty_0 : decode cX8_empty 0 = .ok (.aload_n 0, 1) := by decide +kernel
theorem dX8_empty_1 : decode cX8_empty 1 = .ok (.getfield 39, 3) := by decide +kernel
theorem dX8_empty_4 : decode cX8_empty 4 = .ok (.iload_n 1, 1) := by decide +kernel
theorem dX8_empty_5 : decode cX8_empty 5 = .ok (.iload_n 2, 1) := by decide +kernel
theorem dX8_empty_6 : decode cX8_empty 6 = .ok (.iastore, 1) := by decide +kernel
theorem dX8_empty_7 : decode cX8_empty 7 = .ok (.aload_n 0, 1) := by decide +kernel
theorem dX8_empty_8 : decode cX8_empty 8 = .ok (.getfield 42, 3) := by decide +kernel
theorem dX8_empty_11 : decode cX8_empty 11 = .ok (.iconst 2, 1) := by decide +kernel
theorem dX8_empty_12 : decode cX8_empty 12 = .ok (.iload_n 1, 1) := by decide +kernel
theorem dX8_empty_13 : decode cX8_empty 13 = .ok (.imul, 1) := by decide +kernel
theorem dX8_empty_14 : decode cX8_empty 14 = .ok (.iconst 0, 1) := by decide +kernel
theorem dX8_empty_15 : decode cX8_empty 15 = .ok (.iastore, 1) := by decide +kernel
theorem dX8_empty_16 : decode cX8_empty 16 = .ok (.aload_n 0, 1) := by decide +kernel
theorem dX8_empty_17 : decode cX8_empty 17 = .ok (.getfield 42, 3) := by decide +kernel
theorem dX8_empty_20 : decode cX8_empty 20 = .ok (.iconst 2, 1) := by decide +kernel
theorem dX8_empty_21 : decode cX8_empty 21 = .ok (.iload_n 1, 1) := by decide +kernel
theorem dX8_empty_22 : decode cX8_empty 22 = .ok (.imul, 1) := by decide +kernel
theorem dX8_empty_23 : decode cX8_empty 23 = .ok (.iconst 1, 1) := by decide +kernel
theorem dX8_empty_24 : decode cX8_empty 24 = .ok (.iadd, 1) := by decide +kernel
theorem dX8_empty_25 : decode cX8_empty 25 = .ok (.iconst 0, 1) := by decide +kernel
theorem dX8_empty_26 : decode cX8_empty 26 = .ok (.iastore, 1) := by decide +kernel
theorem dX8_empty_27 : decode cX8_empty 27 = .ok (.return_, 1) := by decide +kernel
set_option maxRecDepth 20000 in
theorem ggX8_states_X8_in : GoodIn wsX8_states wsX8_in := goodIn_r _ [6] (by decide +kernel) (by decide +kernel)
set_option maxRecDepth 20000 in
theorem gX8_states_X8_in : GoodIn wsX8_states (va_wsS RX8 73 yX8_in wsX8_in) := goodIn_app (goodIn_of _ (by decide +kernel)) ggX8_states_X8_in
set_option maxRecDepth 20000 in
theorem ggX8_states_X8_empty : GoodIn wsX8_states wsX8_empty := goodIn_r _ [10, 11, 12, 13, 14, 15, 16, 17, 18, 19, 20, 21, 22, 23, 24, 25, 26, 27, 28, 29, 30, 31, 32, 33, 34, 35, 36, 37] (by decide +kernel) (by decide +kernel)
set_option maxRecDepth 20000 in
theorem gX8_states_X8_empty : GoodIn wsX8_states (wsV RX8 80 RX8 yX8_empty wsX8_empty) := goodIn_app (goodIn_of _ (by decide +kernel)) ggX8_states_X8_empty
theorem dX8_states_0 : decode cX8_states 0 = .ok (.iload_n 1, 1) := by decide +kernel
theorem dX8_states_1 : decode cX8_states 1 = .ok (.iconst 1, 1) := by decide +kernel
theorem dX8_states_2 : decode cX8_states 2 = .ok (.bipush 8, 2) := by decide +kernel
theorem dX8_states_4 : decode cX8_states 4 = .ok (.invokestatic 73, 3) := by decide +kernel
theorem dX8_states_7 : decode cX8_states 7 = .ok (.ifCond .ne 5, 3) := by decide +kernel
theorem dX8_states_10 : decode cX8_states 10 = .ok (.iconst (-1), 1) := by decide +kernel
theorem dX8_states_11 : decode cX8_states 11 = .ok (.ireturn, 1) := by decide +kernel
theorem dX8_states_12 : decode cX8_states 12 = .ok (.aload_n 0, 1) := by decide +kernel
theorem dX8_states_13 : decode cX8_states 13 = .ok (.getfield 7, 3) := by decide +kernel
theorem dX8_states_16 : decode cX8_states 16 = .ok (.istore_n 2, 1) := by decide +kernel
theorem dX8_states_17 : decode cX8_states 17 = .ok (.aload_n 0, 1) := by decide +kernel
theorem dX8_states_18 : decode cX8_states 18 = .ok (.iload_n 1, 1) := by decide +kernel
theorem dX8_states_19 : decode cX8_states 19 = .ok (.putfield 7, 3) := by decide +kernel
theorem dX8_states_22 : decode cX8_states 22 = .ok (.aload_n 0, 1) := by decide +kernel
theorem dX8_states_23 : decode cX8_states 23 = .ok (.iconst 0, 1) := by decide +kernel
theorem dX8_states_24 : decode cX8_states 24 = .ok (.putfield 77, 3) := by decide +kernel
theorem dX8_states_27 : decode cX8_states 27 = .ok (.aload_n 0, 1) := by decide +kernel
theorem dX8_states_28 : decode cX8_states 28 = .ok (.bipush 81, 2) := by decide +kernel
theorem dX8_states_30 : decode cX8_states 30 = .ok (.iconst 0, 1) := by decide +kernel
theorem dX8_states_31 : decode cX8_states 31 = .ok (.invokevirtual 80, 3) := by decide +kernel
theorem dX8_states_34 : decode cX8_states 34 = .ok (.aload_n 0, 1) := by decide +kernel
theorem dX8_states_35 : decode cX8_states 35 = .ok (.bipush 82, 2) := by decide +kernel
theorem dX8_states_37 : decode cX8_states 37 = .ok (.iconst 0, 1) := by decide +kernel
theorem dX8_states_38 : decode cX8_states 38 = .ok (.invokevirtual 80, 3) := by decide +kernel
theorem dX8_states_41 : decode cX8_states 41 = .ok (.iload_n 2, 1) := by decide +kernel
theorem dX8_states_42 : decode cX8_states 42 = .ok (.ireturn, 1) := by decide +kernel
set_option maxRecDepth 20000 in
theorem ggX8_bag_X8_in : GoodIn wsX8_bag wsX8_in := goodIn_r _ [5] (by decide +kernel) (by decide +kernel)
set_option maxRecDepth 20000 in
theorem gX8_bag_X8_in : GoodIn wsX8_bag (va_wsS RX8 73 yX8_in wsX8_in) := goodIn_app (goodIn_of _ (by decide +kernel)) ggX8_bag_X8_in
set_option maxRecDepth 20000 in
theorem ggX8_bag_X8_empty : GoodIn wsX8_bag wsX8_empty := goodIn_r _ [9, 10, 11, 12, 13, 14, 15, 16, 17, 18, 19, 20, 21, 22, 23, 24, 25, 26, 27, 28, 29, 30, 31, 32, 33, 34, 35, 36] (by decide +kernel) (by decide +kernel)
set_option maxRecDepth 20000 in
theorem gX8_bag_X8_empty : GoodIn wsX8_bag (wsV RX8 80 RX8 yX8_empty wsX8_empty) := goodIn_app (goodIn_of _ (by decide +kernel)) ggX8_bag_X8_empty
theorem dX8_bag_0 : decode cX8_bag 0 = .ok (.iload_n 1, 1) := by decide +kernel
theorem dX8_bag_1 : decode cX8_bag 1 = .ok (.iconst 0, 1) := by decide +kernel
theorem dX8_bag_2 : decode cX8_bag 2 = .ok (.iconst 1, 1) := by decide +kernel
theorem dX8_bag_3 : decode cX8_bag 3 = .ok (.invokestatic 73, 3) := by decide +kernel
theorem dX8_bag_6 : decode cX8_bag 6 = .ok (.ifCond .ne 5, 3) := by decide +kernel
theorem dX8_bag_9 : decode cX8_bag 9 = .ok (.iconst (-1), 1) := by decide +kernel
theorem dX8_bag_10 : decode cX8_bag 10 = .ok (.ireturn, 1) := by decide +kernel
theorem dX8_bag_11 : decode cX8_bag 11 = .ok (.aload_n 0, 1) := by decide +kernel
theorem dX8_bag_12 : decode cX8_bag 12 = .ok (.getfield 13, 3) := by decide +kernel
theorem dX8_bag_15 : decode cX8_bag 15 = .ok (.iload_n 1, 1) := by decide +kernel
theorem dX8_bag_16 : decode cX8_bag 16 = .ok (.baload, 1) := by decide +kernel
theorem dX8_bag_17 : decode cX8_bag 17 = .ok (.istore_n 3, 1) := by decide +kernel
theorem dX8_bag_18 : decode cX8_bag 18 = .ok (.aload_n 0, 1) := by decide +kernel
theorem dX8_bag_19 : decode cX8_bag 19 = .ok (.getfield 13, 3) := by decide +kernel
theorem dX8_bag_22 : decode cX8_bag 22 = .ok (.iload_n 1, 1) := by decide +kernel
theorem dX8_bag_23 : decode cX8_bag 23 = .ok (.iload_n 2, 1) := by decide +kernel
theorem dX8_bag_24 : decode cX8_bag 24 = .ok (.bastore, 1) := by decide +kernel
theorem dX8_bag_25 : decode cX8_bag 25 = .ok (.aload_n 0, 1) := by decide +kernel
theorem dX8_bag_26 : decode cX8_bag 26 = .ok (.bipush 81, 2) := by decide +kernel
theorem dX8_bag_28 : decode cX8_bag 28 = .ok (.iconst 0, 1) := by decide +kernel
theorem dX8_bag_29 : decode cX8_bag 29 = .ok (.invokevirtual 80, 3) := by decide +kernel
theorem dX8_bag_32 : decode cX8_bag 32 = .ok (.aload_n 0, 1) := by decide +kernel
theorem dX8_bag_33 : decode cX8_bag 33 = .ok (.bipush 82, 2) := by decide +kernel
theorem dX8_bag_35 : decode cX8_bag 35 = .ok (.iconst 0, 1) := by decide +kernel
theorem dX8_bag_36 : decode cX8_bag 36 = .ok (.invokevirtual 80, 3) := by decide +kernel
theorem dX8_bag_39 : decode cX8_bag 39 = .ok (.iload_n 3, 1) := by decide +kernel
theorem dX8_bag_40 : decode cX8_bag 40 = .ok (.ifCond .eq 7, 3) := by decide +kernel
theorem dX8_bag_43 : decode cX8_bag 43 = .ok (.iconst 1, 1) := by decide +kernel
theorem dX8_bag_44 : decode cX8_bag 44 = .ok (.goto 4, 3) := by decide +kernel
theorem dX8_bag_47 : decode cX8_bag 47 = .ok (.iconst 0, 1) := by decide +kernel
theorem dX8_bag_48 : decode cX8_bag 48 = .ok (.ireturn, 1) := by decide +kernel
set_option maxRecDepth 20000 in
theorem ggX8_isState_X8_in : GoodIn wsX8_isState wsX8_in := goodIn_r _ [5] (by decide +kernel) (by decide +kernel)
set_option maxRecDepth 20000 in
theorem gX8_isState_X8_in : GoodIn wsX8_isState (va_wsS RX8 73 yX8_in wsX8_in) := goodIn_app (goodIn_of _ (by decide +kernel)) ggX8_isState_X8_in
theorem dX8_isState_0 : decode cX8_isState 0 = .ok (.iload_n 1, 1) := by decide +kernel
theorem dX8_isState_1 : decode cX8_isState 1 = .ok (.iconst 0, 1) := by decide +kernel
theorem dX8_isState_2 : decode cX8_isState 2 = .ok (.aload_n 0, 1) := by decide +kernel
theorem dX8_isState_3 : decode cX8_isState 3 = .ok (.getfield 7, 3) := by decide +kernel
theorem dX8_isState_6 : decode cX8_isState 6 = .ok (.iconst 1, 1) := by decide +kernel
theorem dX8_isState_7 : decode cX8_isState 7 = .ok (.isub, 1) := by decide +kernel
theorem dX8_isState_8 : decode cX8_isState 8 = .ok (.invokestatic 73, 3) := by decide +kernel
theorem dX8_isState_11 : decode cX8_isState 11 = .ok (.ireturn, 1) := by decide +kernel
set_option maxRecDepth 20000 in
theorem ggX8_isGood_X8_isState : GoodIn wsX8_isGood wsX8_isState := goodIn_r _ [5, 6, 7, 8, 4, 9, 10, 11, 12, 13, 14, 15, 16, 17, 18, 19, 20, 21, 22, 23, 24, 25, 26, 27, 28, 29, 30, 31, 32, 33, 34] (by decide +kernel) (by decide +kernel)
set_option maxRecDepth 20000 in
theorem gX8_isGood_X8_isState : GoodIn wsX8_isGood (wsV RX8 84 RX8 yX8_isState wsX8_isState) := goodIn_app (goodIn_of _ (by decide +kernel)) ggX8_isGood_X8_isState
set_option maxRecDepth 20000 in
theorem ggX8_isGood_X8_in : GoodIn wsX8_isGood wsX8_in := goodIn_r _ [9] (by decide +kernel) (by decide +kernel)
set_option maxRecDepth 20000 in
theorem gX8_isGood_X8_in : GoodIn wsX8_isGood (va_wsS RX8 73 yX8_in wsX8_in) := goodIn_app (goodIn_of _ (by decide +kernel)) ggX8_isGood_X8_in
theorem dX8_isGood_0 : decode cX8_isGood 0 = .ok (.aload_n 0, 1) := by decide +kernel
theorem dX8_isGood_1 : decode cX8_isGood 1 = .ok (.iload_n 1, 1) := by decide +kernel
theorem dX8_isGood_2 : decode cX8_isGood 2 = .ok (.invokevirtual 84, 3) := by decide +kernel
theorem dX8_isGood_5 : decode cX8_isGood 5 = .ok (.ifCond .eq 25, 3) := by decide +kernel
theorem dX8_isGood_8 : decode cX8_isGood 8 = .ok (.aload_n 0, 1) := by decide +kernel
theorem dX8_isGood_9 : decode cX8_isGood 9 = .ok (.iload 5, 2) := by decide +kernel
theorem dX8_isGood_11 : decode cX8_isGood 11 = .ok (.invokevirtual 84, 3) := by decide +kernel
theorem dX8_isGood_14 : decode cX8_isGood 14 = .ok (.ifCond .eq 16, 3) := by decide +kernel
theorem dX8_isGood_17 : decode cX8_isGood 17 = .ok (.iload_n 2, 1) := by decide +kernel
theorem dX8_isGood_18 : decode cX8_isGood 18 = .ok (.iconst 0, 1) := by decide +kernel
theorem dX8_isGood_19 : decode cX8_isGood 19 = .ok (.iconst 2, 1) := by decide +kernel
theorem dX8_isGood_20 : decode cX8_isGood 20 = .ok (.invokestatic 73, 3) := by decide +kernel
theorem dX8_isGood_23 : decode cX8_isGood 23 = .ok (.ifCond .eq 7, 3) := by decide +kernel
theorem dX8_isGood_26 : decode cX8_isGood 26 = .ok (.iconst 1, 1) := by decide +kernel
theorem dX8_isGood_27 : decode cX8_isGood 27 = .ok (.goto 4, 3) := by decide +kernel
theorem dX8_isGood_30 : decode cX8_isGood 30 = .ok (.iconst 0, 1) := by decide +kernel
theorem dX8_isGood_31 : decode cX8_isGood 31 = .ok (.istore 6, 2) := by decide +kernel
theorem dX8_isGood_33 : decode cX8_isGood 33 = .ok (.iload 6, 2) := by decide +kernel
theorem dX8_isGood_35 : decode cX8_isGood 35 = .ok (.ifCond .eq 30, 3) := by decide +kernel
theorem dX8_isGood_38 : decode cX8_isGood 38 = .ok (.iload_n 2, 1) := by decide +kernel
theorem dX8_isGood_39 : decode cX8_isGood 39 = .ok (.ifCond .eq 22, 3) := by decide +kernel
theorem dX8_isGood_42 : decode cX8_isGood 42 = .ok (.iload_n 3, 1) := by decide +kernel
theorem dX8_isGood_43 : decode cX8_isGood 43 = .ok (.iconst 0, 1) := by decide +kernel
theorem dX8_isGood_44 : decode cX8_isGood 44 = .ok (.iconst 1, 1) := by decide +kernel
theorem dX8_isGood_45 : decode cX8_isGood 45 = .ok (.invokestatic 73, 3) := by decide +kernel
theorem dX8_isGood_48 : decode cX8_isGood 48 = .ok (.ifCond .eq 17, 3) := by decide +kernel
theorem dX8_isGood_51 : decode cX8_isGood 51 = .ok (.iload 4, 2) := by decide +kernel
theorem dX8_isGood_53 : decode cX8_isGood 53 = .ok (.iconst 0, 1) := by decide +kernel
theorem dX8_isGood_54 : decode cX8_isGood 54 = .ok (.iconst 2, 1) := by decide +kernel
theorem dX8_isGood_55 : decode cX8_isGood 55 = .ok (.invokestatic 73, 3) := by decide +kernel
theorem dX8_isGood_58 : decode cX8_isGood 58 = .ok (.ifCond .eq 7, 3) := by decide +kernel
theorem dX8_isGood_61 : decode cX8_isGood 61 = .ok (.iconst 1, 1) := by decide +kernel
theorem dX8_isGood_62 : decode cX8_isGood 62 = .ok (.goto 4, 3) := by decide +kernel
theorem dX8_isGood_65 : decode cX8_isGood 65 = .ok (.iconst 0, 1) := by decide +kernel
theorem dX8_isGood_66 : decode cX8_isGood 66 = .ok (.ireturn, 1) := by decide +kernel
set_option maxRecDepth 20000 in
theorem ggX8_put_X8_empty : GoodIn wsX8_put wsX8_empty := goodIn_r _ [11, 12, 13, 14, 15, 16, 17, 18, 19, 20, 21, 22, 23, 24, 25, 26, 27, 28, 29, 30, 31, 32, 33, 34, 35, 36, 37, 38] (by decide +kernel) (by decide +kernel)
set_option maxRecDepth 20000 in
theorem gX8_put_X8_empty : GoodIn wsX8_put (wsV RX8 80 RX8 yX8_empty wsX8_empty) := goodIn_app (goodIn_of _ (by decide +kernel)) ggX8_put_X8_empty
theorem dX8_put_0 : decode cX8_put 0 = .ok (.aload_n 0, 1) := by decide +kernel
theorem dX8_put_1 : decode cX8_put 1 = .ok (.getfield 17, 3) := by decide +kernel
theorem dX8_put_4 : decode cX8_put 4 = .ok (.aload_n 0, 1) := by decide +kernel
theorem dX8_put_5 : decode cX8_put 5 = .ok (.getfield 77, 3) := by decide +kernel
theorem dX8_put_8 : decode cX8_put 8 = .ok (.iload_n 1, 1) := by decide +kernel
theorem dX8_put_9 : decode cX8_put 9 = .ok (.iastore, 1) := by decide +kernel
theorem dX8_put_10 : decode cX8_put 10 = .ok (.aload_n 0, 1) := by decide +kernel
theorem dX8_put_11 : decode cX8_put 11 = .ok (.getfield 21, 3) := by decide +kernel
theorem dX8_put_14 : decode cX8_put 14 = .ok (.aload_n 0, 1) := by decide +kernel
theorem dX8_put_15 : decode cX8_put 15 = .ok (.getfield 77, 3) := by decide +kernel
theorem dX8_put_18 : decode cX8_put 18 = .ok (.iload_n 2, 1) := by decide +kernel
theorem dX8_put_19 : decode cX8_put 19 = .ok (.iastore, 1) := by decide +kernel
theorem dX8_put_20 : decode cX8_put 20 = .ok (.aload_n 0, 1) := by decide +kernel
theorem dX8_put_21 : decode cX8_put 21 = .ok (.getfield 24, 3) := by decide +kernel
theorem dX8_put_24 : decode cX8_put 24 = .ok (.aload_n 0, 1) := by decide +kernel
theorem dX8_put_25 : decode cX8_put 25 = .ok (.getfield 77, 3) := by decide +kernel
theorem dX8_put_28 : decode cX8_put 28 = .ok (.iload_n 2, 1) := by decide +kernel
theorem dX8_put_29 : decode cX8_put 29 = .ok (.ifCond .ne 7, 3) := by decide +kernel
theorem dX8_put_32 : decode cX8_put 32 = .ok (.iconst 0, 1) := by decide +kernel
theorem dX8_put_33 : decode cX8_put 33 = .ok (.goto 4, 3) := by decide +kernel
theorem dX8_put_36 : decode cX8_put 36 = .ok (.iload_n 3, 1) := by decide +kernel
theorem dX8_put_37 : decode cX8_put 37 = .ok (.iastore, 1) := by decide +kernel
theorem dX8_put_38 : decode cX8_put 38 = .ok (.aload_n 0, 1) := by decide +kernel
theorem dX8_put_39 : decode cX8_put 39 = .ok (.getfield 27, 3) := by decide +kernel
theorem dX8_put_42 : decode cX8_put 42 = .ok (.aload_n 0, 1) := by decide +kernel
theorem dX8_put_43 : decode cX8_put 43 = .ok (.getfield 77, 3) := by decide +kernel
theorem dX8_put_46 : decode cX8_put 46 = .ok (.iload_n 2, 1) := by decide +kernel
theorem dX8_put_47 : decode cX8_put 47 = .ok (.ifCond .ne 7, 3) := by decide +kernel
theorem dX8_put_50 : decode cX8_put 50 = .ok (.iconst 0, 1) := by decide +kernel
theorem dX8_put_51 : decode cX8_put 51 = .ok (.goto 5, 3) := by decide +kernel
theorem dX8_put_54 : decode cX8_put 54 = .ok (.iload 4, 2) := by decide +kernel
theorem dX8_put_56 : decode cX8_put 56 = .ok (.iastore, 1) := by decide +kernel
theorem dX8_put_57 : decode cX8_put 57 = .ok (.aload_n 0, 1) := by decide +kernel
theorem dX8_put_58 : decode cX8_put 58 = .ok (.getfield 30, 3) := by decide +kernel
theorem dX8_put_61 : decode cX8_put 61 = .ok (.aload_n 0, 1) := by decide +kernel
theorem dX8_put_62 : decode cX8_put 62 = .ok (.getfield 77, 3) := by decide +kernel
theorem dX8_put_65 : decode cX8_put 65 = .ok (.iload 5, 2) := by decide +kernel
theorem dX8_put_67 : decode cX8_put 67 = .ok (.iastore, 1) := by decide +kernel
theorem dX8_put_68 : decode cX8_put 68 = .ok (.aload_n 0, 1) := by decide +kernel
theorem dX8_put_69 : decode cX8_put 69 = .ok (.dup, 1) := by decide +kernel
theorem dX8_put_70 : decode cX8_put 70 = .ok (.getfield 77, 3) := by decide +kernel
theorem dX8_put_73 : decode cX8_put 73 = .ok (.iconst 1, 1) := by decide +kernel
theorem dX8_put_74 : decode cX8_put 74 = .ok (.iadd, 1) := by decide +kernel
theorem dX8_put_75 : decode cX8_put 75 = .ok (.putfield 77, 3) := by decide +kernel
theorem dX8_put_78 : decode cX8_put 78 = .ok (.aload_n 0, 1) := by decide +kernel
theorem dX8_put_79 : decode cX8_put 79 = .ok (.bipush 82, 2) := by decide +kernel
theorem dX8_put_81 : decode cX8_put 81 = .ok (.iconst 0, 1) := by decide +kernel
theorem dX8_put_82 : decode cX8_put 82 = .ok (.invokevirtual 80, 3) := by decide +kernel
theorem dX8_put_85 : decode cX8_put 85 = .ok (.return_, 1) := by decide +kernel
set_option maxRecDepth 20000 in
theorem ggX8_arc_X8_isGood : GoodIn wsX8_arc wsX8_isGood := goodIn_r _ [6, 7, 8, 9, 5, 10, 11, 12, 13, 14, 30, 31, 32, 33, 34, 35, 36, 37, 38, 39, 40, 41, 42, 43, 44, 45, 46, 47, 48, 49, 50, 51, 52, 53, 54] (by decide +kernel) (by decide +kernel)
set_option maxRecDepth 20000 in
theorem gX8_arc_X8_isGood : GoodIn wsX8_arc (wsV RX8 88 RX8 yX8_isGood wsX8_isGood) := goodIn_app (goodIn_of _ (by decide +kernel)) ggX8_arc_X8_isGood
set_option maxRecDepth 20000 in
theorem ggX8_arc_X8_put : GoodIn wsX8_arc wsX8_put := goodIn_r _ [18, 19, 1, 20, 21, 22, 23, 24, 25, 26, 5, 27, 28, 29, 30, 31, 32, 33, 34, 35, 36, 37, 38, 39, 40, 41, 42, 43, 44, 45, 46, 47, 48, 49, 50, 51, 52, 53, 54] (by decide +kernel) (by decide +kernel)
set_option maxRecDepth 20000 in
theorem gX8_arc_X8_put : GoodIn wsX8_arc (wsV RX8 92 RX8 yX8_put wsX8_put) := goodIn_app (goodIn_of _ (by decide +kernel)) ggX8_arc_X8_put
theorem dX8_arc_0 : decode cX8_arc 0 = .ok (.aload_n 0, 1) := by decide +kernel
theorem dX8_arc_1 : decode cX8_arc 1 = .ok (.iload_n 1, 1) := by decide +kernel
theorem dX8_arc_2 : decode cX8_arc 2 = .ok (.iload_n 2, 1) := by decide +kernel
theorem dX8_arc_3 : decode cX8_arc 3 = .ok (.iload_n 3, 1) := by decide +kernel
theorem dX8_arc_4 : decode cX8_arc 4 = .ok (.iload 4, 2) := by decide +kernel
theorem dX8_arc_6 : decode cX8_arc 6 = .ok (.iload 5, 2) := by decide +kernel
theorem dX8_arc_8 : decode cX8_arc 8 = .ok (.invokevirtual 88, 3) := by decide +kernel
theorem dX8_arc_11 : decode cX8_arc 11 = .ok (.ifCond .ne 5, 3) := by decide +kernel
theorem dX8_arc_14 : decode cX8_arc 14 = .ok (.iconst (-1), 1) := by decide +kernel
theorem dX8_arc_15 : decode cX8_arc 15 = .ok (.ireturn, 1) := by decide +kernel
theorem dX8_arc_16 : decode cX8_arc 16 = .ok (.aload_n 0, 1) := by decide +kernel
theorem dX8_arc_17 : decode cX8_arc 17 = .ok (.getfield 77, 3) := by decide +kernel
theorem dX8_arc_20 : decode cX8_arc 20 = .ok (.bipush 20, 2) := by decide +kernel
theorem dX8_arc_22 : decode cX8_arc 22 = .ok (.if_icmp .ne 6, 3) := by decide +kernel
theorem dX8_arc_25 : decode cX8_arc 25 = .ok (.bipush (-3), 2) := by decide +kernel
theorem dX8_arc_27 : decode cX8_arc 27 = .ok (.ireturn, 1) := by decide +kernel
theorem dX8_arc_28 : decode cX8_arc 28 = .ok (.aload_n 0, 1) := by decide +kernel
theorem dX8_arc_29 : decode cX8_arc 29 = .ok (.iload_n 1, 1) := by decide +kernel
theorem dX8_arc_30 : decode cX8_arc 30 = .ok (.iload_n 2, 1) := by decide +kernel
theorem dX8_arc_31 : decode cX8_arc 31 = .ok (.iload_n 3, 1) := by decide +kernel
theorem dX8_arc_32 : decode cX8_arc 32 = .ok (.iload 4, 2) := by decide +kernel
theorem dX8_arc_34 : decode cX8_arc 34 = .ok (.iload 5, 2) := by decide +kernel
theorem dX8_arc_36 : decode cX8_arc 36 = .ok (.invokevirtual 92, 3) := by decide +kernel
theorem dX8_arc_39 : decode cX8_arc 39 = .ok (.aload_n 0, 1) := by decide +kernel
theorem dX8_arc_40 : decode cX8_arc 40 = .ok (.getfield 77, 3) := by decide +kernel
theorem dX8_arc_43 : decode cX8_arc 43 = .ok (.iconst 1, 1) := by decide +kernel
theorem dX8_arc_44 : decode cX8_arc 44 = .ok (.isub, 1) := by decide +kernel
theorem dX8_arc_45 : decode cX8_arc 45 = .ok (.ireturn, 1) := by decide +kernel
set_option maxRecDepth 20000 in
theorem ggX8_unarc_X8_empty : GoodIn wsX8_unarc wsX8_empty := goodIn_r _ [6, 7, 8, 9, 10, 11, 12, 13, 14, 15, 16, 17, 18, 19, 20, 21, 22, 23, 24, 25, 26, 27, 28, 29, 30, 31, 32, 33] (by decide +kernel) (by decide +kernel)
set_option maxRecDepth 20000 in
theorem gX8_unarc_X8_empty : GoodIn wsX8_unarc (wsV RX8 80 RX8 yX8_empty wsX8_empty) := goodIn_app (goodIn_of _ (by decide +kernel)) ggX8_unarc_X8_empty
theorem dX8_unarc_0 : decode cX8_unarc 0 = .ok (.aload_n 0, 1) := by decide +kernel
theorem dX8_unarc_1 : decode cX8_unarc 1 = .ok (.getfield 77, 3) := by decide +kernel
theorem dX8_unarc_4 : decode cX8_unarc 4 = .ok (.ifCond .ne 6, 3) := by decide +kernel
theorem dX8_unarc_7 : decode cX8_unarc 7 = .ok (.bipush (-2), 2) := by decide +kernel
theorem dX8_unarc_9 : decode cX8_unarc 9 = .ok (.ireturn, 1) := by decide +kernel
theorem dX8_unarc_10 : decode cX8_unarc 10 = .ok (.aload_n 0, 1) := by decide +kernel
theorem dX8_unarc_11 : decode cX8_unarc 11 = .ok (.dup, 1) := by decide +kernel
theorem dX8_unarc_12 : decode cX8_unarc 12 = .ok (.getfield 77, 3) := by decide +kernel
theorem dX8_unarc_15 : decode cX8_unarc 15 = .ok (.iconst 1, 1) := by decide +kernel
theorem dX8_unarc_16 : decode cX8_unarc 16 = .ok (.isub, 1) := by decide +kernel
theorem dX8_unarc_17 : decode cX8_unarc 17 = .ok (.putfield 77, 3) := by decide +kernel
theorem dX8_unarc_20 : decode cX8_unarc 20 = .ok (.aload_n 0, 1) := by decide +kernel
theorem dX8_unarc_21 : decode cX8_unarc 21 = .ok (.bipush 82, 2) := by decide +kernel
theorem dX8_unarc_23 : decode cX8_unarc 23 = .ok (.iconst 0, 1) := by decide +kernel
theorem dX8_unarc_24 : decode cX8_unarc 24 = .ok (.invokevirtual 80, 3) := by decide +kernel
theorem dX8_unarc_27 : decode cX8_unarc 27 = .ok (.aload_n 0, 1) := by decide +kernel
theorem dX8_unarc_28 : decode cX8_unarc 28 = .ok (.getfield 77, 3) := by decide +kernel
theorem dX8_unarc_31 : decode cX8_unarc 31 = .ok (.ireturn, 1) := by decide +kernel
set_option maxRecDepth 20000 in
theorem ggX8_isArc_X8_in : GoodIn wsX8_isArc wsX8_in := goodIn_r _ [5] (by decide +kernel) (by decide +kernel)
set_option maxRecDepth 20000 in
theorem gX8_isArc_X8_in : GoodIn wsX8_isArc (va_wsS RX8 73 yX8_in wsX8_in) := goodIn_app (goodIn_of _ (by decide +kernel)) ggX8_isArc_X8_in
theorem dX8_isArc_0 : decode cX8_isArc 0 = .ok (.iload_n 1, 1) := by decide +kernel
theorem dX8_isArc_1 : decode cX8_isArc 1 = .ok (.iconst 0, 1) := by decide +kernel
theorem dX8_isArc_2 : decode cX8_isArc 2 = .ok (.aload_n 0, 1) := by decide +kernel
theorem dX8_isArc_3 : decode cX8_isArc 3 = .ok (.getfield 77, 3) := by decide +kernel
theorem dX8_isArc_6 : decode cX8_isArc 6 = .ok (.iconst 1, 1) := by decide +kernel
theorem dX8_isArc_7 : decode cX8_isArc 7 = .ok (.isub, 1) := by decide +kernel
theorem dX8_isArc_8 : decode cX8_isArc 8 = .ok (.invokestatic 73, 3) := by decide +kernel
theorem dX8_isArc_11 : decode cX8_isArc 11 = .ok (.ireturn, 1) := by decide +kernel
set_option maxRecDepth 20000 in
theorem ggX8_told_X8_isArc : GoodIn wsX8_told wsX8_isArc := goodIn_r _ [10, 11, 12, 13, 9, 14, 15, 16, 17, 18, 19, 20, 21, 22, 23, 24, 25, 26, 27, 28, 29, 30, 31, 32, 33, 34, 35, 36, 37, 38, 39] (by decide +kernel) (by decide +kernel)
set_option maxRecDepth 20000 in
theorem gX8_told_X8_isArc : GoodIn wsX8_told (wsV RX8 96 RX8 yX8_isArc wsX8_isArc) := goodIn_app (goodIn_of _ (by decide +kernel)) ggX8_told_X8_isArc
set_option maxRecDepth 20000 in
theorem ggX8_told_X8_in : GoodIn wsX8_told wsX8_in := goodIn_r _ [14] (by decide +kernel) (by decide +kernel)
set_option maxRecDepth 20000 in
theorem gX8_told_X8_in : GoodIn wsX8_told (va_wsS RX8 73 yX8_in wsX8_in) := goodIn_app (goodIn_of _ (by decide +kernel)) ggX8_told_X8_in
theorem dX8_told_0 : decode cX8_told 0 = .ok (.aload_n 0, 1) := by decide +kernel
theorem dX8_told_1 : decode cX8_told 1 = .ok (.iload_n 1, 1) := by decide +kernel
theorem dX8_told_2 : decode cX8_told 2 = .ok (.invokevirtual 96, 3) := by decide +kernel
theorem dX8_told_5 : decode cX8_told 5 = .ok (.ifCond .eq 12, 3) := by decide +kernel
theorem dX8_told_8 : decode cX8_told 8 = .ok (.iload_n 2, 1) := by decide +kernel
end
section
theorem dX8_told_9 : decode cX8_told 9 = .ok (.iconst 0, 1) := by decide +kernel
theorem dX8_told_10 : decode cX8_told 10 = .ok (.iconst 4, 1) := by decide +kernel
theorem dX8_told_11 : decode cX8_told 11 = .ok (.invokestatic 73, 3) := by decide +kernel
theorem dX8_told_14 : decode cX8_told 14 = .ok (.ifCond .ne 5, 3) := by decide +kernel
theorem dX8_told_17 : decode cX8_told 17 = .ok (.iconst (-1), 1) := by decide +kernel
theorem dX8_told_18 : decode cX8_told 18 = .ok (.ireturn, 1) := by decide +kernel
theorem dX8_told_19 : decode cX8_told 19 = .ok (.iload_n 2, 1) := by decide +kernel
theorem dX8_told_20 : decode cX8_told 20 = .ok (.ifCond .ne 12, 3) := by decide +kernel
theorem dX8_told_23 : decode cX8_told 23 = .ok (.aload_n 0, 1) := by decide +kernel
theorem dX8_told_24 : decode cX8_told 24 = .ok (.getfield 17, 3) := by decide +kernel
theorem dX8_told_27 : decode cX8_told 27 = .ok (.iload_n 1, 1) := by decide +kernel
theorem dX8_told_28 : decode cX8_told 28 = .ok (.iaload, 1) := by decide +kernel
theorem dX8_told_29 : decode cX8_told 29 = .ok (.goto 51, 3) := by decide +kernel
theorem dX8_told_32 : decode cX8_told 32 = .ok (.iload_n 2, 1) := by decide +kernel
theorem dX8_told_33 : decode cX8_told 33 = .ok (.iconst 1, 1) := by decide +kernel
theorem dX8_told_34 : decode cX8_told 34 = .ok (.if_icmp .ne 12, 3) := by decide +kernel
theorem dX8_told_37 : decode cX8_told 37 = .ok (.aload_n 0, 1) := by decide +kernel
theorem dX8_told_38 : decode cX8_told 38 = .ok (.getfield 21, 3) := by decide +kernel
theorem dX8_told_41 : decode cX8_told 41 = .ok (.iload_n 1, 1) := by decide +kernel
theorem dX8_told_42 : decode cX8_told 42 = .ok (.iaload, 1) := by decide +kernel
theorem dX8_told_43 : decode cX8_told 43 = .ok (.goto 37, 3) := by decide +kernel
theorem dX8_told_46 : decode cX8_told 46 = .ok (.iload_n 2, 1) := by decide +kernel
theorem dX8_told_47 : decode cX8_told 47 = .ok (.iconst 2, 1) := by decide +kernel
theorem dX8_told_48 : decode cX8_told 48 = .ok (.if_icmp .ne 12, 3) := by decide +kernel
theorem dX8_told_51 : decode cX8_told 51 = .ok (.aload_n 0, 1) := by decide +kernel
theorem dX8_told_52 : decode cX8_told 52 = .ok (.getfield 24, 3) := by decide +kernel
theorem dX8_told_55 : decode cX8_told 55 = .ok (.iload_n 1, 1) := by decide +kernel
theorem dX8_told_56 : decode cX8_told 56 = .ok (.iaload, 1) := by decide +kernel
theorem dX8_told_57 : decode cX8_told 57 = .ok (.goto 23, 3) := by decide +kernel
theorem dX8_told_60 : decode cX8_told 60 = .ok (.iload_n 2, 1) := by decide +kernel
theorem dX8_told_61 : decode cX8_told 61 = .ok (.iconst 3, 1) := by decide +kernel
theorem dX8_told_62 : decode cX8_told 62 = .ok (.if_icmp .ne 12, 3) := by decide +kernel
theorem dX8_told_65 : decode cX8_told 65 = .ok (.aload_n 0, 1) := by decide +kernel
theorem dX8_told_66 : decode cX8_told 66 = .ok (.getfield 27, 3) := by decide +kernel
theorem dX8_told_69 : decode cX8_told 69 = .ok (.iload_n 1, 1) := by decide +kernel
theorem dX8_told_70 : decode cX8_told 70 = .ok (.iaload, 1) := by decide +kernel
theorem dX8_told_71 : decode cX8_told 71 = .ok (.goto 9, 3) := by decide +kernel
theorem dX8_told_74 : decode cX8_told 74 = .ok (.aload_n 0, 1) := by decide +kernel
theorem dX8_told_75 : decode cX8_told 75 = .ok (.getfield 30, 3) := by decide +kernel
theorem dX8_told_78 : decode cX8_told 78 = .ok (.iload_n 1, 1) := by decide +kernel
theorem dX8_told_79 : decode cX8_told 79 = .ok (.iaload, 1) := by decide +kernel
theorem dX8_told_80 : decode cX8_told 80 = .ok (.ireturn, 1) := by decide +kernel
set_option maxRecDepth 20000 in
theorem ggX8_type_X8_in : GoodIn wsX8_type wsX8_in := goodIn_r _ [7] (by decide +kernel) (by decide +kernel)
set_option maxRecDepth 20000 in
theorem gX8_type_X8_in : GoodIn wsX8_type (va_wsS RX8 73 yX8_in wsX8_in) := goodIn_app (goodIn_of _ (by decide +kernel)) ggX8_type_X8_in
theorem dX8_type_0 : decode cX8_type 0 = .ok (.iload_n 3, 1) := by decide +kernel
theorem dX8_type_1 : decode cX8_type 1 = .ok (.iconst 1, 1) := by decide +kernel
theorem dX8_type_2 : decode cX8_type 2 = .ok (.bipush 8, 2) := by decide +kernel
theorem dX8_type_4 : decode cX8_type 4 = .ok (.invokestatic 73, 3) := by decide +kernel
theorem dX8_type_7 : decode cX8_type 7 = .ok (.ifCond .ne 5, 3) := by decide +kernel
theorem dX8_type_10 : decode cX8_type 10 = .ok (.iconst (-1), 1) := by decide +kernel
theorem dX8_type_11 : decode cX8_type 11 = .ok (.ireturn, 1) := by decide +kernel
theorem dX8_type_12 : decode cX8_type 12 = .ok (.iconst 0, 1) := by decide +kernel
theorem dX8_type_13 : decode cX8_type 13 = .ok (.istore 4, 2) := by decide +kernel
theorem dX8_type_15 : decode cX8_type 15 = .ok (.iload 4, 2) := by decide +kernel
theorem dX8_type_17 : decode cX8_type 17 = .ok (.iload_n 3, 1) := by decide +kernel
theorem dX8_type_18 : decode cX8_type 18 = .ok (.if_icmp .ge 33, 3) := by decide +kernel
theorem dX8_type_21 : decode cX8_type 21 = .ok (.lload_n 1, 1) := by decide +kernel
theorem dX8_type_22 : decode cX8_type 22 = .ok (.bipush 8, 2) := by decide +kernel
theorem dX8_type_24 : decode cX8_type 24 = .ok (.iload 4, 2) := by decide +kernel
theorem dX8_type_26 : decode cX8_type 26 = .ok (.imul, 1) := by decide +kernel
theorem dX8_type_27 : decode cX8_type 27 = .ok (.lshr, 1) := by decide +kernel
theorem dX8_type_28 : decode cX8_type 28 = .ok (.ldc2_w 99, 3) := by decide +kernel
theorem dX8_type_31 : decode cX8_type 31 = .ok (.land, 1) := by decide +kernel
theorem dX8_type_32 : decode cX8_type 32 = .ok (.l2i, 1) := by decide +kernel
theorem dX8_type_33 : decode cX8_type 33 = .ok (.bipush 32, 2) := by decide +kernel
theorem dX8_type_35 : decode cX8_type 35 = .ok (.bipush 126, 2) := by decide +kernel
theorem dX8_type_37 : decode cX8_type 37 = .ok (.invokestatic 73, 3) := by decide +kernel
theorem dX8_type_40 : decode cX8_type 40 = .ok (.ifCond .ne 5, 3) := by decide +kernel
theorem dX8_type_43 : decode cX8_type 43 = .ok (.iconst (-1), 1) := by decide +kernel
theorem dX8_type_44 : decode cX8_type 44 = .ok (.ireturn, 1) := by decide +kernel
theorem dX8_type_45 : decode cX8_type 45 = .ok (.iinc 4 1, 3) := by decide +kernel
theorem dX8_type_48 : decode cX8_type 48 = .ok (.goto (-33), 3) := by decide +kernel
theorem dX8_type_51 : decode cX8_type 51 = .ok (.aload_n 0, 1) := by decide +kernel
theorem dX8_type_52 : decode cX8_type 52 = .ok (.getfield 101, 3) := by decide +kernel
theorem dX8_type_55 : decode cX8_type 55 = .ok (.iload_n 3, 1) := by decide +kernel
theorem dX8_type_56 : decode cX8_type 56 = .ok (.iadd, 1) := by decide +kernel
theorem dX8_type_57 : decode cX8_type 57 = .ok (.sipush 130, 3) := by decide +kernel
theorem dX8_type_60 : decode cX8_type 60 = .ok (.if_icmp .le 6, 3) := by decide +kernel
theorem dX8_type_63 : decode cX8_type 63 = .ok (.bipush (-3), 2) := by decide +kernel
theorem dX8_type_65 : decode cX8_type 65 = .ok (.ireturn, 1) := by decide +kernel
theorem dX8_type_66 : decode cX8_type 66 = .ok (.iload_n 3, 1) := by decide +kernel
theorem dX8_type_67 : decode cX8_type 67 = .ok (.iconst 1, 1) := by decide +kernel
theorem dX8_type_68 : decode cX8_type 68 = .ok (.isub, 1) := by decide +kernel
theorem dX8_type_69 : decode cX8_type 69 = .ok (.istore 4, 2) := by decide +kernel
theorem dX8_type_71 : decode cX8_type 71 = .ok (.iload 4, 2) := by decide +kernel
theorem dX8_type_73 : decode cX8_type 73 = .ok (.ifCond .lt 40, 3) := by decide +kernel
theorem dX8_type_76 : decode cX8_type 76 = .ok (.aload_n 0, 1) := by decide +kernel
theorem dX8_type_77 : decode cX8_type 77 = .ok (.getfield 33, 3) := by decide +kernel
theorem dX8_type_80 : decode cX8_type 80 = .ok (.aload_n 0, 1) := by decide +kernel
theorem dX8_type_81 : decode cX8_type 81 = .ok (.getfield 101, 3) := by decide +kernel
theorem dX8_type_84 : decode cX8_type 84 = .ok (.lload_n 1, 1) := by decide +kernel
theorem dX8_type_85 : decode cX8_type 85 = .ok (.bipush 8, 2) := by decide +kernel
theorem dX8_type_87 : decode cX8_type 87 = .ok (.iload 4, 2) := by decide +kernel
theorem dX8_type_89 : decode cX8_type 89 = .ok (.imul, 1) := by decide +kernel
theorem dX8_type_90 : decode cX8_type 90 = .ok (.lshr, 1) := by decide +kernel
theorem dX8_type_91 : decode cX8_type 91 = .ok (.ldc2_w 99, 3) := by decide +kernel
theorem dX8_type_94 : decode cX8_type 94 = .ok (.land, 1) := by decide +kernel
theorem dX8_type_95 : decode cX8_type 95 = .ok (.l2i, 1) := by decide +kernel
theorem dX8_type_96 : decode cX8_type 96 = .ok (.iastore, 1) := by decide +kernel
theorem dX8_type_97 : decode cX8_type 97 = .ok (.aload_n 0, 1) := by decide +kernel
theorem dX8_type_98 : decode cX8_type 98 = .ok (.dup, 1) := by decide +kernel
theorem dX8_type_99 : decode cX8_type 99 = .ok (.getfield 101, 3) := by decide +kernel
theorem dX8_type_102 : decode cX8_type 102 = .ok (.iconst 1, 1) := by decide +kernel
theorem dX8_type_103 : decode cX8_type 103 = .ok (.iadd, 1) := by decide +kernel
theorem dX8_type_104 : decode cX8_type 104 = .ok (.putfield 101, 3) := by decide +kernel
theorem dX8_type_107 : decode cX8_type 107 = .ok (.iinc 4 (-1), 3) := by decide +kernel
theorem dX8_type_110 : decode cX8_type 110 = .ok (.goto (-39), 3) := by decide +kernel
theorem dX8_type_113 : decode cX8_type 113 = .ok (.aload_n 0, 1) := by decide +kernel
theorem dX8_type_114 : decode cX8_type 114 = .ok (.getfield 101, 3) := by decide +kernel
theorem dX8_type_117 : decode cX8_type 117 = .ok (.ireturn, 1) := by decide +kernel
theorem dX8_next_0 : decode cX8_next 0 = .ok (.aload_n 0, 1) := by decide +kernel
theorem dX8_next_1 : decode cX8_next 1 = .ok (.getfield 104, 3) := by decide +kernel
theorem dX8_next_4 : decode cX8_next 4 = .ok (.aload_n 0, 1) := by decide +kernel
theorem dX8_next_5 : decode cX8_next 5 = .ok (.getfield 101, 3) := by decide +kernel
theorem dX8_next_8 : decode cX8_next 8 = .ok (.if_icmp .ge 30, 3) := by decide +kernel
theorem dX8_next_11 : decode cX8_next 11 = .ok (.aload_n 0, 1) := by decide +kernel
theorem dX8_next_12 : decode cX8_next 12 = .ok (.getfield 33, 3) := by decide +kernel
theorem dX8_next_15 : decode cX8_next 15 = .ok (.aload_n 0, 1) := by decide +kernel
theorem dX8_next_16 : decode cX8_next 16 = .ok (.getfield 104, 3) := by decide +kernel
theorem dX8_next_19 : decode cX8_next 19 = .ok (.iaload, 1) := by decide +kernel
theorem dX8_next_20 : decode cX8_next 20 = .ok (.bipush 32, 2) := by decide +kernel
theorem dX8_next_22 : decode cX8_next 22 = .ok (.if_icmp .ne 16, 3) := by decide +kernel
theorem dX8_next_25 : decode cX8_next 25 = .ok (.aload_n 0, 1) := by decide +kernel
theorem dX8_next_26 : decode cX8_next 26 = .ok (.dup, 1) := by decide +kernel
theorem dX8_next_27 : decode cX8_next 27 = .ok (.getfield 104, 3) := by decide +kernel
theorem dX8_next_30 : decode cX8_next 30 = .ok (.iconst 1, 1) := by decide +kernel
theorem dX8_next_31 : decode cX8_next 31 = .ok (.iadd, 1) := by decide +kernel
theorem dX8_next_32 : decode cX8_next 32 = .ok (.putfield 104, 3) := by decide +kernel
theorem dX8_next_35 : decode cX8_next 35 = .ok (.goto (-35), 3) := by decide +kernel
theorem dX8_next_38 : decode cX8_next 38 = .ok (.aload_n 0, 1) := by decide +kernel
theorem dX8_next_39 : decode cX8_next 39 = .ok (.getfield 104, 3) := by decide +kernel
theorem dX8_next_42 : decode cX8_next 42 = .ok (.aload_n 0, 1) := by decide +kernel
theorem dX8_next_43 : decode cX8_next 43 = .ok (.getfield 101, 3) := by decide +kernel
theorem dX8_next_46 : decode cX8_next 46 = .ok (.if_icmp .ge 15, 3) := by decide +kernel
theorem dX8_next_49 : decode cX8_next 49 = .ok (.aload_n 0, 1) := by decide +kernel
theorem dX8_next_50 : decode cX8_next 50 = .ok (.getfield 33, 3) := by decide +kernel
theorem dX8_next_53 : decode cX8_next 53 = .ok (.aload_n 0, 1) := by decide +kernel
theorem dX8_next_54 : decode cX8_next 54 = .ok (.getfield 104, 3) := by decide +kernel
theorem dX8_next_57 : decode cX8_next 57 = .ok (.iaload, 1) := by decide +kernel
theorem dX8_next_58 : decode cX8_next 58 = .ok (.goto 4, 3) := by decide +kernel
theorem dX8_next_61 : decode cX8_next 61 = .ok (.iconst 0, 1) := by decide +kernel
theorem dX8_next_62 : decode cX8_next 62 = .ok (.ireturn, 1) := by decide +kernel
set_option maxRecDepth 20000 in
theorem ggX8_passed_X8_next : GoodIn wsX8_passed wsX8_next := goodIn_r _ [7, 2, 8, 9, 13, 14, 15, 16, 17, 18, 19, 20, 21, 22, 23, 24, 25, 26, 27, 28, 29, 30, 31, 32, 33, 34, 35, 36, 37] (by decide +kernel) (by decide +kernel)
set_option maxRecDepth 20000 in
theorem gX8_passed_X8_next : GoodIn wsX8_passed (wsV RX8 107 RX8 yX8_next wsX8_next) := goodIn_app (goodIn_of _ (by decide +kernel)) ggX8_passed_X8_next
set_option maxRecDepth 20000 in
theorem ggX8_passed_X8_in : GoodIn wsX8_passed wsX8_in := goodIn_r _ [12] (by decide +kernel) (by decide +kernel)
set_option maxRecDepth 20000 in
theorem gX8_passed_X8_in : GoodIn wsX8_passed (va_wsS RX8 73 yX8_in wsX8_in) := goodIn_app (goodIn_of _ (by decide +kernel)) ggX8_passed_X8_in
theorem dX8_passed_0 : decode cX8_passed 0 = .ok (.aload_n 0, 1) := by decide +kernel
theorem dX8_passed_1 : decode cX8_passed 1 = .ok (.invokevirtual 107, 3) := by decide +kernel
theorem dX8_passed_4 : decode cX8_passed 4 = .ok (.iload_n 1, 1) := by decide +kernel
theorem dX8_passed_5 : decode cX8_passed 5 = .ok (.isub, 1) := by decide +kernel
theorem dX8_passed_6 : decode cX8_passed 6 = .ok (.istore_n 3, 1) := by decide +kernel
theorem dX8_passed_7 : decode cX8_passed 7 = .ok (.aload_n 0, 1) := by decide +kernel
theorem dX8_passed_8 : decode cX8_passed 8 = .ok (.getfield 111, 3) := by decide +kernel
theorem dX8_passed_11 : decode cX8_passed 11 = .ok (.ifCond .ne 14, 3) := by decide +kernel
theorem dX8_passed_14 : decode cX8_passed 14 = .ok (.iload_n 3, 1) := by decide +kernel
theorem dX8_passed_15 : decode cX8_passed 15 = .ok (.iconst 0, 1) := by decide +kernel
theorem dX8_passed_16 : decode cX8_passed 16 = .ok (.iload_n 2, 1) := by decide +kernel
theorem dX8_passed_17 : decode cX8_passed 17 = .ok (.iconst 1, 1) := by decide +kernel
theorem dX8_passed_18 : decode cX8_passed 18 = .ok (.isub, 1) := by decide +kernel
theorem dX8_passed_19 : decode cX8_passed 19 = .ok (.invokestatic 73, 3) := by decide +kernel
theorem dX8_passed_22 : decode cX8_passed 22 = .ok (.ifCond .ne 10, 3) := by decide +kernel
theorem dX8_passed_25 : decode cX8_passed 25 = .ok (.aload_n 0, 1) := by decide +kernel
theorem dX8_passed_26 : decode cX8_passed 26 = .ok (.iconst 1, 1) := by decide +kernel
theorem dX8_passed_27 : decode cX8_passed 27 = .ok (.putfield 111, 3) := by decide +kernel
theorem dX8_passed_30 : decode cX8_passed 30 = .ok (.iconst 0, 1) := by decide +kernel
theorem dX8_passed_31 : decode cX8_passed 31 = .ok (.ireturn, 1) := by decide +kernel
theorem dX8_passed_32 : decode cX8_passed 32 = .ok (.aload_n 0, 1) := by decide +kernel
theorem dX8_passed_33 : decode cX8_passed 33 = .ok (.dup, 1) := by decide +kernel
theorem dX8_passed_34 : decode cX8_passed 34 = .ok (.getfield 104, 3) := by decide +kernel
theorem dX8_passed_37 : decode cX8_passed 37 = .ok (.iconst 1, 1) := by decide +kernel
theorem dX8_passed_38 : decode cX8_passed 38 = .ok (.iadd, 1) := by decide +kernel
theorem dX8_passed_39 : decode cX8_passed 39 = .ok (.putfield 104, 3) := by decide +kernel
theorem dX8_passed_42 : decode cX8_passed 42 = .ok (.iload_n 3, 1) := by decide +kernel
theorem dX8_passed_43 : decode cX8_passed 43 = .ok (.ireturn, 1) := by decide +kernel
set_option maxRecDepth 20000 in
theorem ggX8_act_X8_next : GoodIn wsX8_act wsX8_next := goodIn_r _ [7, 2, 8, 9, 10, 11, 12, 13, 14, 15, 16, 17, 18, 19, 20, 21, 22, 23, 24, 25, 26, 27, 28, 29, 30, 31, 32, 33, 34] (by decide +kernel) (by decide +kernel)
set_option maxRecDepth 20000 in
theorem gX8_act_X8_next : GoodIn wsX8_act (wsV RX8 107 RX8 yX8_next wsX8_next) := goodIn_app (goodIn_of _ (by decide +kernel)) ggX8_act_X8_next
theorem dX8_act_0 : decode cX8_act 0 = .ok (.aload_n 0, 1) := by decide +kernel
theorem dX8_act_1 : decode cX8_act 1 = .ok (.invokevirtual 107, 3) := by decide +kernel
theorem dX8_act_4 : decode cX8_act 4 = .ok (.istore_n 1, 1) := by decide +kernel
theorem dX8_act_5 : decode cX8_act 5 = .ok (.iload_n 1, 1) := by decide +kernel
theorem dX8_act_6 : decode cX8_act 6 = .ok (.bipush 45, 2) := by decide +kernel
theorem dX8_act_8 : decode cX8_act 8 = .ok (.if_icmp .ne 7, 3) := by decide +kernel
theorem dX8_act_11 : decode cX8_act 11 = .ok (.iconst 0, 1) := by decide +kernel
theorem dX8_act_12 : decode cX8_act 12 = .ok (.goto 24, 3) := by decide +kernel
theorem dX8_act_15 : decode cX8_act 15 = .ok (.iload_n 1, 1) := by decide +kernel
theorem dX8_act_16 : decode cX8_act 16 = .ok (.bipush 33, 2) := by decide +kernel
theorem dX8_act_18 : decode cX8_act 18 = .ok (.if_icmp .ne 7, 3) := by decide +kernel
theorem dX8_act_21 : decode cX8_act 21 = .ok (.iconst 1, 1) := by decide +kernel
theorem dX8_act_22 : decode cX8_act 22 = .ok (.goto 14, 3) := by decide +kernel
theorem dX8_act_25 : decode cX8_act 25 = .ok (.iload_n 1, 1) := by decide +kernel
theorem dX8_act_26 : decode cX8_act 26 = .ok (.bipush 63, 2) := by decide +kernel
theorem dX8_act_28 : decode cX8_act 28 = .ok (.if_icmp .ne 7, 3) := by decide +kernel
theorem dX8_act_31 : decode cX8_act 31 = .ok (.iconst 2, 1) := by decide +kernel
theorem dX8_act_32 : decode cX8_act 32 = .ok (.goto 4, 3) := by decide +kernel
theorem dX8_act_35 : decode cX8_act 35 = .ok (.iconst (-1), 1) := by decide +kernel
theorem dX8_act_36 : decode cX8_act 36 = .ok (.istore_n 2, 1) := by decide +kernel
theorem dX8_act_37 : decode cX8_act 37 = .ok (.aload_n 0, 1) := by decide +kernel
theorem dX8_act_38 : decode cX8_act 38 = .ok (.getfield 111, 3) := by decide +kernel
theorem dX8_act_41 : decode cX8_act 41 = .ok (.ifCond .ne 7, 3) := by decide +kernel
theorem dX8_act_44 : decode cX8_act 44 = .ok (.iload_n 2, 1) := by decide +kernel
theorem dX8_act_45 : decode cX8_act 45 = .ok (.ifCond .ge 10, 3) := by decide +kernel
theorem dX8_act_48 : decode cX8_act 48 = .ok (.aload_n 0, 1) := by decide +kernel
theorem dX8_act_49 : decode cX8_act 49 = .ok (.iconst 1, 1) := by decide +kernel
theorem dX8_act_50 : decode cX8_act 50 = .ok (.putfield 111, 3) := by decide +kernel
theorem dX8_act_53 : decode cX8_act 53 = .ok (.iconst 0, 1) := by decide +kernel
theorem dX8_act_54 : decode cX8_act 54 = .ok (.ireturn, 1) := by decide +kernel
theorem dX8_act_55 : decode cX8_act 55 = .ok (.aload_n 0, 1) := by decide +kernel
theorem dX8_act_56 : decode cX8_act 56 = .ok (.dup, 1) := by decide +kernel
theorem dX8_act_57 : decode cX8_act 57 = .ok (.getfield 104, 3) := by decide +kernel
theorem dX8_act_60 : decode cX8_act 60 = .ok (.iconst 1, 1) := by decide +kernel
theorem dX8_act_61 : decode cX8_act 61 = .ok (.iadd, 1) := by decide +kernel
theorem dX8_act_62 : decode cX8_act 62 = .ok (.putfield 104, 3) := by decide +kernel
theorem dX8_act_65 : decode cX8_act 65 = .ok (.iload_n 2, 1) := by decide +kernel
theorem dX8_act_66 : decode cX8_act 66 = .ok (.ireturn, 1) := by decide +kernel
set_option maxRecDepth 20000 in
theorem ggX8_read_X8_passed : GoodIn wsX8_read wsX8_passed := goodIn_r _ [11, 2, 1, 12, 13, 14, 10, 15, 5, 16, 17, 18, 19, 39, 40, 41, 42, 43, 44, 45, 46, 47, 48, 49, 50, 51, 52, 53, 54, 55, 56, 57, 58, 59, 60, 61, 62, 63] (by decide +kernel) (by decide +kernel)
set_option maxRecDepth 20000 in
theorem gX8_read_X8_passed : GoodIn wsX8_read (wsV RX8 115 RX8 yX8_passed wsX8_passed) := goodIn_app (goodIn_of _ (by decide +kernel)) ggX8_read_X8_passed
set_option maxRecDepth 20000 in
theorem ggX8_read_X8_act : GoodIn wsX8_read wsX8_act := goodIn_r _ [23, 2, 1, 12, 13, 14, 10, 15, 5, 16, 39, 40, 41, 42, 43, 44, 45, 46, 47, 48, 49, 50, 51, 52, 53, 54, 55, 56, 57, 58, 59, 60, 61, 62, 63] (by decide +kernel) (by decide +kernel)
set_option maxRecDepth 20000 in
theorem gX8_read_X8_act : GoodIn wsX8_read (wsV RX8 119 RX8 yX8_act wsX8_act) := goodIn_app (goodIn_of _ (by decide +kernel)) ggX8_read_X8_act
set_option maxRecDepth 20000 in
theorem ggX8_read_X8_next : GoodIn wsX8_read wsX8_next := goodIn_r _ [15, 1, 5, 16, 39, 40, 41, 42, 43, 44, 45, 46, 47, 48, 49, 50, 51, 52, 53, 54, 55, 56, 57, 58, 59, 60, 61, 62, 63] (by decide +kernel) (by decide +kernel)
set_option maxRecDepth 20000 in
theorem gX8_read_X8_next : GoodIn wsX8_read (wsV RX8 107 RX8 yX8_next wsX8_next) := goodIn_app (goodIn_of _ (by decide +kernel)) ggX8_read_X8_next
set_option maxRecDepth 20000 in
theorem ggX8_read_X8_put : GoodIn wsX8_read wsX8_put := goodIn_r _ [27, 28, 6, 29, 30, 31, 32, 33, 34, 35, 10, 36, 37, 38, 39, 40, 41, 42, 43, 44, 45, 46, 47, 48, 49, 50, 51, 52, 53, 54, 55, 56, 57, 58, 59, 60, 61, 62, 63] (by decide +kernel) (by decide +kernel)
set_option maxRecDepth 20000 in
theorem gX8_read_X8_put : GoodIn wsX8_read (wsV RX8 92 RX8 yX8_put wsX8_put) := goodIn_app (goodIn_of _ (by decide +kernel)) ggX8_read_X8_put
theorem dX8_read_0 : decode cX8_read 0 = .ok (.aload_n 0, 1) := by decide +kernel
theorem dX8_read_1 : decode cX8_read 1 = .ok (.iconst 0, 1) := by decide +kernel
theorem dX8_read_2 : decode cX8_read 2 = .ok (.putfield 104, 3) := by decide +kernel
theorem dX8_read_5 : decode cX8_read 5 = .ok (.aload_n 0, 1) := by decide +kernel
theorem dX8_read_6 : decode cX8_read 6 = .ok (.iconst 0, 1) := by decide +kernel
theorem dX8_read_7 : decode cX8_read 7 = .ok (.putfield 111, 3) := by decide +kernel
theorem dX8_read_10 : decode cX8_read 10 = .ok (.iconst 0, 1) := by decide +kernel
theorem dX8_read_11 : decode cX8_read 11 = .ok (.istore_n 1, 1) := by decide +kernel
theorem dX8_read_12 : decode cX8_read 12 = .ok (.iconst 1, 1) := by decide +kernel
theorem dX8_read_13 : decode cX8_read 13 = .ok (.istore_n 2, 1) := by decide +kernel
theorem dX8_read_14 : decode cX8_read 14 = .ok (.iload_n 2, 1) := by decide +kernel
theorem dX8_read_15 : decode cX8_read 15 = .ok (.ifCond .eq 159, 3) := by decide +kernel
theorem dX8_read_18 : decode cX8_read 18 = .ok (.aload_n 0, 1) := by decide +kernel
theorem dX8_read_19 : decode cX8_read 19 = .ok (.getfield 36, 3) := by decide +kernel
theorem dX8_read_22 : decode cX8_read 22 = .ok (.iconst 5, 1) := by decide +kernel
theorem dX8_read_23 : decode cX8_read 23 = .ok (.iload_n 1, 1) := by decide +kernel
theorem dX8_read_24 : decode cX8_read 24 = .ok (.imul, 1) := by decide +kernel
theorem dX8_read_25 : decode cX8_read 25 = .ok (.aload_n 0, 1) := by decide +kernel
theorem dX8_read_26 : decode cX8_read 26 = .ok (.bipush 48, 2) := by decide +kernel
theorem dX8_read_28 : decode cX8_read 28 = .ok (.aload_n 0, 1) := by decide +kernel
theorem dX8_read_29 : decode cX8_read 29 = .ok (.getfield 7, 3) := by decide +kernel
theorem dX8_read_32 : decode cX8_read 32 = .ok (.invokevirtual 115, 3) := by decide +kernel
theorem dX8_read_35 : decode cX8_read 35 = .ok (.iastore, 1) := by decide +kernel
theorem dX8_read_36 : decode cX8_read 36 = .ok (.aload_n 0, 1) := by decide +kernel
theorem dX8_read_37 : decode cX8_read 37 = .ok (.invokevirtual 119, 3) := by decide +kernel
theorem dX8_read_40 : decode cX8_read 40 = .ok (.istore_n 3, 1) := by decide +kernel
theorem dX8_read_41 : decode cX8_read 41 = .ok (.aload_n 0, 1) := by decide +kernel
theorem dX8_read_42 : decode cX8_read 42 = .ok (.getfield 36, 3) := by decide +kernel
theorem dX8_read_45 : decode cX8_read 45 = .ok (.iconst 5, 1) := by decide +kernel
theorem dX8_read_46 : decode cX8_read 46 = .ok (.iload_n 1, 1) := by decide +kernel
theorem dX8_read_47 : decode cX8_read 47 = .ok (.imul, 1) := by decide +kernel
theorem dX8_read_48 : decode cX8_read 48 = .ok (.iconst 1, 1) := by decide +kernel
theorem dX8_read_49 : decode cX8_read 49 = .ok (.iadd, 1) := by decide +kernel
theorem dX8_read_50 : decode cX8_read 50 = .ok (.iload_n 3, 1) := by decide +kernel
theorem dX8_read_51 : decode cX8_read 51 = .ok (.iastore, 1) := by decide +kernel
theorem dX8_read_52 : decode cX8_read 52 = .ok (.aload_n 0, 1) := by decide +kernel
theorem dX8_read_53 : decode cX8_read 53 = .ok (.getfield 36, 3) := by decide +kernel
theorem dX8_read_56 : decode cX8_read 56 = .ok (.iconst 5, 1) := by decide +kernel
theorem dX8_read_57 : decode cX8_read 57 = .ok (.iload_n 1, 1) := by decide +kernel
theorem dX8_read_58 : decode cX8_read 58 = .ok (.imul, 1) := by decide +kernel
theorem dX8_read_59 : decode cX8_read 59 = .ok (.iconst 3, 1) := by decide +kernel
theorem dX8_read_60 : decode cX8_read 60 = .ok (.iadd, 1) := by decide +kernel
theorem dX8_read_61 : decode cX8_read 61 = .ok (.iload_n 3, 1) := by decide +kernel
theorem dX8_read_62 : decode cX8_read 62 = .ok (.ifCond .ne 7, 3) := by decide +kernel
theorem dX8_read_65 : decode cX8_read 65 = .ok (.iconst 0, 1) := by decide +kernel
theorem dX8_read_66 : decode cX8_read 66 = .ok (.goto 10, 3) := by decide +kernel
theorem dX8_read_69 : decode cX8_read 69 = .ok (.aload_n 0, 1) := by decide +kernel
theorem dX8_read_70 : decode cX8_read 70 = .ok (.bipush 97, 2) := by decide +kernel
theorem dX8_read_72 : decode cX8_read 72 = .ok (.iconst 3, 1) := by decide +kernel
theorem dX8_read_73 : decode cX8_read 73 = .ok (.invokevirtual 115, 3) := by decide +kernel
theorem dX8_read_76 : decode cX8_read 76 = .ok (.iastore, 1) := by decide +kernel
theorem dX8_read_77 : decode cX8_read 77 = .ok (.aload_n 0, 1) := by decide +kernel
theorem dX8_read_78 : decode cX8_read 78 = .ok (.getfield 36, 3) := by decide +kernel
theorem dX8_read_81 : decode cX8_read 81 = .ok (.iconst 5, 1) := by decide +kernel
theorem dX8_read_82 : decode cX8_read 82 = .ok (.iload_n 1, 1) := by decide +kernel
theorem dX8_read_83 : decode cX8_read 83 = .ok (.imul, 1) := by decide +kernel
theorem dX8_read_84 : decode cX8_read 84 = .ok (.iconst 2, 1) := by decide +kernel
theorem dX8_read_85 : decode cX8_read 85 = .ok (.iadd, 1) := by decide +kernel
theorem dX8_read_86 : decode cX8_read 86 = .ok (.iload_n 3, 1) := by decide +kernel
theorem dX8_read_87 : decode cX8_read 87 = .ok (.ifCond .ne 7, 3) := by decide +kernel
theorem dX8_read_90 : decode cX8_read 90 = .ok (.iconst 0, 1) := by decide +kernel
theorem dX8_read_91 : decode cX8_read 91 = .ok (.goto 10, 3) := by decide +kernel
theorem dX8_read_94 : decode cX8_read 94 = .ok (.aload_n 0, 1) := by decide +kernel
theorem dX8_read_95 : decode cX8_read 95 = .ok (.bipush 48, 2) := by decide +kernel
theorem dX8_read_97 : decode cX8_read 97 = .ok (.iconst 2, 1) := by decide +kernel
theorem dX8_read_98 : decode cX8_read 98 = .ok (.invokevirtual 115, 3) := by decide +kernel
theorem dX8_read_101 : decode cX8_read 101 = .ok (.iastore, 1) := by decide +kernel
theorem dX8_read_102 : decode cX8_read 102 = .ok (.aload_n 0, 1) := by decide +kernel
theorem dX8_read_103 : decode cX8_read 103 = .ok (.getfield 36, 3) := by decide +kernel
theorem dX8_read_106 : decode cX8_read 106 = .ok (.iconst 5, 1) := by decide +kernel
theorem dX8_read_107 : decode cX8_read 107 = .ok (.iload_n 1, 1) := by decide +kernel
theorem dX8_read_108 : decode cX8_read 108 = .ok (.imul, 1) := by decide +kernel
theorem dX8_read_109 : decode cX8_read 109 = .ok (.iconst 4, 1) := by decide +kernel
theorem dX8_read_110 : decode cX8_read 110 = .ok (.iadd, 1) := by decide +kernel
theorem dX8_read_111 : decode cX8_read 111 = .ok (.aload_n 0, 1) := by decide +kernel
theorem dX8_read_112 : decode cX8_read 112 = .ok (.bipush 48, 2) := by decide +kernel
theorem dX8_read_114 : decode cX8_read 114 = .ok (.aload_n 0, 1) := by decide +kernel
theorem dX8_read_115 : decode cX8_read 115 = .ok (.getfield 7, 3) := by decide +kernel
theorem dX8_read_118 : decode cX8_read 118 = .ok (.invokevirtual 115, 3) := by decide +kernel
theorem dX8_read_121 : decode cX8_read 121 = .ok (.iastore, 1) := by decide +kernel
theorem dX8_read_122 : decode cX8_read 122 = .ok (.iinc 1 1, 3) := by decide +kernel
theorem dX8_read_125 : decode cX8_read 125 = .ok (.aload_n 0, 1) := by decide +kernel
theorem dX8_read_126 : decode cX8_read 126 = .ok (.getfield 111, 3) := by decide +kernel
theorem dX8_read_129 : decode cX8_read 129 = .ok (.ifCond .ne 22, 3) := by decide +kernel
theorem dX8_read_132 : decode cX8_read 132 = .ok (.aload_n 0, 1) := by decide +kernel
theorem dX8_read_133 : decode cX8_read 133 = .ok (.invokevirtual 107, 3) := by decide +kernel
theorem dX8_read_136 : decode cX8_read 136 = .ok (.bipush 59, 2) := by decide +kernel
theorem dX8_read_138 : decode cX8_read 138 = .ok (.if_icmp .ne 13, 3) := by decide +kernel
theorem dX8_read_141 : decode cX8_read 141 = .ok (.iload_n 1, 1) := by decide +kernel
theorem dX8_read_142 : decode cX8_read 142 = .ok (.bipush 20, 2) := by decide +kernel
theorem dX8_read_144 : decode cX8_read 144 = .ok (.if_icmp .ge 7, 3) := by decide +kernel
theorem dX8_read_147 : decode cX8_read 147 = .ok (.iconst 1, 1) := by decide +kernel
theorem dX8_read_148 : decode cX8_read 148 = .ok (.goto 4, 3) := by decide +kernel
theorem dX8_read_151 : decode cX8_read 151 = .ok (.iconst 0, 1) := by decide +kernel
theorem dX8_read_152 : decode cX8_read 152 = .ok (.istore_n 2, 1) := by decide +kernel
theorem dX8_read_153 : decode cX8_read 153 = .ok (.aload_n 0, 1) := by decide +kernel
theorem dX8_read_154 : decode cX8_read 154 = .ok (.dup, 1) := by decide +kernel
theorem dX8_read_155 : decode cX8_read 155 = .ok (.getfield 104, 3) := by decide +kernel
theorem dX8_read_158 : decode cX8_read 158 = .ok (.iload_n 2, 1) := by decide +kernel
theorem dX8_read_159 : decode cX8_read 159 = .ok (.ifCond .eq 7, 3) := by decide +kernel
theorem dX8_read_162 : decode cX8_read 162 = .ok (.iconst 1, 1) := by decide +kernel
theorem dX8_read_163 : decode cX8_read 163 = .ok (.goto 4, 3) := by decide +kernel
theorem dX8_read_166 : decode cX8_read 166 = .ok (.iconst 0, 1) := by decide +kernel
theorem dX8_read_167 : decode cX8_read 167 = .ok (.iadd, 1) := by decide +kernel
theorem dX8_read_168 : decode cX8_read 168 = .ok (.putfield 104, 3) := by decide +kernel
theorem dX8_read_171 : decode cX8_read 171 = .ok (.goto (-157), 3) := by decide +kernel
theorem dX8_read_174 : decode cX8_read 174 = .ok (.aload_n 0, 1) := by decide +kernel
theorem dX8_read_175 : decode cX8_read 175 = .ok (.getfield 111, 3) := by decide +kernel
theorem dX8_read_178 : decode cX8_read 178 = .ok (.ifCond .eq 7, 3) := by decide +kernel
theorem dX8_read_181 : decode cX8_read 181 = .ok (.iconst 1, 1) := by decide +kernel
theorem dX8_read_182 : decode cX8_read 182 = .ok (.goto 7, 3) := by decide +kernel
theorem dX8_read_185 : decode cX8_read 185 = .ok (.aload_n 0, 1) := by decide +kernel
theorem dX8_read_186 : decode cX8_read 186 = .ok (.invokevirtual 107, 3) := by decide +kernel
theorem dX8_read_189 : decode cX8_read 189 = .ok (.istore_n 3, 1) := by decide +kernel
theorem dX8_read_190 : decode cX8_read 190 = .ok (.aload_n 0, 1) := by decide +kernel
theorem dX8_read_191 : decode cX8_read 191 = .ok (.getfield 104, 3) := by decide +kernel
theorem dX8_read_194 : decode cX8_read 194 = .ok (.istore 4, 2) := by decide +kernel
theorem dX8_read_196 : decode cX8_read 196 = .ok (.aload_n 0, 1) := by decide +kernel
theorem dX8_read_197 : decode cX8_read 197 = .ok (.iconst 0, 1) := by decide +kernel
theorem dX8_read_198 : decode cX8_read 198 = .ok (.putfield 101, 3) := by decide +kernel
theorem dX8_read_201 : decode cX8_read 201 = .ok (.iload_n 3, 1) := by decide +kernel
theorem dX8_read_202 : decode cX8_read 202 = .ok (.ifCond .eq 9, 3) := by decide +kernel
theorem dX8_read_205 : decode cX8_read 205 = .ok (.bipush (-20), 2) := by decide +kernel
theorem dX8_read_207 : decode cX8_read 207 = .ok (.iload 4, 2) := by decide +kernel
theorem dX8_read_209 : decode cX8_read 209 = .ok (.isub, 1) := by decide +kernel
theorem dX8_read_210 : decode cX8_read 210 = .ok (.ireturn, 1) := by decide +kernel
theorem dX8_read_211 : decode cX8_read 211 = .ok (.aload_n 0, 1) := by decide +kernel
theorem dX8_read_212 : decode cX8_read 212 = .ok (.iconst 0, 1) := by decide +kernel
theorem dX8_read_213 : decode cX8_read 213 = .ok (.putfield 77, 3) := by decide +kernel
theorem dX8_read_216 : decode cX8_read 216 = .ok (.iconst 0, 1) := by decide +kernel
theorem dX8_read_217 : decode cX8_read 217 = .ok (.istore 5, 2) := by decide +kernel
theorem dX8_read_219 : decode cX8_read 219 = .ok (.iload 5, 2) := by decide +kernel
theorem dX8_read_221 : decode cX8_read 221 = .ok (.iload_n 1, 1) := by decide +kernel
theorem dX8_read_222 : decode cX8_read 222 = .ok (.if_icmp .ge 66, 3) := by decide +kernel
theorem dX8_read_225 : decode cX8_read 225 = .ok (.aload_n 0, 1) := by decide +kernel
theorem dX8_read_226 : decode cX8_read 226 = .ok (.aload_n 0, 1) := by decide +kernel
theorem dX8_read_227 : decode cX8_read 227 = .ok (.getfield 36, 3) := by decide +kernel
theorem dX8_read_230 : decode cX8_read 230 = .ok (.iconst 5, 1) := by decide +kernel
theorem dX8_read_231 : decode cX8_read 231 = .ok (.iload 5, 2) := by decide +kernel
theorem dX8_read_233 : decode cX8_read 233 = .ok (.imul, 1) := by decide +kernel
theorem dX8_read_234 : decode cX8_read 234 = .ok (.iaload, 1) := by decide +kernel
theorem dX8_read_235 : decode cX8_read 235 = .ok (.aload_n 0, 1) := by decide +kernel
theorem dX8_read_236 : decode cX8_read 236 = .ok (.getfield 36, 3) := by decide +kernel
theorem dX8_read_239 : decode cX8_read 239 = .ok (.iconst 5, 1) := by decide +kernel
theorem dX8_read_240 : decode cX8_read 240 = .ok (.iload 5, 2) := by decide +kernel
theorem dX8_read_242 : decode cX8_read 242 = .ok (.imul, 1) := by decide +kernel
theorem dX8_read_243 : decode cX8_read 243 = .ok (.iconst 1, 1) := by decide +kernel
theorem dX8_read_244 : decode cX8_read 244 = .ok (.iadd, 1) := by decide +kernel
theorem dX8_read_245 : decode cX8_read 245 = .ok (.iaload, 1) := by decide +kernel
theorem dX8_read_246 : decode cX8_read 246 = .ok (.aload_n 0, 1) := by decide +kernel
theorem dX8_read_247 : decode cX8_read 247 = .ok (.getfield 36, 3) := by decide +kernel
theorem dX8_read_250 : decode cX8_read 250 = .ok (.iconst 5, 1) := by decide +kernel
theorem dX8_read_251 : decode cX8_read 251 = .ok (.iload 5, 2) := by decide +kernel
theorem dX8_read_253 : decode cX8_read 253 = .ok (.imul, 1) := by decide +kernel
theorem dX8_read_254 : decode cX8_read 254 = .ok (.iconst 2, 1) := by decide +kernel
theorem dX8_read_255 : decode cX8_read 255 = .ok (.iadd, 1) := by decide +kernel
theorem dX8_read_256 : decode cX8_read 256 = .ok (.iaload, 1) := by decide +kernel
theorem dX8_read_257 : decode cX8_read 257 = .ok (.aload_n 0, 1) := by decide +kernel
theorem dX8_read_258 : decode cX8_read 258 = .ok (.getfield 36, 3) := by decide +kernel
theorem dX8_read_261 : decode cX8_read 261 = .ok (.iconst 5, 1) := by decide +kernel
theorem dX8_read_262 : decode cX8_read 262 = .ok (.iload 5, 2) := by decide +kernel
theorem dX8_read_264 : decode cX8_read 264 = .ok (.imul, 1) := by decide +kernel
theorem dX8_read_265 : decode cX8_read 265 = .ok (.iconst 3, 1) := by decide +kernel
theorem dX8_read_266 : decode cX8_read 266 = .ok (.iadd, 1) := by decide +kernel
theorem dX8_read_267 : decode cX8_read 267 = .ok (.iaload, 1) := by decide +kernel
theorem dX8_read_268 : decode cX8_read 268 = .ok (.aload_n 0, 1) := by decide +kernel
theorem dX8_read_269 : decode cX8_read 269 = .ok (.getfield 36, 3) := by decide +kernel
theorem dX8_read_272 : decode cX8_read 272 = .ok (.iconst 5, 1) := by decide +kernel
theorem dX8_read_273 : decode cX8_read 273 = .ok (.iload 5, 2) := by decide +kernel
theorem dX8_read_275 : decode cX8_read 275 = .ok (.imul, 1) := by decide +kernel
theorem dX8_read_276 : decode cX8_read 276 = .ok (.iconst 4, 1) := by decide +kernel
theorem dX8_read_277 : decode cX8_read 277 = .ok (.iadd, 1) := by decide +kernel
theorem dX8_read_278 : decode cX8_read 278 = .ok (.iaload, 1) := by decide +kernel
theorem dX8_read_279 : decode cX8_read 279 = .ok (.invokevirtual 92, 3) := by decide +kernel
theorem dX8_read_282 : decode cX8_read 282 = .ok (.iinc 5 1, 3) := by decide +kernel
theorem dX8_read_285 : decode cX8_read 285 = .ok (.goto (-66), 3) := by decide +kernel
theorem dX8_read_288 : decode cX8_read 288 = .ok (.iload_n 1, 1) := by decide +kernel
theorem dX8_read_289 : decode cX8_read 289 = .ok (.ireturn, 1) := by decide +kernel
theorem dX8_spot_0 : decode cX8_spot 0 = .ok (.bipush 22, 2) := by decide +kernel
theorem dX8_spot_2 : decode cX8_spot 2 = .ok (.iload_n 0, 1) := by decide +kernel
theorem dX8_spot_3 : decode cX8_spot 3 = .ok (.imul, 1) := by decide +kernel
theorem dX8_spot_4 : decode cX8_spot 4 = .ok (.bipush 11, 2) := by decide +kernel
theorem dX8_spot_6 : decode cX8_spot 6 = .ok (.iload_n 1, 1) := by decide +kernel
theorem dX8_spot_7 : decode cX8_spot 7 = .ok (.imul, 1) := by decide +kernel
theorem dX8_spot_8 : decode cX8_spot 8 = .ok (.iadd, 1) := by decide +kernel
theorem dX8_spot_9 : decode cX8_spot 9 = .ok (.iload_n 2, 1) := by decide +kernel
theorem dX8_spot_10 : decode cX8_spot 10 = .ok (.iadd, 1) := by decide +kernel
theorem dX8_spot_11 : decode cX8_spot 11 = .ok (.ireturn, 1) := by decide +kernel
set_option maxRecDepth 20000 in
theorem ggX8_copy_X8_spot : GoodIn wsX8_copy wsX8_spot := goodIn_r _ [7] (by decide +kernel) (by decide +kernel)
set_option maxRecDepth 20000 in
theorem gX8_copy_X8_spot : GoodIn wsX8_copy (va_wsS RX8 122 yX8_spot wsX8_spot) := goodIn_app (goodIn_of _ (by decide +kernel)) ggX8_copy_X8_spot
theorem dX8_copy_0 : decode cX8_copy 0 = .ok (.aload_n 0, 1) := by decide +kernel
theorem dX8_copy_1 : decode cX8_copy 1 = .ok (.getfield 39, 3) := by decide +kernel
theorem dX8_copy_4 : decode cX8_copy 4 = .ok (.iload_n 2, 1) := by decide +kernel
theorem dX8_copy_5 : decode cX8_copy 5 = .ok (.aload_n 0, 1) := by decide +kernel
theorem dX8_copy_6 : decode cX8_copy 6 = .ok (.getfield 39, 3) := by decide +kernel
theorem dX8_copy_9 : decode cX8_copy 9 = .ok (.iload_n 1, 1) := by decide +kernel
theorem dX8_copy_10 : decode cX8_copy 10 = .ok (.iaload, 1) := by decide +kernel
theorem dX8_copy_11 : decode cX8_copy 11 = .ok (.iastore, 1) := by decide +kernel
theorem dX8_copy_12 : decode cX8_copy 12 = .ok (.iconst 0, 1) := by decide +kernel
theorem dX8_copy_13 : decode cX8_copy 13 = .ok (.istore_n 3, 1) := by decide +kernel
theorem dX8_copy_14 : decode cX8_copy 14 = .ok (.iload_n 3, 1) := by decide +kernel
theorem dX8_copy_15 : decode cX8_copy 15 = .ok (.iconst 2, 1) := by decide +kernel
theorem dX8_copy_16 : decode cX8_copy 16 = .ok (.if_icmp .ge 77, 3) := by decide +kernel
theorem dX8_copy_19 : decode cX8_copy 19 = .ok (.aload_n 0, 1) := by decide +kernel
theorem dX8_copy_20 : decode cX8_copy 20 = .ok (.getfield 42, 3) := by decide +kernel
theorem dX8_copy_23 : decode cX8_copy 23 = .ok (.iconst 2, 1) := by decide +kernel
theorem dX8_copy_24 : decode cX8_copy 24 = .ok (.iload_n 2, 1) := by decide +kernel
theorem dX8_copy_25 : decode cX8_copy 25 = .ok (.imul, 1) := by decide +kernel
theorem dX8_copy_26 : decode cX8_copy 26 = .ok (.iload_n 3, 1) := by decide +kernel
theorem dX8_copy_27 : decode cX8_copy 27 = .ok (.iadd, 1) := by decide +kernel
theorem dX8_copy_28 : decode cX8_copy 28 = .ok (.aload_n 0, 1) := by decide +kernel
theorem dX8_copy_29 : decode cX8_copy 29 = .ok (.getfield 42, 3) := by decide +kernel
theorem dX8_copy_32 : decode cX8_copy 32 = .ok (.iconst 2, 1) := by decide +kernel
theorem dX8_copy_33 : decode cX8_copy 33 = .ok (.iload_n 1, 1) := by decide +kernel
theorem dX8_copy_34 : decode cX8_copy 34 = .ok (.imul, 1) := by decide +kernel
theorem dX8_copy_35 : decode cX8_copy 35 = .ok (.iload_n 3, 1) := by decide +kernel
theorem dX8_copy_36 : decode cX8_copy 36 = .ok (.iadd, 1) := by decide +kernel
theorem dX8_copy_37 : decode cX8_copy 37 = .ok (.iaload, 1) := by decide +kernel
theorem dX8_copy_38 : decode cX8_copy 38 = .ok (.iastore, 1) := by decide +kernel
theorem dX8_copy_39 : decode cX8_copy 39 = .ok (.iconst 0, 1) := by decide +kernel
theorem dX8_copy_40 : decode cX8_copy 40 = .ok (.istore 4, 2) := by decide +kernel
theorem dX8_copy_42 : decode cX8_copy 42 = .ok (.iload 4, 2) := by decide +kernel
theorem dX8_copy_44 : decode cX8_copy 44 = .ok (.aload_n 0, 1) := by decide +kernel
theorem dX8_copy_45 : decode cX8_copy 45 = .ok (.getfield 42, 3) := by decide +kernel
theorem dX8_copy_48 : decode cX8_copy 48 = .ok (.iconst 2, 1) := by decide +kernel
theorem dX8_copy_49 : decode cX8_copy 49 = .ok (.iload_n 1, 1) := by decide +kernel
theorem dX8_copy_50 : decode cX8_copy 50 = .ok (.imul, 1) := by decide +kernel
theorem dX8_copy_51 : decode cX8_copy 51 = .ok (.iload_n 3, 1) := by decide +kernel
theorem dX8_copy_52 : decode cX8_copy 52 = .ok (.iadd, 1) := by decide +kernel
theorem dX8_copy_53 : decode cX8_copy 53 = .ok (.iaload, 1) := by decide +kernel
theorem dX8_copy_54 : decode cX8_copy 54 = .ok (.if_icmp .ge 33, 3) := by decide +kernel
theorem dX8_copy_57 : decode cX8_copy 57 = .ok (.aload_n 0, 1) := by decide +kernel
theorem dX8_copy_58 : decode cX8_copy 58 = .ok (.getfield 45, 3) := by decide +kernel
theorem dX8_copy_61 : decode cX8_copy 61 = .ok (.iload_n 2, 1) := by decide +kernel
theorem dX8_copy_62 : decode cX8_copy 62 = .ok (.iload_n 3, 1) := by decide +kernel
theorem dX8_copy_63 : decode cX8_copy 63 = .ok (.iload 4, 2) := by decide +kernel
theorem dX8_copy_65 : decode cX8_copy 65 = .ok (.invokestatic 122, 3) := by decide +kernel
theorem dX8_copy_68 : decode cX8_copy 68 = .ok (.aload_n 0, 1) := by decide +kernel
theorem dX8_copy_69 : decode cX8_copy 69 = .ok (.getfield 45, 3) := by decide +kernel
theorem dX8_copy_72 : decode cX8_copy 72 = .ok (.iload_n 1, 1) := by decide +kernel
theorem dX8_copy_73 : decode cX8_copy 73 = .ok (.iload_n 3, 1) := by decide +kernel
theorem dX8_copy_74 : decode cX8_copy 74 = .ok (.iload 4, 2) := by decide +kernel
theorem dX8_copy_76 : decode cX8_copy 76 = .ok (.invokestatic 122, 3) := by decide +kernel
theorem dX8_copy_79 : decode cX8_copy 79 = .ok (.iaload, 1) := by decide +kernel
theorem dX8_copy_80 : decode cX8_copy 80 = .ok (.iastore, 1) := by decide +kernel
theorem dX8_copy_81 : decode cX8_copy 81 = .ok (.iinc 4 1, 3) := by decide +kernel
theorem dX8_copy_84 : decode cX8_copy 84 = .ok (.goto (-42), 3) := by decide +kernel
theorem dX8_copy_87 : decode cX8_copy 87 = .ok (.iinc 3 1, 3) := by decide +kernel
theorem dX8_copy_90 : decode cX8_copy 90 = .ok (.goto (-76), 3) := by decide +kernel
theorem dX8_copy_93 : decode cX8_copy 93 = .ok (.return_, 1) := by decide +kernel
set_option maxRecDepth 20000 in
theorem ggX8_takeOut_X8_spot : GoodIn wsX8_takeOut wsX8_spot := goodIn_r _ [6] (by decide +kernel) (by decide +kernel)
set_option maxRecDepth 20000 in
theorem gX8_takeOut_X8_spot : GoodIn wsX8_takeOut (va_wsS RX8 122 yX8_spot wsX8_spot) := goodIn_app (goodIn_of _ (by decide +kernel)) ggX8_takeOut_X8_spot
theorem dX8_takeOut_0 : decode cX8_takeOut 0 = .ok (.aload_n 0, 1) := by decide +kernel
theorem dX8_takeOut_1 : decode cX8_takeOut 1 = .ok (.getfield 42, 3) := by decide +kernel
theorem dX8_takeOut_4 : decode cX8_takeOut 4 = .ok (.iconst 2, 1) := by decide +kernel
theorem dX8_takeOut_5 : decode cX8_takeOut 5 = .ok (.iload_n 1, 1) := by decide +kernel
theorem dX8_takeOut_6 : decode cX8_takeOut 6 = .ok (.imul, 1) := by decide +kernel
theorem dX8_takeOut_7 : decode cX8_takeOut 7 = .ok (.iload_n 2, 1) := by decide +kernel
theorem dX8_takeOut_8 : decode cX8_takeOut 8 = .ok (.iadd, 1) := by decide +kernel
theorem dX8_takeOut_9 : decode cX8_takeOut 9 = .ok (.dup2, 1) := by decide +kernel
theorem dX8_takeOut_10 : decode cX8_takeOut 10 = .ok (.iaload, 1) := by decide +kernel
theorem dX8_takeOut_11 : decode cX8_takeOut 11 = .ok (.iconst 1, 1) := by decide +kernel
theorem dX8_takeOut_12 : decode cX8_takeOut 12 = .ok (.isub, 1) := by decide +kernel
theorem dX8_takeOut_13 : decode cX8_takeOut 13 = .ok (.iastore, 1) := by decide +kernel
theorem dX8_takeOut_14 : decode cX8_takeOut 14 = .ok (.iload_n 3, 1) := by decide +kernel
theorem dX8_takeOut_15 : decode cX8_takeOut 15 = .ok (.istore 4, 2) := by decide +kernel
theorem dX8_takeOut_17 : decode cX8_takeOut 17 = .ok (.iload 4, 2) := by decide +kernel
theorem dX8_takeOut_19 : decode cX8_takeOut 19 = .ok (.aload_n 0, 1) := by decide +kernel
theorem dX8_takeOut_20 : decode cX8_takeOut 20 = .ok (.getfield 42, 3) := by decide +kernel
theorem dX8_takeOut_23 : decode cX8_takeOut 23 = .ok (.iconst 2, 1) := by decide +kernel
theorem dX8_takeOut_24 : decode cX8_takeOut 24 = .ok (.iload_n 1, 1) := by decide +kernel
theorem dX8_takeOut_25 : decode cX8_takeOut 25 = .ok (.imul, 1) := by decide +kernel
theorem dX8_takeOut_26 : decode cX8_takeOut 26 = .ok (.iload_n 2, 1) := by decide +kernel
theorem dX8_takeOut_27 : decode cX8_takeOut 27 = .ok (.iadd, 1) := by decide +kernel
theorem dX8_takeOut_28 : decode cX8_takeOut 28 = .ok (.iaload, 1) := by decide +kernel
theorem dX8_takeOut_29 : decode cX8_takeOut 29 = .ok (.if_icmp .ge 35, 3) := by decide +kernel
theorem dX8_takeOut_32 : decode cX8_takeOut 32 = .ok (.aload_n 0, 1) := by decide +kernel
theorem dX8_takeOut_33 : decode cX8_takeOut 33 = .ok (.getfield 45, 3) := by decide +kernel
theorem dX8_takeOut_36 : decode cX8_takeOut 36 = .ok (.iload_n 1, 1) := by decide +kernel
theorem dX8_takeOut_37 : decode cX8_takeOut 37 = .ok (.iload_n 2, 1) := by decide +kernel
theorem dX8_takeOut_38 : decode cX8_takeOut 38 = .ok (.iload 4, 2) := by decide +kernel
theorem dX8_takeOut_40 : decode cX8_takeOut 40 = .ok (.invokestatic 122, 3) := by decide +kernel
theorem dX8_takeOut_43 : decode cX8_takeOut 43 = .ok (.aload_n 0, 1) := by decide +kernel
theorem dX8_takeOut_44 : decode cX8_takeOut 44 = .ok (.getfield 45, 3) := by decide +kernel
theorem dX8_takeOut_47 : decode cX8_takeOut 47 = .ok (.iload_n 1, 1) := by decide +kernel
theorem dX8_takeOut_48 : decode cX8_takeOut 48 = .ok (.iload_n 2, 1) := by decide +kernel
theorem dX8_takeOut_49 : decode cX8_takeOut 49 = .ok (.iload 4, 2) := by decide +kernel
theorem dX8_takeOut_51 : decode cX8_takeOut 51 = .ok (.iconst 1, 1) := by decide +kernel
theorem dX8_takeOut_52 : decode cX8_takeOut 52 = .ok (.iadd, 1) := by decide +kernel
theorem dX8_takeOut_53 : decode cX8_takeOut 53 = .ok (.invokestatic 122, 3) := by decide +kernel
theorem dX8_takeOut_56 : decode cX8_takeOut 56 = .ok (.iaload, 1) := by decide +kernel
theorem dX8_takeOut_57 : decode cX8_takeOut 57 = .ok (.iastore, 1) := by decide +kernel
theorem dX8_takeOut_58 : decode cX8_takeOut 58 = .ok (.iinc 4 1, 3) := by decide +kernel
theorem dX8_takeOut_61 : decode cX8_takeOut 61 = .ok (.goto (-44), 3) := by decide +kernel
theorem dX8_takeOut_64 : decode cX8_takeOut 64 = .ok (.return_, 1) := by decide +kernel
set_option maxRecDepth 20000 in
theorem ggX8_putIn_X8_spot : GoodIn wsX8_putIn wsX8_spot := goodIn_r _ [6] (by decide +kernel) (by decide +kernel)
set_option maxRecDepth 20000 in
theorem gX8_putIn_X8_spot : GoodIn wsX8_putIn (va_wsS RX8 122 yX8_spot wsX8_spot) := goodIn_app (goodIn_of _ (by decide +kernel)) ggX8_putIn_X8_spot
theorem dX8_putIn_0 : decode cX8_putIn 0 = .ok (.aload_n 0, 1) := by decide +kernel
theorem dX8_putIn_1 : decode cX8_putIn 1 = .ok (.getfield 42, 3) := by decide +kernel
theorem dX8_putIn_4 : decode cX8_putIn 4 = .ok (.iconst 2, 1) := by decide +kernel
theorem dX8_putIn_5 : decode cX8_putIn 5 = .ok (.iload_n 1, 1) := by decide +kernel
theorem dX8_putIn_6 : decode cX8_putIn 6 = .ok (.imul, 1) := by decide +kernel
theorem dX8_putIn_7 : decode cX8_putIn 7 = .ok (.iload_n 2, 1) := by decide +kernel
theorem dX8_putIn_8 : decode cX8_putIn 8 = .ok (.iadd, 1) := by decide +kernel
theorem dX8_putIn_9 : decode cX8_putIn 9 = .ok (.iaload, 1) := by decide +kernel
theorem dX8_putIn_10 : decode cX8_putIn 10 = .ok (.istore 5, 2) := by decide +kernel
theorem dX8_putIn_12 : decode cX8_putIn 12 = .ok (.iload 5, 2) := by decide +kernel
theorem dX8_putIn_14 : decode cX8_putIn 14 = .ok (.iload_n 3, 1) := by decide +kernel
theorem dX8_putIn_15 : decode cX8_putIn 15 = .ok (.if_icmp .le 35, 3) := by decide +kernel
theorem dX8_putIn_18 : decode cX8_putIn 18 = .ok (.aload_n 0, 1) := by decide +kernel
theorem dX8_putIn_19 : decode cX8_putIn 19 = .ok (.getfield 45, 3) := by decide +kernel
theorem dX8_putIn_22 : decode cX8_putIn 22 = .ok (.iload_n 1, 1) := by decide +kernel
theorem dX8_putIn_23 : decode cX8_putIn 23 = .ok (.iload_n 2, 1) := by decide +kernel
theorem dX8_putIn_24 : decode cX8_putIn 24 = .ok (.iload 5, 2) := by decide +kernel
theorem dX8_putIn_26 : decode cX8_putIn 26 = .ok (.invokestatic 122, 3) := by decide +kernel
theorem dX8_putIn_29 : decode cX8_putIn 29 = .ok (.aload_n 0, 1) := by decide +kernel
theorem dX8_putIn_30 : decode cX8_putIn 30 = .ok (.getfield 45, 3) := by decide +kernel
theorem dX8_putIn_33 : decode cX8_putIn 33 = .ok (.iload_n 1, 1) := by decide +kernel
theorem dX8_putIn_34 : decode cX8_putIn 34 = .ok (.iload_n 2, 1) := by decide +kernel
theorem dX8_putIn_35 : decode cX8_putIn 35 = .ok (.iload 5, 2) := by decide +kernel
theorem dX8_putIn_37 : decode cX8_putIn 37 = .ok (.iconst 1, 1) := by decide +kernel
theorem dX8_putIn_38 : decode cX8_putIn 38 = .ok (.isub, 1) := by decide +kernel
theorem dX8_putIn_39 : decode cX8_putIn 39 = .ok (.invokestatic 122, 3) := by decide +kernel
theorem dX8_putIn_42 : decode cX8_putIn 42 = .ok (.iaload, 1) := by decide +kernel
theorem dX8_putIn_43 : decode cX8_putIn 43 = .ok (.iastore, 1) := by decide +kernel
theorem dX8_putIn_44 : decode cX8_putIn 44 = .ok (.iinc 5 (-1), 3) := by decide +kernel
theorem dX8_putIn_47 : decode cX8_putIn 47 = .ok (.goto (-35), 3) := by decide +kernel
theorem dX8_putIn_50 : decode cX8_putIn 50 = .ok (.aload_n 0, 1) := by decide +kernel
theorem dX8_putIn_51 : decode cX8_putIn 51 = .ok (.getfield 45, 3) := by decide +kernel
theorem dX8_putIn_54 : decode cX8_putIn 54 = .ok (.iload_n 1, 1) := by decide +kernel
theorem dX8_putIn_55 : decode cX8_putIn 55 = .ok (.iload_n 2, 1) := by decide +kernel
theorem dX8_putIn_56 : decode cX8_putIn 56 = .ok (.iload_n 3, 1) := by decide +kernel
theorem dX8_putIn_57 : decode cX8_putIn 57 = .ok (.invokestatic 122, 3) := by decide +kernel
theorem dX8_putIn_60 : decode cX8_putIn 60 = .ok (.iload 4, 2) := by decide +kernel
theorem dX8_putIn_62 : decode cX8_putIn 62 = .ok (.iastore, 1) := by decide +kernel
theorem dX8_putIn_63 : decode cX8_putIn 63 = .ok (.aload_n 0, 1) := by decide +kernel
theorem dX8_putIn_64 : decode cX8_putIn 64 = .ok (.getfield 42, 3) := by decide +kernel
theorem dX8_putIn_67 : decode cX8_putIn 67 = .ok (.iconst 2, 1) := by decide +kernel
theorem dX8_putIn_68 : decode cX8_putIn 68 = .ok (.iload_n 1, 1) := by decide +kernel
theorem dX8_putIn_69 : decode cX8_putIn 69 = .ok (.imul, 1) := by decide +kernel
theorem dX8_putIn_70 : decode cX8_putIn 70 = .ok (.iload_n 2, 1) := by decide +kernel
theorem dX8_putIn_71 : decode cX8_putIn 71 = .ok (.iadd, 1) := by decide +kernel
theorem dX8_putIn_72 : decode cX8_putIn 72 = .ok (.dup2, 1) := by decide +kernel
theorem dX8_putIn_73 : decode cX8_putIn 73 = .ok (.iaload, 1) := by decide +kernel
theorem dX8_putIn_74 : decode cX8_putIn 74 = .ok (.iconst 1, 1) := by decide +kernel
theorem dX8_putIn_75 : decode cX8_putIn 75 = .ok (.iadd, 1) := by decide +kernel
theorem dX8_putIn_76 : decode cX8_putIn 76 = .ok (.iastore, 1) := by decide +kernel
theorem dX8_putIn_77 : decode cX8_putIn 77 = .ok (.return_, 1) := by decide +kernel
set_option maxRecDepth 20000 in
theorem ggX8_inOrder_X8_spot : GoodIn wsX8_inOrder wsX8_spot := goodIn_r _ [6] (by decide +kernel) (by decide +kernel)
set_option maxRecDepth 20000 in
theorem gX8_inOrder_X8_spot : GoodIn wsX8_inOrder (va_wsS RX8 122 yX8_spot wsX8_spot) := goodIn_app (goodIn_of _ (by decide +kernel)) ggX8_inOrder_X8_spot
theorem dX8_inOrder_0 : decode cX8_inOrder 0 = .ok (.iconst 0, 1) := by decide +kernel
theorem dX8_inOrder_1 : decode cX8_inOrder 1 = .ok (.istore 4, 2) := by decide +kernel
theorem dX8_inOrder_3 : decode cX8_inOrder 3 = .ok (.iload 4, 2) := by decide +kernel
theorem dX8_inOrder_5 : decode cX8_inOrder 5 = .ok (.aload_n 0, 1) := by decide +kernel
theorem dX8_inOrder_6 : decode cX8_inOrder 6 = .ok (.getfield 42, 3) := by decide +kernel
theorem dX8_inOrder_9 : decode cX8_inOrder 9 = .ok (.iconst 2, 1) := by decide +kernel
theorem dX8_inOrder_10 : decode cX8_inOrder 10 = .ok (.iload_n 1, 1) := by decide +kernel
theorem dX8_inOrder_11 : decode cX8_inOrder 11 = .ok (.imul, 1) := by decide +kernel
theorem dX8_inOrder_12 : decode cX8_inOrder 12 = .ok (.iload_n 2, 1) := by decide +kernel
theorem dX8_inOrder_13 : decode cX8_inOrder 13 = .ok (.iadd, 1) := by decide +kernel
theorem dX8_inOrder_14 : decode cX8_inOrder 14 = .ok (.iaload, 1) := by decide +kernel
theorem dX8_inOrder_15 : decode cX8_inOrder 15 = .ok (.if_icmp .ge 25, 3) := by decide +kernel
theorem dX8_inOrder_18 : decode cX8_inOrder 18 = .ok (.aload_n 0, 1) := by decide +kernel
theorem dX8_inOrder_19 : decode cX8_inOrder 19 = .ok (.getfield 45, 3) := by decide +kernel
theorem dX8_inOrder_22 : decode cX8_inOrder 22 = .ok (.iload_n 1, 1) := by decide +kernel
theorem dX8_inOrder_23 : decode cX8_inOrder 23 = .ok (.iload_n 2, 1) := by decide +kernel
theorem dX8_inOrder_24 : decode cX8_inOrder 24 = .ok (.iload 4, 2) := by decide +kernel
theorem dX8_inOrder_26 : decode cX8_inOrder 26 = .ok (.invokestatic 122, 3) := by decide +kernel
theorem dX8_inOrder_29 : decode cX8_inOrder 29 = .ok (.iaload, 1) := by decide +kernel
theorem dX8_inOrder_30 : decode cX8_inOrder 30 = .ok (.iload_n 3, 1) := by decide +kernel
theorem dX8_inOrder_31 : decode cX8_inOrder 31 = .ok (.if_icmp .gt 9, 3) := by decide +kernel
theorem dX8_inOrder_34 : decode cX8_inOrder 34 = .ok (.iinc 4 1, 3) := by decide +kernel
theorem dX8_inOrder_37 : decode cX8_inOrder 37 = .ok (.goto (-34), 3) := by decide +kernel
theorem dX8_inOrder_40 : decode cX8_inOrder 40 = .ok (.iload 4, 2) := by decide +kernel
theorem dX8_inOrder_42 : decode cX8_inOrder 42 = .ok (.ireturn, 1) := by decide +kernel
set_option maxRecDepth 20000 in
theorem ggX8_firstOf_X8_spot : GoodIn wsX8_firstOf wsX8_spot := goodIn_r _ [6] (by decide +kernel) (by decide +kernel)
set_option maxRecDepth 20000 in
theorem gX8_firstOf_X8_spot : GoodIn wsX8_firstOf (va_wsS RX8 122 yX8_spot wsX8_spot) := goodIn_app (goodIn_of _ (by decide +kernel)) ggX8_firstOf_X8_spot
theorem dX8_firstOf_0 : decode cX8_firstOf 0 = .ok (.iconst 0, 1) := by decide +kernel
theorem dX8_firstOf_1 : decode cX8_firstOf 1 = .ok (.istore 4, 2) := by decide +kernel
theorem dX8_firstOf_3 : decode cX8_firstOf 3 = .ok (.iload 4, 2) := by decide +kernel
theorem dX8_firstOf_5 : decode cX8_firstOf 5 = .ok (.aload_n 0, 1) := by decide +kernel
theorem dX8_firstOf_6 : decode cX8_firstOf 6 = .ok (.getfield 42, 3) := by decide +kernel
theorem dX8_firstOf_9 : decode cX8_firstOf 9 = .ok (.iconst 2, 1) := by decide +kernel
theorem dX8_firstOf_10 : decode cX8_firstOf 10 = .ok (.iload_n 1, 1) := by decide +kernel
theorem dX8_firstOf_11 : decode cX8_firstOf 11 = .ok (.imul, 1) := by decide +kernel
theorem dX8_firstOf_12 : decode cX8_firstOf 12 = .ok (.iload_n 2, 1) := by decide +kernel
theorem dX8_firstOf_13 : decode cX8_firstOf 13 = .ok (.iadd, 1) := by decide +kernel
theorem dX8_firstOf_14 : decode cX8_firstOf 14 = .ok (.iaload, 1) := by decide +kernel
theorem dX8_firstOf_15 : decode cX8_firstOf 15 = .ok (.if_icmp .ge 28, 3) := by decide +kernel
theorem dX8_firstOf_18 : decode cX8_firstOf 18 = .ok (.aload_n 0, 1) := by decide +kernel
theorem dX8_firstOf_19 : decode cX8_firstOf 19 = .ok (.getfield 45, 3) := by decide +kernel
theorem dX8_firstOf_22 : decode cX8_firstOf 22 = .ok (.iload_n 1, 1) := by decide +kernel
theorem dX8_firstOf_23 : decode cX8_firstOf 23 = .ok (.iload_n 2, 1) := by decide +kernel
theorem dX8_firstOf_24 : decode cX8_firstOf 24 = .ok (.iload 4, 2) := by decide +kernel
theorem dX8_firstOf_26 : decode cX8_firstOf 26 = .ok (.invokestatic 122, 3) := by decide +kernel
theorem dX8_firstOf_29 : decode cX8_firstOf 29 = .ok (.iaload, 1) := by decide +kernel
theorem dX8_firstOf_30 : decode cX8_firstOf 30 = .ok (.iload_n 3, 1) := by decide +kernel
theorem dX8_firstOf_31 : decode cX8_firstOf 31 = .ok (.if_icmp .ne 6, 3) := by decide +kernel
theorem dX8_firstOf_34 : decode cX8_firstOf 34 = .ok (.iload 4, 2) := by decide +kernel
theorem dX8_firstOf_36 : decode cX8_firstOf 36 = .ok (.ireturn, 1) := by decide +kernel
theorem dX8_firstOf_37 : decode cX8_firstOf 37 = .ok (.iinc 4 1, 3) := by decide +kernel
theorem dX8_firstOf_40 : decode cX8_firstOf 40 = .ok (.goto (-37), 3) := by decide +kernel
theorem dX8_firstOf_43 : decode cX8_firstOf 43 = .ok (.iconst (-1), 1) := by decide +kernel
theorem dX8_firstOf_44 : decode cX8_firstOf 44 = .ok (.ireturn, 1) := by decide +kernel
set_option maxRecDepth 20000 in
theorem ggX8_isBelow_X8_spot : GoodIn wsX8_isBelow wsX8_spot := goodIn_r _ [7] (by decide +kernel) (by decide +kernel)
set_option maxRecDepth 20000 in
theorem gX8_isBelow_X8_spot : GoodIn wsX8_isBelow (va_wsS RX8 122 yX8_spot wsX8_spot) := goodIn_app (goodIn_of _ (by decide +kernel)) ggX8_isBelow_X8_spot
theorem dX8_isBelow_0 : decode cX8_isBelow 0 = .ok (.aload_n 0, 1) := by decide +kernel
theorem dX8_isBelow_1 : decode cX8_isBelow 1 = .ok (.getfield 39, 3) := by decide +kernel
theorem dX8_isBelow_4 : decode cX8_isBelow 4 = .ok (.iload_n 1, 1) := by decide +kernel
theorem dX8_isBelow_5 : decode cX8_isBelow 5 = .ok (.iaload, 1) := by decide +kernel
theorem dX8_isBelow_6 : decode cX8_isBelow 6 = .ok (.aload_n 0, 1) := by decide +kernel
theorem dX8_isBelow_7 : decode cX8_isBelow 7 = .ok (.getfield 39, 3) := by decide +kernel
theorem dX8_isBelow_10 : decode cX8_isBelow 10 = .ok (.iload_n 2, 1) := by decide +kernel
theorem dX8_isBelow_11 : decode cX8_isBelow 11 = .ok (.iaload, 1) := by decide +kernel
theorem dX8_isBelow_12 : decode cX8_isBelow 12 = .ok (.if_icmp .ne 7, 3) := by decide +kernel
theorem dX8_isBelow_15 : decode cX8_isBelow 15 = .ok (.iconst 1, 1) := by decide +kernel
theorem dX8_isBelow_16 : decode cX8_isBelow 16 = .ok (.goto 4, 3) := by decide +kernel
theorem dX8_isBelow_19 : decode cX8_isBelow 19 = .ok (.iconst 0, 1) := by decide +kernel
theorem dX8_isBelow_20 : decode cX8_isBelow 20 = .ok (.istore_n 3, 1) := by decide +kernel
theorem dX8_isBelow_21 : decode cX8_isBelow 21 = .ok (.iconst 0, 1) := by decide +kernel
theorem dX8_isBelow_22 : decode cX8_isBelow 22 = .ok (.istore 4, 2) := by decide +kernel
theorem dX8_isBelow_24 : decode cX8_isBelow 24 = .ok (.iload 4, 2) := by decide +kernel
theorem dX8_isBelow_26 : decode cX8_isBelow 26 = .ok (.iconst 2, 1) := by decide +kernel
theorem dX8_isBelow_27 : decode cX8_isBelow 27 = .ok (.if_icmp .ge 118, 3) := by decide +kernel
theorem dX8_isBelow_30 : decode cX8_isBelow 30 = .ok (.iload_n 3, 1) := by decide +kernel
theorem dX8_isBelow_31 : decode cX8_isBelow 31 = .ok (.ifCond .eq 114, 3) := by decide +kernel
theorem dX8_isBelow_34 : decode cX8_isBelow 34 = .ok (.iconst 0, 1) := by decide +kernel
theorem dX8_isBelow_35 : decode cX8_isBelow 35 = .ok (.istore 5, 2) := by decide +kernel
theorem dX8_isBelow_37 : decode cX8_isBelow 37 = .ok (.iconst 0, 1) := by decide +kernel
theorem dX8_isBelow_38 : decode cX8_isBelow 38 = .ok (.istore 6, 2) := by decide +kernel
theorem dX8_isBelow_40 : decode cX8_isBelow 40 = .ok (.iload 6, 2) := by decide +kernel
theorem dX8_isBelow_42 : decode cX8_isBelow 42 = .ok (.aload_n 0, 1) := by decide +kernel
theorem dX8_isBelow_43 : decode cX8_isBelow 43 = .ok (.getfield 42, 3) := by decide +kernel
theorem dX8_isBelow_46 : decode cX8_isBelow 46 = .ok (.iconst 2, 1) := by decide +kernel
theorem dX8_isBelow_47 : decode cX8_isBelow 47 = .ok (.iload_n 2, 1) := by decide +kernel
theorem dX8_isBelow_48 : decode cX8_isBelow 48 = .ok (.imul, 1) := by decide +kernel
theorem dX8_isBelow_49 : decode cX8_isBelow 49 = .ok (.iload 4, 2) := by decide +kernel
theorem dX8_isBelow_51 : decode cX8_isBelow 51 = .ok (.iadd, 1) := by decide +kernel
theorem dX8_isBelow_52 : decode cX8_isBelow 52 = .ok (.iaload, 1) := by decide +kernel
theorem dX8_isBelow_53 : decode cX8_isBelow 53 = .ok (.if_icmp .ge 64, 3) := by decide +kernel
theorem dX8_isBelow_56 : decode cX8_isBelow 56 = .ok (.iload 5, 2) := by decide +kernel
theorem dX8_isBelow_58 : decode cX8_isBelow 58 = .ok (.aload_n 0, 1) := by decide +kernel
theorem dX8_isBelow_59 : decode cX8_isBelow 59 = .ok (.getfield 42, 3) := by decide +kernel
theorem dX8_isBelow_62 : decode cX8_isBelow 62 = .ok (.iconst 2, 1) := by decide +kernel
theorem dX8_isBelow_63 : decode cX8_isBelow 63 = .ok (.iload_n 1, 1) := by decide +kernel
theorem dX8_isBelow_64 : decode cX8_isBelow 64 = .ok (.imul, 1) := by decide +kernel
theorem dX8_isBelow_65 : decode cX8_isBelow 65 = .ok (.iload 4, 2) := by decide +kernel
theorem dX8_isBelow_67 : decode cX8_isBelow 67 = .ok (.iadd, 1) := by decide +kernel
theorem dX8_isBelow_68 : decode cX8_isBelow 68 = .ok (.iaload, 1) := by decide +kernel
theorem dX8_isBelow_69 : decode cX8_isBelow 69 = .ok (.if_icmp .ge 48, 3) := by decide +kernel
theorem dX8_isBelow_72 : decode cX8_isBelow 72 = .ok (.iload 5, 2) := by decide +kernel
theorem dX8_isBelow_74 : decode cX8_isBelow 74 = .ok (.aload_n 0, 1) := by decide +kernel
theorem dX8_isBelow_75 : decode cX8_isBelow 75 = .ok (.getfield 45, 3) := by decide +kernel
theorem dX8_isBelow_78 : decode cX8_isBelow 78 = .ok (.iload_n 2, 1) := by decide +kernel
theorem dX8_isBelow_79 : decode cX8_isBelow 79 = .ok (.iload 4, 2) := by decide +kernel
theorem dX8_isBelow_81 : decode cX8_isBelow 81 = .ok (.iload 6, 2) := by decide +kernel
theorem dX8_isBelow_83 : decode cX8_isBelow 83 = .ok (.invokestatic 122, 3) := by decide +kernel
theorem dX8_isBelow_86 : decode cX8_isBelow 86 = .ok (.iaload, 1) := by decide +kernel
theorem dX8_isBelow_87 : decode cX8_isBelow 87 = .ok (.aload_n 0, 1) := by decide +kernel
theorem dX8_isBelow_88 : decode cX8_isBelow 88 = .ok (.getfield 45, 3) := by decide +kernel
theorem dX8_isBelow_91 : decode cX8_isBelow 91 = .ok (.iload_n 1, 1) := by decide +kernel
theorem dX8_isBelow_92 : decode cX8_isBelow 92 = .ok (.iload 4, 2) := by decide +kernel
theorem dX8_isBelow_94 : decode cX8_isBelow 94 = .ok (.iload 5, 2) := by decide +kernel
theorem dX8_isBelow_96 : decode cX8_isBelow 96 = .ok (.invokestatic 122, 3) := by decide +kernel
theorem dX8_isBelow_99 : decode cX8_isBelow 99 = .ok (.iaload, 1) := by decide +kernel
theorem dX8_isBelow_100 : decode cX8_isBelow 100 = .ok (.if_icmp .ne 7, 3) := by decide +kernel
theorem dX8_isBelow_103 : decode cX8_isBelow 103 = .ok (.iconst 1, 1) := by decide +kernel
theorem dX8_isBelow_104 : decode cX8_isBelow 104 = .ok (.goto 4, 3) := by decide +kernel
theorem dX8_isBelow_107 : decode cX8_isBelow 107 = .ok (.iconst 0, 1) := by decide +kernel
theorem dX8_isBelow_108 : decode cX8_isBelow 108 = .ok (.iadd, 1) := by decide +kernel
theorem dX8_isBelow_109 : decode cX8_isBelow 109 = .ok (.istore 5, 2) := by decide +kernel
theorem dX8_isBelow_111 : decode cX8_isBelow 111 = .ok (.iinc 6 1, 3) := by decide +kernel
theorem dX8_isBelow_114 : decode cX8_isBelow 114 = .ok (.goto (-74), 3) := by decide +kernel
theorem dX8_isBelow_117 : decode cX8_isBelow 117 = .ok (.iload 5, 2) := by decide +kernel
theorem dX8_isBelow_119 : decode cX8_isBelow 119 = .ok (.aload_n 0, 1) := by decide +kernel
theorem dX8_isBelow_120 : decode cX8_isBelow 120 = .ok (.getfield 42, 3) := by decide +kernel
theorem dX8_isBelow_123 : decode cX8_isBelow 123 = .ok (.iconst 2, 1) := by decide +kernel
theorem dX8_isBelow_124 : decode cX8_isBelow 124 = .ok (.iload_n 1, 1) := by decide +kernel
theorem dX8_isBelow_125 : decode cX8_isBelow 125 = .ok (.imul, 1) := by decide +kernel
theorem dX8_isBelow_126 : decode cX8_isBelow 126 = .ok (.iload 4, 2) := by decide +kernel
theorem dX8_isBelow_128 : decode cX8_isBelow 128 = .ok (.iadd, 1) := by decide +kernel
theorem dX8_isBelow_129 : decode cX8_isBelow 129 = .ok (.iaload, 1) := by decide +kernel
theorem dX8_isBelow_130 : decode cX8_isBelow 130 = .ok (.if_icmp .ne 7, 3) := by decide +kernel
theorem dX8_isBelow_133 : decode cX8_isBelow 133 = .ok (.iconst 1, 1) := by decide +kernel
theorem dX8_isBelow_134 : decode cX8_isBelow 134 = .ok (.goto 4, 3) := by decide +kernel
theorem dX8_isBelow_137 : decode cX8_isBelow 137 = .ok (.iconst 0, 1) := by decide +kernel
theorem dX8_isBelow_138 : decode cX8_isBelow 138 = .ok (.istore_n 3, 1) := by decide +kernel
theorem dX8_isBelow_139 : decode cX8_isBelow 139 = .ok (.iinc 4 1, 3) := by decide +kernel
theorem dX8_isBelow_142 : decode cX8_isBelow 142 = .ok (.goto (-118), 3) := by decide +kernel
theorem dX8_isBelow_145 : decode cX8_isBelow 145 = .ok (.iload_n 3, 1) := by decide +kernel
theorem dX8_isBelow_146 : decode cX8_isBelow 146 = .ok (.ireturn, 1) := by decide +kernel
set_option maxRecDepth 20000 in
theorem ggX8_go_X8_isArc : GoodIn wsX8_go wsX8_isArc := goodIn_r _ [13, 14, 15, 16, 12, 17, 38, 39, 40, 41, 42, 43, 44, 45, 46, 47, 48, 49, 50, 51, 52, 53, 54, 55, 56, 57, 58, 59, 60, 61, 62] (by decide +kernel) (by decide +kernel)
set_option maxRecDepth 20000 in
theorem gX8_go_X8_isArc : GoodIn wsX8_go (wsV RX8 96 RX8 yX8_isArc wsX8_isArc) := goodIn_app (goodIn_of _ (by decide +kernel)) ggX8_go_X8_isArc
set_option maxRecDepth 20000 in
theorem ggX8_go_X8_firstOf : GoodIn wsX8_go wsX8_firstOf := goodIn_r _ [21, 7, 22, 23, 24, 12, 25, 38, 39, 40, 41, 42, 43, 44, 45, 46, 47, 48, 49, 50, 51, 52, 53, 54, 55, 56, 57, 58, 59, 60, 61, 62] (by decide +kernel) (by decide +kernel)
set_option maxRecDepth 20000 in
theorem gX8_go_X8_firstOf : GoodIn wsX8_go (wsV RX8 126 RX8 yX8_firstOf wsX8_firstOf) := goodIn_app (goodIn_of _ (by decide +kernel)) ggX8_go_X8_firstOf
set_option maxRecDepth 20000 in
theorem ggX8_go_X8_takeOut : GoodIn wsX8_go wsX8_takeOut := goodIn_r _ [29, 7, 22, 23, 24, 12, 25, 38, 39, 40, 41, 42, 43, 44, 45, 46, 47, 48, 49, 50, 51, 52, 53, 54, 55, 56, 57, 58, 59, 60, 61, 62] (by decide +kernel) (by decide +kernel)
set_option maxRecDepth 20000 in
theorem gX8_go_X8_takeOut : GoodIn wsX8_go (wsV RX8 129 RX8 yX8_takeOut wsX8_takeOut) := goodIn_app (goodIn_of _ (by decide +kernel)) ggX8_go_X8_takeOut
set_option maxRecDepth 20000 in
theorem ggX8_go_X8_inOrder : GoodIn wsX8_go wsX8_inOrder := goodIn_r _ [33, 7, 22, 23, 24, 12, 25, 38, 39, 40, 41, 42, 43, 44, 45, 46, 47, 48, 49, 50, 51, 52, 53, 54, 55, 56, 57, 58, 59, 60, 61, 62] (by decide +kernel) (by decide +kernel)
set_option maxRecDepth 20000 in
theorem gX8_go_X8_inOrder : GoodIn wsX8_go (wsV RX8 133 RX8 yX8_inOrder wsX8_inOrder) := goodIn_app (goodIn_of _ (by decide +kernel)) ggX8_go_X8_inOrder
set_option maxRecDepth 20000 in
theorem ggX8_go_X8_putIn : GoodIn wsX8_go wsX8_putIn := goodIn_r _ [37, 7, 22, 23, 24, 12, 25, 38, 39, 40, 41, 42, 43, 44, 45, 46, 47, 48, 49, 50, 51, 52, 53, 54, 55, 56, 57, 58, 59, 60, 61, 62] (by decide +kernel) (by decide +kernel)
set_option maxRecDepth 20000 in
theorem gX8_go_X8_putIn : GoodIn wsX8_go (wsV RX8 136 RX8 yX8_putIn wsX8_putIn) := goodIn_app (goodIn_of _ (by decide +kernel)) ggX8_go_X8_putIn
theorem dX8_go_0 : decode cX8_go 0 = .ok (.aload_n 0, 1) := by decide +kernel
theorem dX8_go_1 : decode cX8_go 1 = .ok (.iload_n 1, 1) := by decide +kernel
theorem dX8_go_2 : decode cX8_go 2 = .ok (.invokevirtual 96, 3) := by decide +kernel
theorem dX8_go_5 : decode cX8_go 5 = .ok (.ifCond .ne 5, 3) := by decide +kernel
theorem dX8_go_8 : decode cX8_go 8 = .ok (.iconst (-1), 1) := by decide +kernel
theorem dX8_go_9 : decode cX8_go 9 = .ok (.ireturn, 1) := by decide +kernel
theorem dX8_go_10 : decode cX8_go 10 = .ok (.aload_n 0, 1) := by decide +kernel
theorem dX8_go_11 : decode cX8_go 11 = .ok (.getfield 24, 3) := by decide +kernel
theorem dX8_go_14 : decode cX8_go 14 = .ok (.iload_n 1, 1) := by decide +kernel
theorem dX8_go_15 : decode cX8_go 15 = .ok (.iaload, 1) := by decide +kernel
theorem dX8_go_16 : decode cX8_go 16 = .ok (.istore_n 2, 1) := by decide +kernel
theorem dX8_go_17 : decode cX8_go 17 = .ok (.aload_n 0, 1) := by decide +kernel
theorem dX8_go_18 : decode cX8_go 18 = .ok (.getfield 27, 3) := by decide +kernel
theorem dX8_go_21 : decode cX8_go 21 = .ok (.iload_n 1, 1) := by decide +kernel
theorem dX8_go_22 : decode cX8_go 22 = .ok (.iaload, 1) := by decide +kernel
theorem dX8_go_23 : decode cX8_go 23 = .ok (.istore_n 3, 1) := by decide +kernel
theorem dX8_go_24 : decode cX8_go 24 = .ok (.aload_n 0, 1) := by decide +kernel
theorem dX8_go_25 : decode cX8_go 25 = .ok (.getfield 17, 3) := by decide +kernel
theorem dX8_go_28 : decode cX8_go 28 = .ok (.iload_n 1, 1) := by decide +kernel
theorem dX8_go_29 : decode cX8_go 29 = .ok (.iaload, 1) := by decide +kernel
theorem dX8_go_30 : decode cX8_go 30 = .ok (.aload_n 0, 1) := by decide +kernel
theorem dX8_go_31 : decode cX8_go 31 = .ok (.getfield 39, 3) := by decide +kernel
theorem dX8_go_34 : decode cX8_go 34 = .ok (.bipush 82, 2) := by decide +kernel
theorem dX8_go_36 : decode cX8_go 36 = .ok (.iaload, 1) := by decide +kernel
theorem dX8_go_37 : decode cX8_go 37 = .ok (.if_icmp .eq 6, 3) := by decide +kernel
theorem dX8_go_40 : decode cX8_go 40 = .ok (.bipush (-2), 2) := by decide +kernel
theorem dX8_go_42 : decode cX8_go 42 = .ok (.ireturn, 1) := by decide +kernel
theorem dX8_go_43 : decode cX8_go 43 = .ok (.aload_n 0, 1) := by decide +kernel
theorem dX8_go_44 : decode cX8_go 44 = .ok (.getfield 21, 3) := by decide +kernel
theorem dX8_go_47 : decode cX8_go 47 = .ok (.iload_n 1, 1) := by decide +kernel
theorem dX8_go_48 : decode cX8_go 48 = .ok (.iaload, 1) := by decide +kernel
theorem dX8_go_49 : decode cX8_go 49 = .ok (.iconst 2, 1) := by decide +kernel
theorem dX8_go_50 : decode cX8_go 50 = .ok (.if_icmp .ne 47, 3) := by decide +kernel
theorem dX8_go_53 : decode cX8_go 53 = .ok (.aload_n 0, 1) := by decide +kernel
theorem dX8_go_54 : decode cX8_go 54 = .ok (.bipush 82, 2) := by decide +kernel
theorem dX8_go_56 : decode cX8_go 56 = .ok (.iload_n 2, 1) := by decide +kernel
theorem dX8_go_57 : decode cX8_go 57 = .ok (.iload_n 3, 1) := by decide +kernel
theorem dX8_go_58 : decode cX8_go 58 = .ok (.invokevirtual 126, 3) := by decide +kernel
theorem dX8_go_61 : decode cX8_go 61 = .ok (.istore 4, 2) := by decide +kernel
theorem dX8_go_63 : decode cX8_go 63 = .ok (.iload 4, 2) := by decide +kernel
theorem dX8_go_65 : decode cX8_go 65 = .ok (.ifCond .lt 17, 3) := by decide +kernel
theorem dX8_go_68 : decode cX8_go 68 = .ok (.iload 4, 2) := by decide +kernel
theorem dX8_go_70 : decode cX8_go 70 = .ok (.ifCond .le 15, 3) := by decide +kernel
theorem dX8_go_73 : decode cX8_go 73 = .ok (.aload_n 0, 1) := by decide +kernel
theorem dX8_go_74 : decode cX8_go 74 = .ok (.getfield 13, 3) := by decide +kernel
theorem dX8_go_77 : decode cX8_go 77 = .ok (.iload_n 2, 1) := by decide +kernel
theorem dX8_go_78 : decode cX8_go 78 = .ok (.baload, 1) := by decide +kernel
theorem dX8_go_79 : decode cX8_go 79 = .ok (.ifCond .ne 6, 3) := by decide +kernel
theorem dX8_go_82 : decode cX8_go 82 = .ok (.bipush (-2), 2) := by decide +kernel
theorem dX8_go_84 : decode cX8_go 84 = .ok (.ireturn, 1) := by decide +kernel
theorem dX8_go_85 : decode cX8_go 85 = .ok (.aload_n 0, 1) := by decide +kernel
theorem dX8_go_86 : decode cX8_go 86 = .ok (.bipush 82, 2) := by decide +kernel
theorem dX8_go_88 : decode cX8_go 88 = .ok (.iload_n 2, 1) := by decide +kernel
theorem dX8_go_89 : decode cX8_go 89 = .ok (.iload 4, 2) := by decide +kernel
theorem dX8_go_91 : decode cX8_go 91 = .ok (.invokevirtual 129, 3) := by decide +kernel
theorem dX8_go_94 : decode cX8_go 94 = .ok (.goto 69, 3) := by decide +kernel
theorem dX8_go_97 : decode cX8_go 97 = .ok (.aload_n 0, 1) := by decide +kernel
theorem dX8_go_98 : decode cX8_go 98 = .ok (.getfield 21, 3) := by decide +kernel
theorem dX8_go_101 : decode cX8_go 101 = .ok (.iload_n 1, 1) := by decide +kernel
theorem dX8_go_102 : decode cX8_go 102 = .ok (.iaload, 1) := by decide +kernel
theorem dX8_go_103 : decode cX8_go 103 = .ok (.iconst 1, 1) := by decide +kernel
theorem dX8_go_104 : decode cX8_go 104 = .ok (.if_icmp .ne 59, 3) := by decide +kernel
theorem dX8_go_107 : decode cX8_go 107 = .ok (.aload_n 0, 1) := by decide +kernel
theorem dX8_go_108 : decode cX8_go 108 = .ok (.getfield 42, 3) := by decide +kernel
theorem dX8_go_111 : decode cX8_go 111 = .ok (.sipush 164, 3) := by decide +kernel
theorem dX8_go_114 : decode cX8_go 114 = .ok (.iload_n 2, 1) := by decide +kernel
theorem dX8_go_115 : decode cX8_go 115 = .ok (.iadd, 1) := by decide +kernel
theorem dX8_go_116 : decode cX8_go 116 = .ok (.iaload, 1) := by decide +kernel
theorem dX8_go_117 : decode cX8_go 117 = .ok (.bipush 10, 2) := by decide +kernel
theorem dX8_go_119 : decode cX8_go 119 = .ok (.if_icmp .ne 6, 3) := by decide +kernel
theorem dX8_go_122 : decode cX8_go 122 = .ok (.bipush (-3), 2) := by decide +kernel
theorem dX8_go_124 : decode cX8_go 124 = .ok (.ireturn, 1) := by decide +kernel
theorem dX8_go_125 : decode cX8_go 125 = .ok (.aload_n 0, 1) := by decide +kernel
theorem dX8_go_126 : decode cX8_go 126 = .ok (.bipush 82, 2) := by decide +kernel
theorem dX8_go_128 : decode cX8_go 128 = .ok (.iload_n 2, 1) := by decide +kernel
theorem dX8_go_129 : decode cX8_go 129 = .ok (.aload_n 0, 1) := by decide +kernel
theorem dX8_go_130 : decode cX8_go 130 = .ok (.getfield 13, 3) := by decide +kernel
theorem dX8_go_133 : decode cX8_go 133 = .ok (.iload_n 2, 1) := by decide +kernel
theorem dX8_go_134 : decode cX8_go 134 = .ok (.baload, 1) := by decide +kernel
theorem dX8_go_135 : decode cX8_go 135 = .ok (.ifCond .eq 14, 3) := by decide +kernel
theorem dX8_go_138 : decode cX8_go 138 = .ok (.aload_n 0, 1) := by decide +kernel
theorem dX8_go_139 : decode cX8_go 139 = .ok (.bipush 82, 2) := by decide +kernel
theorem dX8_go_141 : decode cX8_go 141 = .ok (.iload_n 2, 1) := by decide +kernel
theorem dX8_go_142 : decode cX8_go 142 = .ok (.iload_n 3, 1) := by decide +kernel
theorem dX8_go_143 : decode cX8_go 143 = .ok (.invokevirtual 133, 3) := by decide +kernel
theorem dX8_go_146 : decode cX8_go 146 = .ok (.goto 13, 3) := by decide +kernel
theorem dX8_go_149 : decode cX8_go 149 = .ok (.aload_n 0, 1) := by decide +kernel
theorem dX8_go_150 : decode cX8_go 150 = .ok (.getfield 42, 3) := by decide +kernel
theorem dX8_go_153 : decode cX8_go 153 = .ok (.sipush 164, 3) := by decide +kernel
theorem dX8_go_156 : decode cX8_go 156 = .ok (.iload_n 2, 1) := by decide +kernel
theorem dX8_go_157 : decode cX8_go 157 = .ok (.iadd, 1) := by decide +kernel
theorem dX8_go_158 : decode cX8_go 158 = .ok (.iaload, 1) := by decide +kernel
theorem dX8_go_159 : decode cX8_go 159 = .ok (.iload_n 3, 1) := by decide +kernel
theorem dX8_go_160 : decode cX8_go 160 = .ok (.invokevirtual 136, 3) := by decide +kernel
theorem dX8_go_163 : decode cX8_go 163 = .ok (.aload_n 0, 1) := by decide +kernel
theorem dX8_go_164 : decode cX8_go 164 = .ok (.getfield 39, 3) := by decide +kernel
theorem dX8_go_167 : decode cX8_go 167 = .ok (.bipush 82, 2) := by decide +kernel
theorem dX8_go_169 : decode cX8_go 169 = .ok (.aload_n 0, 1) := by decide +kernel
theorem dX8_go_170 : decode cX8_go 170 = .ok (.getfield 30, 3) := by decide +kernel
theorem dX8_go_173 : decode cX8_go 173 = .ok (.iload_n 1, 1) := by decide +kernel
theorem dX8_go_174 : decode cX8_go 174 = .ok (.iaload, 1) := by decide +kernel
theorem dX8_go_175 : decode cX8_go 175 = .ok (.iastore, 1) := by decide +kernel
theorem dX8_go_176 : decode cX8_go 176 = .ok (.aload_n 0, 1) := by decide +kernel
theorem dX8_go_177 : decode cX8_go 177 = .ok (.getfield 39, 3) := by decide +kernel
theorem dX8_go_180 : decode cX8_go 180 = .ok (.bipush 82, 2) := by decide +kernel
theorem dX8_go_182 : decode cX8_go 182 = .ok (.iaload, 1) := by decide +kernel
theorem dX8_go_183 : decode cX8_go 183 = .ok (.ireturn, 1) := by decide +kernel
set_option maxRecDepth 20000 in
theorem ggX8_lose_X8_in : GoodIn wsX8_lose wsX8_in := goodIn_r _ [6] (by decide +kernel) (by decide +kernel)
set_option maxRecDepth 20000 in
theorem gX8_lose_X8_in : GoodIn wsX8_lose (va_wsS RX8 73 yX8_in wsX8_in) := goodIn_app (goodIn_of _ (by decide +kernel)) ggX8_lose_X8_in
set_option maxRecDepth 20000 in
theorem ggX8_lose_X8_spot : GoodIn wsX8_lose wsX8_spot := goodIn_r _ [9] (by decide +kernel) (by decide +kernel)
set_option maxRecDepth 20000 in
theorem gX8_lose_X8_spot : GoodIn wsX8_lose (va_wsS RX8 122 yX8_spot wsX8_spot) := goodIn_app (goodIn_of _ (by decide +kernel)) ggX8_lose_X8_spot
set_option maxRecDepth 20000 in
theorem ggX8_lose_X8_takeOut : GoodIn wsX8_lose wsX8_takeOut := goodIn_r _ [13, 1, 2, 7, 8, 5, 9, 14, 15, 16, 17, 18, 19, 20, 21, 22, 23, 24, 25, 26, 27, 28, 29, 30, 31, 32, 33, 34, 35, 36, 37, 38] (by decide +kernel) (by decide +kernel)
set_option maxRecDepth 20000 in
theorem gX8_lose_X8_takeOut : GoodIn wsX8_lose (wsV RX8 129 RX8 yX8_takeOut wsX8_takeOut) := goodIn_app (goodIn_of _ (by decide +kernel)) ggX8_lose_X8_takeOut
theorem dX8_lose_0 : decode cX8_lose 0 = .ok (.iload_n 1, 1) := by decide +kernel
theorem dX8_lose_1 : decode cX8_lose 1 = .ok (.iconst 0, 1) := by decide +kernel
theorem dX8_lose_2 : decode cX8_lose 2 = .ok (.iconst 1, 1) := by decide +kernel
theorem dX8_lose_3 : decode cX8_lose 3 = .ok (.invokestatic 73, 3) := by decide +kernel
theorem dX8_lose_6 : decode cX8_lose 6 = .ok (.ifCond .eq 23, 3) := by decide +kernel
theorem dX8_lose_9 : decode cX8_lose 9 = .ok (.iload_n 2, 1) := by decide +kernel
theorem dX8_lose_10 : decode cX8_lose 10 = .ok (.iconst 0, 1) := by decide +kernel
theorem dX8_lose_11 : decode cX8_lose 11 = .ok (.aload_n 0, 1) := by decide +kernel
theorem dX8_lose_12 : decode cX8_lose 12 = .ok (.getfield 42, 3) := by decide +kernel
theorem dX8_lose_15 : decode cX8_lose 15 = .ok (.sipush 164, 3) := by decide +kernel
theorem dX8_lose_18 : decode cX8_lose 18 = .ok (.iload_n 1, 1) := by decide +kernel
theorem dX8_lose_19 : decode cX8_lose 19 = .ok (.iadd, 1) := by decide +kernel
theorem dX8_lose_20 : decode cX8_lose 20 = .ok (.iaload, 1) := by decide +kernel
theorem dX8_lose_21 : decode cX8_lose 21 = .ok (.iconst 1, 1) := by decide +kernel
theorem dX8_lose_22 : decode cX8_lose 22 = .ok (.isub, 1) := by decide +kernel
theorem dX8_lose_23 : decode cX8_lose 23 = .ok (.invokestatic 73, 3) := by decide +kernel
theorem dX8_lose_26 : decode cX8_lose 26 = .ok (.ifCond .ne 5, 3) := by decide +kernel
theorem dX8_lose_29 : decode cX8_lose 29 = .ok (.iconst (-1), 1) := by decide +kernel
theorem dX8_lose_30 : decode cX8_lose 30 = .ok (.ireturn, 1) := by decide +kernel
theorem dX8_lose_31 : decode cX8_lose 31 = .ok (.aload_n 0, 1) := by decide +kernel
theorem dX8_lose_32 : decode cX8_lose 32 = .ok (.getfield 45, 3) := by decide +kernel
theorem dX8_lose_35 : decode cX8_lose 35 = .ok (.bipush 82, 2) := by decide +kernel
theorem dX8_lose_37 : decode cX8_lose 37 = .ok (.iload_n 1, 1) := by decide +kernel
theorem dX8_lose_38 : decode cX8_lose 38 = .ok (.iload_n 2, 1) := by decide +kernel
theorem dX8_lose_39 : decode cX8_lose 39 = .ok (.invokestatic 122, 3) := by decide +kernel
theorem dX8_lose_42 : decode cX8_lose 42 = .ok (.iaload, 1) := by decide +kernel
theorem dX8_lose_43 : decode cX8_lose 43 = .ok (.istore_n 3, 1) := by decide +kernel
theorem dX8_lose_44 : decode cX8_lose 44 = .ok (.aload_n 0, 1) := by decide +kernel
theorem dX8_lose_45 : decode cX8_lose 45 = .ok (.bipush 82, 2) := by decide +kernel
theorem dX8_lose_47 : decode cX8_lose 47 = .ok (.iload_n 1, 1) := by decide +kernel
theorem dX8_lose_48 : decode cX8_lose 48 = .ok (.iload_n 2, 1) := by decide +kernel
theorem dX8_lose_49 : decode cX8_lose 49 = .ok (.invokevirtual 129, 3) := by decide +kernel
theorem dX8_lose_52 : decode cX8_lose 52 = .ok (.iload_n 3, 1) := by decide +kernel
theorem dX8_lose_53 : decode cX8_lose 53 = .ok (.ireturn, 1) := by decide +kernel
set_option maxRecDepth 20000 in
theorem ggX8_now_X8_in : GoodIn wsX8_now wsX8_in := goodIn_r _ [7] (by decide +kernel) (by decide +kernel)
set_option maxRecDepth 20000 in
theorem gX8_now_X8_in : GoodIn wsX8_now (va_wsS RX8 73 yX8_in wsX8_in) := goodIn_app (goodIn_of _ (by decide +kernel)) ggX8_now_X8_in
set_option maxRecDepth 20000 in
theorem ggX8_now_X8_spot : GoodIn wsX8_now wsX8_spot := goodIn_r _ [10] (by decide +kernel) (by decide +kernel)
set_option maxRecDepth 20000 in
theorem gX8_now_X8_spot : GoodIn wsX8_now (va_wsS RX8 122 yX8_spot wsX8_spot) := goodIn_app (goodIn_of _ (by decide +kernel)) ggX8_now_X8_spot
theorem dX8_now_0 : decode cX8_now 0 = .ok (.iload_n 2, 1) := by decide +kernel
theorem dX8_now_1 : decode cX8_now 1 = .ok (.bipush (-2), 2) := by decide +kernel
theorem dX8_now_3 : decode cX8_now 3 = .ok (.if_icmp .ne 11, 3) := by decide +kernel
theorem dX8_now_6 : decode cX8_now 6 = .ok (.aload_n 0, 1) := by decide +kernel
theorem dX8_now_7 : decode cX8_now 7 = .ok (.getfield 39, 3) := by decide +kernel
theorem dX8_now_10 : decode cX8_now 10 = .ok (.bipush 82, 2) := by decide +kernel
theorem dX8_now_12 : decode cX8_now 12 = .ok (.iaload, 1) := by decide +kernel
theorem dX8_now_13 : decode cX8_now 13 = .ok (.ireturn, 1) := by decide +kernel
theorem dX8_now_14 : decode cX8_now 14 = .ok (.iload_n 1, 1) := by decide +kernel
theorem dX8_now_15 : decode cX8_now 15 = .ok (.iconst 0, 1) := by decide +kernel
theorem dX8_now_16 : decode cX8_now 16 = .ok (.iconst 1, 1) := by decide +kernel
theorem dX8_now_17 : decode cX8_now 17 = .ok (.invokestatic 73, 3) := by decide +kernel
theorem dX8_now_20 : decode cX8_now 20 = .ok (.ifCond .eq 23, 3) := by decide +kernel
theorem dX8_now_23 : decode cX8_now 23 = .ok (.iload_n 2, 1) := by decide +kernel
theorem dX8_now_24 : decode cX8_now 24 = .ok (.iconst (-1), 1) := by decide +kernel
theorem dX8_now_25 : decode cX8_now 25 = .ok (.aload_n 0, 1) := by decide +kernel
theorem dX8_now_26 : decode cX8_now 26 = .ok (.getfield 42, 3) := by decide +kernel
theorem dX8_now_29 : decode cX8_now 29 = .ok (.sipush 164, 3) := by decide +kernel
theorem dX8_now_32 : decode cX8_now 32 = .ok (.iload_n 1, 1) := by decide +kernel
theorem dX8_now_33 : decode cX8_now 33 = .ok (.iadd, 1) := by decide +kernel
theorem dX8_now_34 : decode cX8_now 34 = .ok (.iaload, 1) := by decide +kernel
theorem dX8_now_35 : decode cX8_now 35 = .ok (.iconst 1, 1) := by decide +kernel
theorem dX8_now_36 : decode cX8_now 36 = .ok (.isub, 1) := by decide +kernel
theorem dX8_now_37 : decode cX8_now 37 = .ok (.invokestatic 73, 3) := by decide +kernel
theorem dX8_now_40 : decode cX8_now 40 = .ok (.ifCond .ne 5, 3) := by decide +kernel
theorem dX8_now_43 : decode cX8_now 43 = .ok (.iconst (-1), 1) := by decide +kernel
theorem dX8_now_44 : decode cX8_now 44 = .ok (.ireturn, 1) := by decide +kernel
theorem dX8_now_45 : decode cX8_now 45 = .ok (.iload_n 2, 1) := by decide +kernel
theorem dX8_now_46 : decode cX8_now 46 = .ok (.iconst (-1), 1) := by decide +kernel
theorem dX8_now_47 : decode cX8_now 47 = .ok (.if_icmp .ne 16, 3) := by decide +kernel
theorem dX8_now_50 : decode cX8_now 50 = .ok (.aload_n 0, 1) := by decide +kernel
theorem dX8_now_51 : decode cX8_now 51 = .ok (.getfield 42, 3) := by decide +kernel
theorem dX8_now_54 : decode cX8_now 54 = .ok (.sipush 164, 3) := by decide +kernel
theorem dX8_now_57 : decode cX8_now 57 = .ok (.iload_n 1, 1) := by decide +kernel
theorem dX8_now_58 : decode cX8_now 58 = .ok (.iadd, 1) := by decide +kernel
theorem dX8_now_59 : decode cX8_now 59 = .ok (.iaload, 1) := by decide +kernel
theorem dX8_now_60 : decode cX8_now 60 = .ok (.goto 15, 3) := by decide +kernel
theorem dX8_now_63 : decode cX8_now 63 = .ok (.aload_n 0, 1) := by decide +kernel
theorem dX8_now_64 : decode cX8_now 64 = .ok (.getfield 45, 3) := by decide +kernel
theorem dX8_now_67 : decode cX8_now 67 = .ok (.bipush 82, 2) := by decide +kernel
theorem dX8_now_69 : decode cX8_now 69 = .ok (.iload_n 1, 1) := by decide +kernel
theorem dX8_now_70 : decode cX8_now 70 = .ok (.iload_n 2, 1) := by decide +kernel
theorem dX8_now_71 : decode cX8_now 71 = .ok (.invokestatic 122, 3) := by decide +kernel
theorem dX8_now_74 : decode cX8_now 74 = .ok (.iaload, 1) := by decide +kernel
theorem dX8_now_75 : decode cX8_now 75 = .ok (.ireturn, 1) := by decide +kernel
set_option maxRecDepth 20000 in
theorem ggX8_reset_X8_empty : GoodIn wsX8_reset wsX8_empty := goodIn_r _ [5, 6, 7, 8, 9, 10, 11, 12, 13, 14, 15, 16, 17, 18, 19, 20, 21, 22, 23, 24, 25, 26, 27, 28, 29, 30, 31, 32] (by decide +kernel) (by decide +kernel)
set_option maxRecDepth 20000 in
theorem gX8_reset_X8_empty : GoodIn wsX8_reset (wsV RX8 80 RX8 yX8_empty wsX8_empty) := goodIn_app (goodIn_of _ (by decide +kernel)) ggX8_reset_X8_empty
theorem dX8_reset_0 : decode cX8_reset 0 = .ok (.aload_n 0, 1) := by decide +kernel
theorem dX8_reset_1 : decode cX8_reset 1 = .ok (.bipush 82, 2) := by decide +kernel
theorem dX8_reset_3 : decode cX8_reset 3 = .ok (.iconst 0, 1) := by decide +kernel
theorem dX8_reset_4 : decode cX8_reset 4 = .ok (.invokevirtual 80, 3) := by decide +kernel
theorem dX8_reset_7 : decode cX8_reset 7 = .ok (.iconst 1, 1) := by decide +kernel
theorem dX8_reset_8 : decode cX8_reset 8 = .ok (.ireturn, 1) := by decide +kernel
set_option maxRecDepth 20000 in
theorem ggX8_aim_X8_isState : GoodIn wsX8_aim wsX8_isState := goodIn_r _ [5, 6, 7, 8, 4, 9, 16, 17, 18, 19, 20, 21, 22, 23, 24, 25, 26, 27, 28, 29, 30, 31, 32, 33, 34, 35, 36, 37, 38, 39, 40] (by decide +kernel) (by decide +kernel)
set_option maxRecDepth 20000 in
theorem gX8_aim_X8_isState : GoodIn wsX8_aim (wsV RX8 84 RX8 yX8_isState wsX8_isState) := goodIn_app (goodIn_of _ (by decide +kernel)) ggX8_aim_X8_isState
set_option maxRecDepth 20000 in
theorem ggX8_aim_X8_empty : GoodIn wsX8_aim wsX8_empty := goodIn_r _ [13, 14, 15, 16, 17, 18, 19, 20, 21, 22, 23, 24, 25, 26, 27, 28, 29, 30, 31, 32, 33, 34, 35, 36, 37, 38, 39, 40] (by decide +kernel) (by decide +kernel)
set_option maxRecDepth 20000 in
theorem gX8_aim_X8_empty : GoodIn wsX8_aim (wsV RX8 80 RX8 yX8_empty wsX8_empty) := goodIn_app (goodIn_of _ (by decide +kernel)) ggX8_aim_X8_empty
theorem dX8_aim_0 : decode cX8_aim 0 = .ok (.aload_n 0, 1) := by decide +kernel
theorem dX8_aim_1 : decode cX8_aim 1 = .ok (.iload_n 1, 1) := by decide +kernel
theorem dX8_aim_2 : decode cX8_aim 2 = .ok (.invokevirtual 84, 3) := by decide +kernel
theorem dX8_aim_5 : decode cX8_aim 5 = .ok (.ifCond .ne 5, 3) := by decide +kernel
theorem dX8_aim_8 : decode cX8_aim 8 = .ok (.iconst (-1), 1) := by decide +kernel
theorem dX8_aim_9 : decode cX8_aim 9 = .ok (.ireturn, 1) := by decide +kernel
theorem dX8_aim_10 : decode cX8_aim 10 = .ok (.aload_n 0, 1) := by decide +kernel
theorem dX8_aim_11 : decode cX8_aim 11 = .ok (.bipush 81, 2) := by decide +kernel
theorem dX8_aim_13 : decode cX8_aim 13 = .ok (.iload_n 1, 1) := by decide +kernel
theorem dX8_aim_14 : decode cX8_aim 14 = .ok (.invokevirtual 80, 3) := by decide +kernel
theorem dX8_aim_17 : decode cX8_aim 17 = .ok (.iconst 1, 1) := by decide +kernel
theorem dX8_aim_18 : decode cX8_aim 18 = .ok (.ireturn, 1) := by decide +kernel
set_option maxRecDepth 20000 in
theorem ggX8_want_X8_in : GoodIn wsX8_want wsX8_in := goodIn_r _ [6] (by decide +kernel) (by decide +kernel)
set_option maxRecDepth 20000 in
theorem gX8_want_X8_in : GoodIn wsX8_want (va_wsS RX8 73 yX8_in wsX8_in) := goodIn_app (goodIn_of _ (by decide +kernel)) ggX8_want_X8_in
end
section
set_option maxRecDepth 20000 in
theorem ggX8_want_X8_inOrder : GoodIn wsX8_want wsX8_inOrder := goodIn_r _ [10, 1, 11, 12, 13, 5, 14, 19, 20, 21, 22, 23, 24, 25, 26, 27, 28, 29, 30, 31, 32, 33, 34, 35, 36, 37, 38, 39, 40, 41, 42, 43] (by decide +kernel) (by decide +kernel)
set_option maxRecDepth 20000 in
theorem gX8_want_X8_inOrder : GoodIn wsX8_want (wsV RX8 133 RX8 yX8_inOrder wsX8_inOrder) := goodIn_app (goodIn_of _ (by decide +kernel)) ggX8_want_X8_inOrder
set_option maxRecDepth 20000 in
theorem ggX8_want_X8_putIn : GoodIn wsX8_want wsX8_putIn := goodIn_r _ [18, 1, 11, 12, 13, 5, 14, 19, 20, 21, 22, 23, 24, 25, 26, 27, 28, 29, 30, 31, 32, 33, 34, 35, 36, 37, 38, 39, 40, 41, 42, 43] (by decide +kernel) (by decide +kernel)
set_option maxRecDepth 20000 in
theorem gX8_want_X8_putIn : GoodIn wsX8_want (wsV RX8 136 RX8 yX8_putIn wsX8_putIn) := goodIn_app (goodIn_of _ (by decide +kernel)) ggX8_want_X8_putIn
theorem dX8_want_0 : decode cX8_want 0 = .ok (.iload_n 1, 1) := by decide +kernel
theorem dX8_want_1 : decode cX8_want 1 = .ok (.iconst 0, 1) := by decide +kernel
theorem dX8_want_2 : decode cX8_want 2 = .ok (.iconst 1, 1) := by decide +kernel
theorem dX8_want_3 : decode cX8_want 3 = .ok (.invokestatic 73, 3) := by decide +kernel
theorem dX8_want_6 : decode cX8_want 6 = .ok (.ifCond .eq 12, 3) := by decide +kernel
theorem dX8_want_9 : decode cX8_want 9 = .ok (.iload_n 2, 1) := by decide +kernel
theorem dX8_want_10 : decode cX8_want 10 = .ok (.iconst 0, 1) := by decide +kernel
theorem dX8_want_11 : decode cX8_want 11 = .ok (.iconst 2, 1) := by decide +kernel
theorem dX8_want_12 : decode cX8_want 12 = .ok (.invokestatic 73, 3) := by decide +kernel
theorem dX8_want_15 : decode cX8_want 15 = .ok (.ifCond .ne 5, 3) := by decide +kernel
theorem dX8_want_18 : decode cX8_want 18 = .ok (.iconst (-1), 1) := by decide +kernel
theorem dX8_want_19 : decode cX8_want 19 = .ok (.ireturn, 1) := by decide +kernel
theorem dX8_want_20 : decode cX8_want 20 = .ok (.aload_n 0, 1) := by decide +kernel
theorem dX8_want_21 : decode cX8_want 21 = .ok (.getfield 42, 3) := by decide +kernel
theorem dX8_want_24 : decode cX8_want 24 = .ok (.sipush 162, 3) := by decide +kernel
theorem dX8_want_27 : decode cX8_want 27 = .ok (.iload_n 1, 1) := by decide +kernel
theorem dX8_want_28 : decode cX8_want 28 = .ok (.iadd, 1) := by decide +kernel
theorem dX8_want_29 : decode cX8_want 29 = .ok (.iaload, 1) := by decide +kernel
theorem dX8_want_30 : decode cX8_want 30 = .ok (.bipush 10, 2) := by decide +kernel
theorem dX8_want_32 : decode cX8_want 32 = .ok (.if_icmp .ne 6, 3) := by decide +kernel
theorem dX8_want_35 : decode cX8_want 35 = .ok (.bipush (-3), 2) := by decide +kernel
theorem dX8_want_37 : decode cX8_want 37 = .ok (.ireturn, 1) := by decide +kernel
theorem dX8_want_38 : decode cX8_want 38 = .ok (.aload_n 0, 1) := by decide +kernel
theorem dX8_want_39 : decode cX8_want 39 = .ok (.bipush 81, 2) := by decide +kernel
theorem dX8_want_41 : decode cX8_want 41 = .ok (.iload_n 1, 1) := by decide +kernel
theorem dX8_want_42 : decode cX8_want 42 = .ok (.aload_n 0, 1) := by decide +kernel
theorem dX8_want_43 : decode cX8_want 43 = .ok (.getfield 13, 3) := by decide +kernel
theorem dX8_want_46 : decode cX8_want 46 = .ok (.iload_n 1, 1) := by decide +kernel
theorem dX8_want_47 : decode cX8_want 47 = .ok (.baload, 1) := by decide +kernel
theorem dX8_want_48 : decode cX8_want 48 = .ok (.ifCond .eq 14, 3) := by decide +kernel
theorem dX8_want_51 : decode cX8_want 51 = .ok (.aload_n 0, 1) := by decide +kernel
theorem dX8_want_52 : decode cX8_want 52 = .ok (.bipush 81, 2) := by decide +kernel
theorem dX8_want_54 : decode cX8_want 54 = .ok (.iload_n 1, 1) := by decide +kernel
theorem dX8_want_55 : decode cX8_want 55 = .ok (.iload_n 2, 1) := by decide +kernel
theorem dX8_want_56 : decode cX8_want 56 = .ok (.invokevirtual 133, 3) := by decide +kernel
theorem dX8_want_59 : decode cX8_want 59 = .ok (.goto 13, 3) := by decide +kernel
theorem dX8_want_62 : decode cX8_want 62 = .ok (.aload_n 0, 1) := by decide +kernel
theorem dX8_want_63 : decode cX8_want 63 = .ok (.getfield 42, 3) := by decide +kernel
theorem dX8_want_66 : decode cX8_want 66 = .ok (.sipush 162, 3) := by decide +kernel
theorem dX8_want_69 : decode cX8_want 69 = .ok (.iload_n 1, 1) := by decide +kernel
theorem dX8_want_70 : decode cX8_want 70 = .ok (.iadd, 1) := by decide +kernel
theorem dX8_want_71 : decode cX8_want 71 = .ok (.iaload, 1) := by decide +kernel
theorem dX8_want_72 : decode cX8_want 72 = .ok (.iload_n 2, 1) := by decide +kernel
theorem dX8_want_73 : decode cX8_want 73 = .ok (.invokevirtual 136, 3) := by decide +kernel
theorem dX8_want_76 : decode cX8_want 76 = .ok (.aload_n 0, 1) := by decide +kernel
theorem dX8_want_77 : decode cX8_want 77 = .ok (.getfield 42, 3) := by decide +kernel
theorem dX8_want_80 : decode cX8_want 80 = .ok (.sipush 162, 3) := by decide +kernel
theorem dX8_want_83 : decode cX8_want 83 = .ok (.iload_n 1, 1) := by decide +kernel
theorem dX8_want_84 : decode cX8_want 84 = .ok (.iadd, 1) := by decide +kernel
theorem dX8_want_85 : decode cX8_want 85 = .ok (.iaload, 1) := by decide +kernel
theorem dX8_want_86 : decode cX8_want 86 = .ok (.ireturn, 1) := by decide +kernel
set_option maxRecDepth 20000 in
theorem ggX8_ahead_X8_copy : GoodIn wsX8_ahead wsX8_copy := goodIn_r _ [13, 1, 5, 8, 14, 15, 12, 16, 33, 34, 35, 36, 37, 38, 39, 40, 41, 42, 43, 44, 45, 46, 47, 48, 49, 50, 51, 52, 53, 54, 55, 56, 57] (by decide +kernel) (by decide +kernel)
set_option maxRecDepth 20000 in
theorem gX8_ahead_X8_copy : GoodIn wsX8_ahead (wsV RX8 140 RX8 yX8_copy wsX8_copy) := goodIn_app (goodIn_of _ (by decide +kernel)) ggX8_ahead_X8_copy
set_option maxRecDepth 20000 in
theorem ggX8_ahead_X8_inOrder : GoodIn wsX8_ahead wsX8_inOrder := goodIn_r _ [20, 5, 8, 14, 15, 12, 16, 33, 34, 35, 36, 37, 38, 39, 40, 41, 42, 43, 44, 45, 46, 47, 48, 49, 50, 51, 52, 53, 54, 55, 56, 57] (by decide +kernel) (by decide +kernel)
set_option maxRecDepth 20000 in
theorem gX8_ahead_X8_inOrder : GoodIn wsX8_ahead (wsV RX8 133 RX8 yX8_inOrder wsX8_inOrder) := goodIn_app (goodIn_of _ (by decide +kernel)) ggX8_ahead_X8_inOrder
set_option maxRecDepth 20000 in
theorem ggX8_ahead_X8_putIn : GoodIn wsX8_ahead wsX8_putIn := goodIn_r _ [24, 5, 8, 14, 15, 12, 16, 33, 34, 35, 36, 37, 38, 39, 40, 41, 42, 43, 44, 45, 46, 47, 48, 49, 50, 51, 52, 53, 54, 55, 56, 57] (by decide +kernel) (by decide +kernel)
set_option maxRecDepth 20000 in
theorem gX8_ahead_X8_putIn : GoodIn wsX8_ahead (wsV RX8 136 RX8 yX8_putIn wsX8_putIn) := goodIn_app (goodIn_of _ (by decide +kernel)) ggX8_ahead_X8_putIn
set_option maxRecDepth 20000 in
theorem ggX8_ahead_X8_firstOf : GoodIn wsX8_ahead wsX8_firstOf := goodIn_r _ [28, 5, 8, 14, 15, 12, 16, 33, 34, 35, 36, 37, 38, 39, 40, 41, 42, 43, 44, 45, 46, 47, 48, 49, 50, 51, 52, 53, 54, 55, 56, 57] (by decide +kernel) (by decide +kernel)
set_option maxRecDepth 20000 in
theorem gX8_ahead_X8_firstOf : GoodIn wsX8_ahead (wsV RX8 126 RX8 yX8_firstOf wsX8_firstOf) := goodIn_app (goodIn_of _ (by decide +kernel)) ggX8_ahead_X8_firstOf
set_option maxRecDepth 20000 in
theorem ggX8_ahead_X8_spot : GoodIn wsX8_ahead wsX8_spot := goodIn_r _ [16] (by decide +kernel) (by decide +kernel)
set_option maxRecDepth 20000 in
theorem gX8_ahead_X8_spot : GoodIn wsX8_ahead (va_wsS RX8 122 yX8_spot wsX8_spot) := goodIn_app (goodIn_of _ (by decide +kernel)) ggX8_ahead_X8_spot
set_option maxRecDepth 20000 in
theorem ggX8_ahead_X8_takeOut : GoodIn wsX8_ahead wsX8_takeOut := goodIn_r _ [32, 5, 8, 14, 15, 12, 16, 33, 34, 35, 36, 37, 38, 39, 40, 41, 42, 43, 44, 45, 46, 47, 48, 49, 50, 51, 52, 53, 54, 55, 56, 57] (by decide +kernel) (by decide +kernel)
set_option maxRecDepth 20000 in
theorem gX8_ahead_X8_takeOut : GoodIn wsX8_ahead (wsV RX8 129 RX8 yX8_takeOut wsX8_takeOut) := goodIn_app (goodIn_of _ (by decide +kernel)) ggX8_ahead_X8_takeOut
theorem dX8_ahead_0 : decode cX8_ahead 0 = .ok (.aload_n 0, 1) := by decide +kernel
theorem dX8_ahead_1 : decode cX8_ahead 1 = .ok (.iload_n 1, 1) := by decide +kernel
theorem dX8_ahead_2 : decode cX8_ahead 2 = .ok (.bipush 80, 2) := by decide +kernel
theorem dX8_ahead_4 : decode cX8_ahead 4 = .ok (.invokevirtual 140, 3) := by decide +kernel
theorem dX8_ahead_7 : decode cX8_ahead 7 = .ok (.aload_n 0, 1) := by decide +kernel
theorem dX8_ahead_8 : decode cX8_ahead 8 = .ok (.getfield 39, 3) := by decide +kernel
theorem dX8_ahead_11 : decode cX8_ahead 11 = .ok (.bipush 80, 2) := by decide +kernel
theorem dX8_ahead_13 : decode cX8_ahead 13 = .ok (.aload_n 0, 1) := by decide +kernel
theorem dX8_ahead_14 : decode cX8_ahead 14 = .ok (.getfield 17, 3) := by decide +kernel
theorem dX8_ahead_17 : decode cX8_ahead 17 = .ok (.iload_n 2, 1) := by decide +kernel
theorem dX8_ahead_18 : decode cX8_ahead 18 = .ok (.iaload, 1) := by decide +kernel
theorem dX8_ahead_19 : decode cX8_ahead 19 = .ok (.iastore, 1) := by decide +kernel
theorem dX8_ahead_20 : decode cX8_ahead 20 = .ok (.aload_n 0, 1) := by decide +kernel
theorem dX8_ahead_21 : decode cX8_ahead 21 = .ok (.getfield 24, 3) := by decide +kernel
theorem dX8_ahead_24 : decode cX8_ahead 24 = .ok (.iload_n 2, 1) := by decide +kernel
theorem dX8_ahead_25 : decode cX8_ahead 25 = .ok (.iaload, 1) := by decide +kernel
theorem dX8_ahead_26 : decode cX8_ahead 26 = .ok (.istore_n 3, 1) := by decide +kernel
theorem dX8_ahead_27 : decode cX8_ahead 27 = .ok (.aload_n 0, 1) := by decide +kernel
theorem dX8_ahead_28 : decode cX8_ahead 28 = .ok (.getfield 27, 3) := by decide +kernel
theorem dX8_ahead_31 : decode cX8_ahead 31 = .ok (.iload_n 2, 1) := by decide +kernel
theorem dX8_ahead_32 : decode cX8_ahead 32 = .ok (.iaload, 1) := by decide +kernel
theorem dX8_ahead_33 : decode cX8_ahead 33 = .ok (.istore 4, 2) := by decide +kernel
theorem dX8_ahead_35 : decode cX8_ahead 35 = .ok (.aload_n 0, 1) := by decide +kernel
theorem dX8_ahead_36 : decode cX8_ahead 36 = .ok (.getfield 42, 3) := by decide +kernel
theorem dX8_ahead_39 : decode cX8_ahead 39 = .ok (.sipush 160, 3) := by decide +kernel
theorem dX8_ahead_42 : decode cX8_ahead 42 = .ok (.iload_n 3, 1) := by decide +kernel
theorem dX8_ahead_43 : decode cX8_ahead 43 = .ok (.iadd, 1) := by decide +kernel
theorem dX8_ahead_44 : decode cX8_ahead 44 = .ok (.iaload, 1) := by decide +kernel
theorem dX8_ahead_45 : decode cX8_ahead 45 = .ok (.istore 5, 2) := by decide +kernel
theorem dX8_ahead_47 : decode cX8_ahead 47 = .ok (.aload_n 0, 1) := by decide +kernel
theorem dX8_ahead_48 : decode cX8_ahead 48 = .ok (.getfield 21, 3) := by decide +kernel
theorem dX8_ahead_51 : decode cX8_ahead 51 = .ok (.iload_n 2, 1) := by decide +kernel
theorem dX8_ahead_52 : decode cX8_ahead 52 = .ok (.iaload, 1) := by decide +kernel
theorem dX8_ahead_53 : decode cX8_ahead 53 = .ok (.iconst 2, 1) := by decide +kernel
theorem dX8_ahead_54 : decode cX8_ahead 54 = .ok (.if_icmp .ne 37, 3) := by decide +kernel
theorem dX8_ahead_57 : decode cX8_ahead 57 = .ok (.aload_n 0, 1) := by decide +kernel
theorem dX8_ahead_58 : decode cX8_ahead 58 = .ok (.bipush 80, 2) := by decide +kernel
theorem dX8_ahead_60 : decode cX8_ahead 60 = .ok (.iload_n 3, 1) := by decide +kernel
theorem dX8_ahead_61 : decode cX8_ahead 61 = .ok (.aload_n 0, 1) := by decide +kernel
theorem dX8_ahead_62 : decode cX8_ahead 62 = .ok (.getfield 13, 3) := by decide +kernel
theorem dX8_ahead_65 : decode cX8_ahead 65 = .ok (.iload_n 3, 1) := by decide +kernel
theorem dX8_ahead_66 : decode cX8_ahead 66 = .ok (.baload, 1) := by decide +kernel
theorem dX8_ahead_67 : decode cX8_ahead 67 = .ok (.ifCond .eq 15, 3) := by decide +kernel
theorem dX8_ahead_70 : decode cX8_ahead 70 = .ok (.aload_n 0, 1) := by decide +kernel
theorem dX8_ahead_71 : decode cX8_ahead 71 = .ok (.bipush 80, 2) := by decide +kernel
theorem dX8_ahead_73 : decode cX8_ahead 73 = .ok (.iload_n 3, 1) := by decide +kernel
theorem dX8_ahead_74 : decode cX8_ahead 74 = .ok (.iload 4, 2) := by decide +kernel
theorem dX8_ahead_76 : decode cX8_ahead 76 = .ok (.invokevirtual 133, 3) := by decide +kernel
theorem dX8_ahead_79 : decode cX8_ahead 79 = .ok (.goto 4, 3) := by decide +kernel
theorem dX8_ahead_82 : decode cX8_ahead 82 = .ok (.iconst 0, 1) := by decide +kernel
theorem dX8_ahead_83 : decode cX8_ahead 83 = .ok (.iload 4, 2) := by decide +kernel
theorem dX8_ahead_85 : decode cX8_ahead 85 = .ok (.invokevirtual 136, 3) := by decide +kernel
theorem dX8_ahead_88 : decode cX8_ahead 88 = .ok (.goto 83, 3) := by decide +kernel
theorem dX8_ahead_91 : decode cX8_ahead 91 = .ok (.aload_n 0, 1) := by decide +kernel
theorem dX8_ahead_92 : decode cX8_ahead 92 = .ok (.getfield 21, 3) := by decide +kernel
theorem dX8_ahead_95 : decode cX8_ahead 95 = .ok (.iload_n 2, 1) := by decide +kernel
theorem dX8_ahead_96 : decode cX8_ahead 96 = .ok (.iaload, 1) := by decide +kernel
theorem dX8_ahead_97 : decode cX8_ahead 97 = .ok (.iconst 1, 1) := by decide +kernel
theorem dX8_ahead_98 : decode cX8_ahead 98 = .ok (.if_icmp .ne 73, 3) := by decide +kernel
theorem dX8_ahead_101 : decode cX8_ahead 101 = .ok (.aload_n 0, 1) := by decide +kernel
theorem dX8_ahead_102 : decode cX8_ahead 102 = .ok (.getfield 13, 3) := by decide +kernel
theorem dX8_ahead_105 : decode cX8_ahead 105 = .ok (.iload_n 3, 1) := by decide +kernel
theorem dX8_ahead_106 : decode cX8_ahead 106 = .ok (.baload, 1) := by decide +kernel
theorem dX8_ahead_107 : decode cX8_ahead 107 = .ok (.ifCond .eq 15, 3) := by decide +kernel
theorem dX8_ahead_110 : decode cX8_ahead 110 = .ok (.aload_n 0, 1) := by decide +kernel
theorem dX8_ahead_111 : decode cX8_ahead 111 = .ok (.bipush 80, 2) := by decide +kernel
theorem dX8_ahead_113 : decode cX8_ahead 113 = .ok (.iload_n 3, 1) := by decide +kernel
theorem dX8_ahead_114 : decode cX8_ahead 114 = .ok (.iload 4, 2) := by decide +kernel
theorem dX8_ahead_116 : decode cX8_ahead 116 = .ok (.invokevirtual 126, 3) := by decide +kernel
theorem dX8_ahead_119 : decode cX8_ahead 119 = .ok (.goto 36, 3) := by decide +kernel
theorem dX8_ahead_122 : decode cX8_ahead 122 = .ok (.iload 5, 2) := by decide +kernel
theorem dX8_ahead_124 : decode cX8_ahead 124 = .ok (.ifCond .le 30, 3) := by decide +kernel
theorem dX8_ahead_127 : decode cX8_ahead 127 = .ok (.aload_n 0, 1) := by decide +kernel
theorem dX8_ahead_128 : decode cX8_ahead 128 = .ok (.getfield 45, 3) := by decide +kernel
theorem dX8_ahead_131 : decode cX8_ahead 131 = .ok (.bipush 80, 2) := by decide +kernel
theorem dX8_ahead_133 : decode cX8_ahead 133 = .ok (.iload_n 3, 1) := by decide +kernel
theorem dX8_ahead_134 : decode cX8_ahead 134 = .ok (.iload 5, 2) := by decide +kernel
theorem dX8_ahead_136 : decode cX8_ahead 136 = .ok (.iconst 1, 1) := by decide +kernel
theorem dX8_ahead_137 : decode cX8_ahead 137 = .ok (.isub, 1) := by decide +kernel
theorem dX8_ahead_138 : decode cX8_ahead 138 = .ok (.invokestatic 122, 3) := by decide +kernel
theorem dX8_ahead_141 : decode cX8_ahead 141 = .ok (.iaload, 1) := by decide +kernel
theorem dX8_ahead_142 : decode cX8_ahead 142 = .ok (.iload 4, 2) := by decide +kernel
theorem dX8_ahead_144 : decode cX8_ahead 144 = .ok (.if_icmp .ne 10, 3) := by decide +kernel
theorem dX8_ahead_147 : decode cX8_ahead 147 = .ok (.iload 5, 2) := by decide +kernel
theorem dX8_ahead_149 : decode cX8_ahead 149 = .ok (.iconst 1, 1) := by decide +kernel
theorem dX8_ahead_150 : decode cX8_ahead 150 = .ok (.isub, 1) := by decide +kernel
theorem dX8_ahead_151 : decode cX8_ahead 151 = .ok (.goto 4, 3) := by decide +kernel
theorem dX8_ahead_154 : decode cX8_ahead 154 = .ok (.iconst (-1), 1) := by decide +kernel
theorem dX8_ahead_155 : decode cX8_ahead 155 = .ok (.istore 6, 2) := by decide +kernel
theorem dX8_ahead_157 : decode cX8_ahead 157 = .ok (.iload 6, 2) := by decide +kernel
theorem dX8_ahead_159 : decode cX8_ahead 159 = .ok (.ifCond .lt 12, 3) := by decide +kernel
theorem dX8_ahead_162 : decode cX8_ahead 162 = .ok (.aload_n 0, 1) := by decide +kernel
theorem dX8_ahead_163 : decode cX8_ahead 163 = .ok (.bipush 80, 2) := by decide +kernel
theorem dX8_ahead_165 : decode cX8_ahead 165 = .ok (.iload_n 3, 1) := by decide +kernel
theorem dX8_ahead_166 : decode cX8_ahead 166 = .ok (.iload 6, 2) := by decide +kernel
theorem dX8_ahead_168 : decode cX8_ahead 168 = .ok (.invokevirtual 129, 3) := by decide +kernel
theorem dX8_ahead_171 : decode cX8_ahead 171 = .ok (.return_, 1) := by decide +kernel
set_option maxRecDepth 20000 in
theorem ggX8_isNew_X8_isBelow : GoodIn wsX8_isNew wsX8_isBelow := goodIn_r _ [6, 7, 8, 9, 10, 11, 5, 12, 13, 14, 15, 16, 17, 18, 19, 20, 21, 22, 23, 24, 25, 26, 27, 28, 29, 30, 31, 32, 33, 34, 35, 36, 37] (by decide +kernel) (by decide +kernel)
set_option maxRecDepth 20000 in
theorem gX8_isNew_X8_isBelow : GoodIn wsX8_isNew (wsV RX8 146 RX8 yX8_isBelow wsX8_isBelow) := goodIn_app (goodIn_of _ (by decide +kernel)) ggX8_isNew_X8_isBelow
theorem dX8_isNew_0 : decode cX8_isNew 0 = .ok (.iconst 1, 1) := by decide +kernel
theorem dX8_isNew_1 : decode cX8_isNew 1 = .ok (.istore_n 1, 1) := by decide +kernel
theorem dX8_isNew_2 : decode cX8_isNew 2 = .ok (.iconst 0, 1) := by decide +kernel
theorem dX8_isNew_3 : decode cX8_isNew 3 = .ok (.istore_n 2, 1) := by decide +kernel
theorem dX8_isNew_4 : decode cX8_isNew 4 = .ok (.iload_n 2, 1) := by decide +kernel
theorem dX8_isNew_5 : decode cX8_isNew 5 = .ok (.aload_n 0, 1) := by decide +kernel
theorem dX8_isNew_6 : decode cX8_isNew 6 = .ok (.getfield 143, 3) := by decide +kernel
theorem dX8_isNew_9 : decode cX8_isNew 9 = .ok (.if_icmp .ge 29, 3) := by decide +kernel
theorem dX8_isNew_12 : decode cX8_isNew 12 = .ok (.iload_n 1, 1) := by decide +kernel
theorem dX8_isNew_13 : decode cX8_isNew 13 = .ok (.ifCond .eq 25, 3) := by decide +kernel
theorem dX8_isNew_16 : decode cX8_isNew 16 = .ok (.aload_n 0, 1) := by decide +kernel
theorem dX8_isNew_17 : decode cX8_isNew 17 = .ok (.iload_n 2, 1) := by decide +kernel
theorem dX8_isNew_18 : decode cX8_isNew 18 = .ok (.bipush 80, 2) := by decide +kernel
theorem dX8_isNew_20 : decode cX8_isNew 20 = .ok (.invokevirtual 146, 3) := by decide +kernel
theorem dX8_isNew_23 : decode cX8_isNew 23 = .ok (.ifCond .ne 7, 3) := by decide +kernel
theorem dX8_isNew_26 : decode cX8_isNew 26 = .ok (.iconst 1, 1) := by decide +kernel
theorem dX8_isNew_27 : decode cX8_isNew 27 = .ok (.goto 4, 3) := by decide +kernel
theorem dX8_isNew_30 : decode cX8_isNew 30 = .ok (.iconst 0, 1) := by decide +kernel
theorem dX8_isNew_31 : decode cX8_isNew 31 = .ok (.istore_n 1, 1) := by decide +kernel
theorem dX8_isNew_32 : decode cX8_isNew 32 = .ok (.iinc 2 1, 3) := by decide +kernel
theorem dX8_isNew_35 : decode cX8_isNew 35 = .ok (.goto (-31), 3) := by decide +kernel
theorem dX8_isNew_38 : decode cX8_isNew 38 = .ok (.iload_n 1, 1) := by decide +kernel
theorem dX8_isNew_39 : decode cX8_isNew 39 = .ok (.ireturn, 1) := by decide +kernel
set_option maxRecDepth 20000 in
theorem ggX8_find_X8_copy : GoodIn wsX8_find wsX8_copy := goodIn_r _ [9, 10, 11, 12, 13, 14, 8, 15, 16, 17, 18, 19, 20, 21, 22, 23, 24, 25, 26, 27, 28, 29, 30, 31, 32, 33, 34, 35, 36, 37, 38, 39, 40] (by decide +kernel) (by decide +kernel)
set_option maxRecDepth 20000 in
theorem gX8_find_X8_copy : GoodIn wsX8_find (wsV RX8 140 RX8 yX8_copy wsX8_copy) := goodIn_app (goodIn_of _ (by decide +kernel)) ggX8_find_X8_copy
theorem dX8_find_0 : decode cX8_find 0 = .ok (.aload_n 0, 1) := by decide +kernel
theorem dX8_find_1 : decode cX8_find 1 = .ok (.bipush 80, 2) := by decide +kernel
theorem dX8_find_3 : decode cX8_find 3 = .ok (.aload_n 0, 1) := by decide +kernel
theorem dX8_find_4 : decode cX8_find 4 = .ok (.getfield 143, 3) := by decide +kernel
theorem dX8_find_7 : decode cX8_find 7 = .ok (.invokevirtual 140, 3) := by decide +kernel
theorem dX8_find_10 : decode cX8_find 10 = .ok (.aload_n 0, 1) := by decide +kernel
theorem dX8_find_11 : decode cX8_find 11 = .ok (.getfield 48, 3) := by decide +kernel
theorem dX8_find_14 : decode cX8_find 14 = .ok (.aload_n 0, 1) := by decide +kernel
theorem dX8_find_15 : decode cX8_find 15 = .ok (.getfield 143, 3) := by decide +kernel
theorem dX8_find_18 : decode cX8_find 18 = .ok (.iload_n 1, 1) := by decide +kernel
theorem dX8_find_19 : decode cX8_find 19 = .ok (.iastore, 1) := by decide +kernel
theorem dX8_find_20 : decode cX8_find 20 = .ok (.aload_n 0, 1) := by decide +kernel
theorem dX8_find_21 : decode cX8_find 21 = .ok (.getfield 51, 3) := by decide +kernel
theorem dX8_find_24 : decode cX8_find 24 = .ok (.aload_n 0, 1) := by decide +kernel
theorem dX8_find_25 : decode cX8_find 25 = .ok (.getfield 143, 3) := by decide +kernel
theorem dX8_find_28 : decode cX8_find 28 = .ok (.iload_n 2, 1) := by decide +kernel
theorem dX8_find_29 : decode cX8_find 29 = .ok (.iastore, 1) := by decide +kernel
theorem dX8_find_30 : decode cX8_find 30 = .ok (.aload_n 0, 1) := by decide +kernel
theorem dX8_find_31 : decode cX8_find 31 = .ok (.getfield 54, 3) := by decide +kernel
theorem dX8_find_34 : decode cX8_find 34 = .ok (.aload_n 0, 1) := by decide +kernel
theorem dX8_find_35 : decode cX8_find 35 = .ok (.getfield 143, 3) := by decide +kernel
theorem dX8_find_38 : decode cX8_find 38 = .ok (.iload_n 3, 1) := by decide +kernel
theorem dX8_find_39 : decode cX8_find 39 = .ok (.iastore, 1) := by decide +kernel
theorem dX8_find_40 : decode cX8_find 40 = .ok (.aload_n 0, 1) := by decide +kernel
theorem dX8_find_41 : decode cX8_find 41 = .ok (.dup, 1) := by decide +kernel
theorem dX8_find_42 : decode cX8_find 42 = .ok (.getfield 143, 3) := by decide +kernel
theorem dX8_find_45 : decode cX8_find 45 = .ok (.iconst 1, 1) := by decide +kernel
theorem dX8_find_46 : decode cX8_find 46 = .ok (.iadd, 1) := by decide +kernel
theorem dX8_find_47 : decode cX8_find 47 = .ok (.putfield 143, 3) := by decide +kernel
theorem dX8_find_50 : decode cX8_find 50 = .ok (.return_, 1) := by decide +kernel
set_option maxRecDepth 20000 in
theorem ggX8_search_X8_copy : GoodIn wsX8_search wsX8_copy := goodIn_r _ [11, 4, 5, 12, 13, 14, 10, 15, 55, 56, 57, 58, 59, 60, 61, 62, 63, 64, 65, 66, 67, 68, 69, 70, 71, 72, 73, 74, 75, 76, 77, 78, 79] (by decide +kernel) (by decide +kernel)
set_option maxRecDepth 20000 in
theorem gX8_search_X8_copy : GoodIn wsX8_search (wsV RX8 140 RX8 yX8_copy wsX8_copy) := goodIn_app (goodIn_of _ (by decide +kernel)) ggX8_search_X8_copy
set_option maxRecDepth 20000 in
theorem ggX8_search_X8_find : GoodIn wsX8_search wsX8_find := goodIn_r _ [19, 1, 6, 20, 21, 7, 8, 9, 10, 11, 4, 5, 12, 13, 14, 15, 55, 56, 57, 58, 59, 60, 61, 62, 63, 64, 65, 66, 67, 68, 69, 70, 71, 72, 73, 74, 75, 76, 77, 78, 79] (by decide +kernel) (by decide +kernel)
set_option maxRecDepth 20000 in
theorem gX8_search_X8_find : GoodIn wsX8_search (wsV RX8 150 RX8 yX8_find wsX8_find) := goodIn_app (goodIn_of _ (by decide +kernel)) ggX8_search_X8_find
set_option maxRecDepth 20000 in
theorem ggX8_search_X8_ahead : GoodIn wsX8_search wsX8_ahead := goodIn_r _ [25, 4, 26, 27, 28, 5, 29, 30, 12, 7, 8, 9, 10, 11, 13, 14, 15, 31, 32, 33, 34, 35, 36, 37, 38, 39, 40, 41, 42, 43, 44, 45, 46, 55, 56, 57, 58, 59, 60, 61, 62, 63, 64, 65, 66, 67, 68, 69, 70, 71, 72, 73, 74, 75, 76, 77, 78, 79] (by decide +kernel) (by decide +kernel)
set_option maxRecDepth 20000 in
theorem gX8_search_X8_ahead : GoodIn wsX8_search (wsV RX8 153 RX8 yX8_ahead wsX8_ahead) := goodIn_app (goodIn_of _ (by decide +kernel)) ggX8_search_X8_ahead
set_option maxRecDepth 20000 in
theorem ggX8_search_X8_isNew : GoodIn wsX8_search wsX8_isNew := goodIn_r _ [50, 1, 51, 52, 53, 10, 54, 4, 5, 12, 13, 14, 15, 55, 56, 57, 58, 59, 60, 61, 62, 63, 64, 65, 66, 67, 68, 69, 70, 71, 72, 73, 74, 75, 76, 77, 78, 79] (by decide +kernel) (by decide +kernel)
set_option maxRecDepth 20000 in
theorem gX8_search_X8_isNew : GoodIn wsX8_search (wsV RX8 156 RX8 yX8_isNew wsX8_isNew) := goodIn_app (goodIn_of _ (by decide +kernel)) ggX8_search_X8_isNew
theorem dX8_search_0 : decode cX8_search 0 = .ok (.aload_n 0, 1) := by decide +kernel
theorem dX8_search_1 : decode cX8_search 1 = .ok (.iconst 0, 1) := by decide +kernel
theorem dX8_search_2 : decode cX8_search 2 = .ok (.putfield 143, 3) := by decide +kernel
theorem dX8_search_5 : decode cX8_search 5 = .ok (.aload_n 0, 1) := by decide +kernel
theorem dX8_search_6 : decode cX8_search 6 = .ok (.bipush 81, 2) := by decide +kernel
theorem dX8_search_8 : decode cX8_search 8 = .ok (.bipush 80, 2) := by decide +kernel
theorem dX8_search_10 : decode cX8_search 10 = .ok (.invokevirtual 140, 3) := by decide +kernel
theorem dX8_search_13 : decode cX8_search 13 = .ok (.aload_n 0, 1) := by decide +kernel
theorem dX8_search_14 : decode cX8_search 14 = .ok (.iconst 0, 1) := by decide +kernel
theorem dX8_search_15 : decode cX8_search 15 = .ok (.bipush (-2), 2) := by decide +kernel
theorem dX8_search_17 : decode cX8_search 17 = .ok (.bipush (-2), 2) := by decide +kernel
theorem dX8_search_19 : decode cX8_search 19 = .ok (.invokevirtual 150, 3) := by decide +kernel
theorem dX8_search_22 : decode cX8_search 22 = .ok (.iconst 0, 1) := by decide +kernel
theorem dX8_search_23 : decode cX8_search 23 = .ok (.istore_n 1, 1) := by decide +kernel
theorem dX8_search_24 : decode cX8_search 24 = .ok (.iload_n 1, 1) := by decide +kernel
theorem dX8_search_25 : decode cX8_search 25 = .ok (.aload_n 0, 1) := by decide +kernel
theorem dX8_search_26 : decode cX8_search 26 = .ok (.getfield 143, 3) := by decide +kernel
theorem dX8_search_29 : decode cX8_search 29 = .ok (.if_icmp .ge 104, 3) := by decide +kernel
theorem dX8_search_32 : decode cX8_search 32 = .ok (.iconst 0, 1) := by decide +kernel
theorem dX8_search_33 : decode cX8_search 33 = .ok (.istore_n 2, 1) := by decide +kernel
theorem dX8_search_34 : decode cX8_search 34 = .ok (.iload_n 2, 1) := by decide +kernel
theorem dX8_search_35 : decode cX8_search 35 = .ok (.aload_n 0, 1) := by decide +kernel
theorem dX8_search_36 : decode cX8_search 36 = .ok (.getfield 77, 3) := by decide +kernel
theorem dX8_search_39 : decode cX8_search 39 = .ok (.if_icmp .ge 88, 3) := by decide +kernel
theorem dX8_search_42 : decode cX8_search 42 = .ok (.aload_n 0, 1) := by decide +kernel
theorem dX8_search_43 : decode cX8_search 43 = .ok (.getfield 30, 3) := by decide +kernel
theorem dX8_search_46 : decode cX8_search 46 = .ok (.iload_n 2, 1) := by decide +kernel
theorem dX8_search_47 : decode cX8_search 47 = .ok (.iaload, 1) := by decide +kernel
theorem dX8_search_48 : decode cX8_search 48 = .ok (.aload_n 0, 1) := by decide +kernel
theorem dX8_search_49 : decode cX8_search 49 = .ok (.getfield 39, 3) := by decide +kernel
theorem dX8_search_52 : decode cX8_search 52 = .ok (.iload_n 1, 1) := by decide +kernel
theorem dX8_search_53 : decode cX8_search 53 = .ok (.iaload, 1) := by decide +kernel
theorem dX8_search_54 : decode cX8_search 54 = .ok (.if_icmp .ne 67, 3) := by decide +kernel
theorem dX8_search_57 : decode cX8_search 57 = .ok (.aload_n 0, 1) := by decide +kernel
theorem dX8_search_58 : decode cX8_search 58 = .ok (.iload_n 1, 1) := by decide +kernel
theorem dX8_search_59 : decode cX8_search 59 = .ok (.iload_n 2, 1) := by decide +kernel
theorem dX8_search_60 : decode cX8_search 60 = .ok (.invokevirtual 153, 3) := by decide +kernel
theorem dX8_search_63 : decode cX8_search 63 = .ok (.aload_n 0, 1) := by decide +kernel
theorem dX8_search_64 : decode cX8_search 64 = .ok (.invokevirtual 156, 3) := by decide +kernel
theorem dX8_search_67 : decode cX8_search 67 = .ok (.ifCond .eq 54, 3) := by decide +kernel
theorem dX8_search_70 : decode cX8_search 70 = .ok (.aload_n 0, 1) := by decide +kernel
theorem dX8_search_71 : decode cX8_search 71 = .ok (.getfield 42, 3) := by decide +kernel
theorem dX8_search_74 : decode cX8_search 74 = .ok (.sipush 160, 3) := by decide +kernel
theorem dX8_search_77 : decode cX8_search 77 = .ok (.iaload, 1) := by decide +kernel
theorem dX8_search_78 : decode cX8_search 78 = .ok (.bipush 10, 2) := by decide +kernel
theorem dX8_search_80 : decode cX8_search 80 = .ok (.if_icmp .gt 25, 3) := by decide +kernel
theorem dX8_search_83 : decode cX8_search 83 = .ok (.aload_n 0, 1) := by decide +kernel
theorem dX8_search_84 : decode cX8_search 84 = .ok (.getfield 42, 3) := by decide +kernel
theorem dX8_search_87 : decode cX8_search 87 = .ok (.sipush 161, 3) := by decide +kernel
theorem dX8_search_90 : decode cX8_search 90 = .ok (.iaload, 1) := by decide +kernel
theorem dX8_search_91 : decode cX8_search 91 = .ok (.bipush 10, 2) := by decide +kernel
theorem dX8_search_93 : decode cX8_search 93 = .ok (.if_icmp .gt 12, 3) := by decide +kernel
theorem dX8_search_96 : decode cX8_search 96 = .ok (.aload_n 0, 1) := by decide +kernel
theorem dX8_search_97 : decode cX8_search 97 = .ok (.getfield 143, 3) := by decide +kernel
theorem dX8_search_100 : decode cX8_search 100 = .ok (.bipush 80, 2) := by decide +kernel
theorem dX8_search_102 : decode cX8_search 102 = .ok (.if_icmp .ne 5, 3) := by decide +kernel
theorem dX8_search_105 : decode cX8_search 105 = .ok (.iconst 0, 1) := by decide +kernel
theorem dX8_search_106 : decode cX8_search 106 = .ok (.ireturn, 1) := by decide +kernel
theorem dX8_search_107 : decode cX8_search 107 = .ok (.aload_n 0, 1) := by decide +kernel
theorem dX8_search_108 : decode cX8_search 108 = .ok (.aload_n 0, 1) := by decide +kernel
theorem dX8_search_109 : decode cX8_search 109 = .ok (.getfield 48, 3) := by decide +kernel
theorem dX8_search_112 : decode cX8_search 112 = .ok (.iload_n 1, 1) := by decide +kernel
theorem dX8_search_113 : decode cX8_search 113 = .ok (.iaload, 1) := by decide +kernel
theorem dX8_search_114 : decode cX8_search 114 = .ok (.iconst 1, 1) := by decide +kernel
theorem dX8_search_115 : decode cX8_search 115 = .ok (.iadd, 1) := by decide +kernel
theorem dX8_search_116 : decode cX8_search 116 = .ok (.iload_n 2, 1) := by decide +kernel
theorem dX8_search_117 : decode cX8_search 117 = .ok (.iload_n 1, 1) := by decide +kernel
theorem dX8_search_118 : decode cX8_search 118 = .ok (.invokevirtual 150, 3) := by decide +kernel
theorem dX8_search_121 : decode cX8_search 121 = .ok (.iinc 2 1, 3) := by decide +kernel
theorem dX8_search_124 : decode cX8_search 124 = .ok (.goto (-90), 3) := by decide +kernel
theorem dX8_search_127 : decode cX8_search 127 = .ok (.iinc 1 1, 3) := by decide +kernel
theorem dX8_search_130 : decode cX8_search 130 = .ok (.goto (-106), 3) := by decide +kernel
theorem dX8_search_133 : decode cX8_search 133 = .ok (.iconst 1, 1) := by decide +kernel
theorem dX8_search_134 : decode cX8_search 134 = .ok (.ireturn, 1) := by decide +kernel
set_option maxRecDepth 20000 in
theorem ggX8_isLeast_X8_isBelow : GoodIn wsX8_isLeast wsX8_isBelow := goodIn_r _ [6, 7, 8, 9, 10, 11, 5, 12, 13, 14, 15, 16, 17, 18, 19, 20, 21, 22, 23, 24, 25, 26, 27, 28, 29, 30, 31, 32, 33, 34, 35, 36, 37] (by decide +kernel) (by decide +kernel)
set_option maxRecDepth 20000 in
theorem gX8_isLeast_X8_isBelow : GoodIn wsX8_isLeast (wsV RX8 146 RX8 yX8_isBelow wsX8_isBelow) := goodIn_app (goodIn_of _ (by decide +kernel)) ggX8_isLeast_X8_isBelow
theorem dX8_isLeast_0 : decode cX8_isLeast 0 = .ok (.iconst 1, 1) := by decide +kernel
theorem dX8_isLeast_1 : decode cX8_isLeast 1 = .ok (.istore_n 2, 1) := by decide +kernel
theorem dX8_isLeast_2 : decode cX8_isLeast 2 = .ok (.iconst 0, 1) := by decide +kernel
theorem dX8_isLeast_3 : decode cX8_isLeast 3 = .ok (.istore_n 3, 1) := by decide +kernel
theorem dX8_isLeast_4 : decode cX8_isLeast 4 = .ok (.iload_n 3, 1) := by decide +kernel
theorem dX8_isLeast_5 : decode cX8_isLeast 5 = .ok (.aload_n 0, 1) := by decide +kernel
theorem dX8_isLeast_6 : decode cX8_isLeast 6 = .ok (.getfield 143, 3) := by decide +kernel
theorem dX8_isLeast_9 : decode cX8_isLeast 9 = .ok (.if_icmp .ge 33, 3) := by decide +kernel
theorem dX8_isLeast_12 : decode cX8_isLeast 12 = .ok (.iload_n 2, 1) := by decide +kernel
theorem dX8_isLeast_13 : decode cX8_isLeast 13 = .ok (.ifCond .eq 29, 3) := by decide +kernel
theorem dX8_isLeast_16 : decode cX8_isLeast 16 = .ok (.iload_n 3, 1) := by decide +kernel
theorem dX8_isLeast_17 : decode cX8_isLeast 17 = .ok (.iload_n 1, 1) := by decide +kernel
theorem dX8_isLeast_18 : decode cX8_isLeast 18 = .ok (.if_icmp .eq 12, 3) := by decide +kernel
theorem dX8_isLeast_21 : decode cX8_isLeast 21 = .ok (.aload_n 0, 1) := by decide +kernel
theorem dX8_isLeast_22 : decode cX8_isLeast 22 = .ok (.iload_n 3, 1) := by decide +kernel
theorem dX8_isLeast_23 : decode cX8_isLeast 23 = .ok (.iload_n 1, 1) := by decide +kernel
theorem dX8_isLeast_24 : decode cX8_isLeast 24 = .ok (.invokevirtual 146, 3) := by decide +kernel
theorem dX8_isLeast_27 : decode cX8_isLeast 27 = .ok (.ifCond .ne 7, 3) := by decide +kernel
theorem dX8_isLeast_30 : decode cX8_isLeast 30 = .ok (.iconst 1, 1) := by decide +kernel
theorem dX8_isLeast_31 : decode cX8_isLeast 31 = .ok (.goto 4, 3) := by decide +kernel
theorem dX8_isLeast_34 : decode cX8_isLeast 34 = .ok (.iconst 0, 1) := by decide +kernel
theorem dX8_isLeast_35 : decode cX8_isLeast 35 = .ok (.istore_n 2, 1) := by decide +kernel
theorem dX8_isLeast_36 : decode cX8_isLeast 36 = .ok (.iinc 3 1, 3) := by decide +kernel
theorem dX8_isLeast_39 : decode cX8_isLeast 39 = .ok (.goto (-35), 3) := by decide +kernel
theorem dX8_isLeast_42 : decode cX8_isLeast 42 = .ok (.iload_n 2, 1) := by decide +kernel
theorem dX8_isLeast_43 : decode cX8_isLeast 43 = .ok (.ireturn, 1) := by decide +kernel
set_option maxRecDepth 20000 in
theorem ggX8_found_X8_search : GoodIn wsX8_found wsX8_search := goodIn_r _ [6, 1, 7, 8, 9, 10, 11, 12, 13, 14, 5, 15, 16, 17, 18, 19, 20, 21, 22, 23, 24, 25, 26, 27, 28, 29, 30, 31, 32, 33, 34, 35, 36, 37, 38, 39, 40, 41, 42, 43, 44, 45, 46, 47, 48, 49, 50, 51, 52, 53, 54, 55, 56, 57, 58, 59, 60, 61, 62, 63, 64, 65, 66, 67, 68, 69, 70, 71, 72, 73, 74, 75, 76, 77, 78, 79, 80, 81, 82, 83] (by decide +kernel) (by decide +kernel)
set_option maxRecDepth 20000 in
theorem gX8_found_X8_search : GoodIn wsX8_found (wsV RX8 160 RX8 yX8_search wsX8_search) := goodIn_app (goodIn_of _ (by decide +kernel)) ggX8_found_X8_search
theorem dX8_found_0 : decode cX8_found 0 = .ok (.aload_n 0, 1) := by decide +kernel
theorem dX8_found_1 : decode cX8_found 1 = .ok (.invokevirtual 160, 3) := by decide +kernel
theorem dX8_found_4 : decode cX8_found 4 = .ok (.ifCond .eq 10, 3) := by decide +kernel
theorem dX8_found_7 : decode cX8_found 7 = .ok (.aload_n 0, 1) := by decide +kernel
theorem dX8_found_8 : decode cX8_found 8 = .ok (.getfield 143, 3) := by decide +kernel
theorem dX8_found_11 : decode cX8_found 11 = .ok (.goto 5, 3) := by decide +kernel
theorem dX8_found_14 : decode cX8_found 14 = .ok (.bipush (-3), 2) := by decide +kernel
theorem dX8_found_16 : decode cX8_found 16 = .ok (.ireturn, 1) := by decide +kernel
set_option maxRecDepth 20000 in
theorem ggX8_about_X8_in : GoodIn wsX8_about wsX8_in := goodIn_r _ [10] (by decide +kernel) (by decide +kernel)
set_option maxRecDepth 20000 in
theorem gX8_about_X8_in : GoodIn wsX8_about (va_wsS RX8 73 yX8_in wsX8_in) := goodIn_app (goodIn_of _ (by decide +kernel)) ggX8_about_X8_in
set_option maxRecDepth 20000 in
theorem ggX8_about_X8_search : GoodIn wsX8_about wsX8_search := goodIn_r _ [14, 1, 15, 16, 2, 4, 3, 17, 18, 19, 9, 20, 21, 22, 23, 24, 25, 26, 27, 28, 5, 6, 29, 30, 31, 32, 33, 34, 35, 36, 37, 38, 39, 40, 41, 42, 43, 44, 45, 46, 47, 48, 49, 50, 51, 52, 53, 54, 55, 56, 57, 58, 59, 60, 61, 66, 67, 68, 69, 70, 71, 72, 73, 74, 75, 76, 77, 78, 79, 80, 81, 82, 83, 84, 85, 86, 87, 88, 89, 90] (by decide +kernel) (by decide +kernel)
set_option maxRecDepth 20000 in
theorem gX8_about_X8_search : GoodIn wsX8_about (wsV RX8 160 RX8 yX8_search wsX8_search) := goodIn_app (goodIn_of _ (by decide +kernel)) ggX8_about_X8_search
set_option maxRecDepth 20000 in
theorem ggX8_about_X8_isLeast : GoodIn wsX8_about wsX8_isLeast := goodIn_r _ [65, 1, 58, 59, 60, 9, 61, 2, 4, 21, 22, 23, 24, 66, 67, 68, 69, 70, 71, 72, 73, 74, 75, 76, 77, 78, 79, 80, 81, 82, 83, 84, 85, 86, 87, 88, 89, 90] (by decide +kernel) (by decide +kernel)
set_option maxRecDepth 20000 in
theorem gX8_about_X8_isLeast : GoodIn wsX8_about (wsV RX8 163 RX8 yX8_isLeast wsX8_isLeast) := goodIn_app (goodIn_of _ (by decide +kernel)) ggX8_about_X8_isLeast
theorem dX8_about_0 : decode cX8_about 0 = .ok (.iload_n 1, 1) := by decide +kernel
theorem dX8_about_1 : decode cX8_about 1 = .ok (.ifCond .lt 13, 3) := by decide +kernel
theorem dX8_about_4 : decode cX8_about 4 = .ok (.iload_n 2, 1) := by decide +kernel
theorem dX8_about_5 : decode cX8_about 5 = .ok (.iconst 0, 1) := by decide +kernel
theorem dX8_about_6 : decode cX8_about 6 = .ok (.bipush 6, 2) := by decide +kernel
theorem dX8_about_8 : decode cX8_about 8 = .ok (.invokestatic 73, 3) := by decide +kernel
theorem dX8_about_11 : decode cX8_about 11 = .ok (.ifCond .ne 5, 3) := by decide +kernel
theorem dX8_about_14 : decode cX8_about 14 = .ok (.iconst (-1), 1) := by decide +kernel
theorem dX8_about_15 : decode cX8_about 15 = .ok (.ireturn, 1) := by decide +kernel
theorem dX8_about_16 : decode cX8_about 16 = .ok (.aload_n 0, 1) := by decide +kernel
theorem dX8_about_17 : decode cX8_about 17 = .ok (.invokevirtual 160, 3) := by decide +kernel
theorem dX8_about_20 : decode cX8_about 20 = .ok (.ifCond .ne 6, 3) := by decide +kernel
theorem dX8_about_23 : decode cX8_about 23 = .ok (.bipush (-3), 2) := by decide +kernel
theorem dX8_about_25 : decode cX8_about 25 = .ok (.ireturn, 1) := by decide +kernel
theorem dX8_about_26 : decode cX8_about 26 = .ok (.iload_n 1, 1) := by decide +kernel
theorem dX8_about_27 : decode cX8_about 27 = .ok (.aload_n 0, 1) := by decide +kernel
theorem dX8_about_28 : decode cX8_about 28 = .ok (.getfield 143, 3) := by decide +kernel
theorem dX8_about_31 : decode cX8_about 31 = .ok (.if_icmp .lt 5, 3) := by decide +kernel
theorem dX8_about_34 : decode cX8_about 34 = .ok (.iconst (-1), 1) := by decide +kernel
theorem dX8_about_35 : decode cX8_about 35 = .ok (.ireturn, 1) := by decide +kernel
theorem dX8_about_36 : decode cX8_about 36 = .ok (.iload_n 2, 1) := by decide +kernel
theorem dX8_about_37 : decode cX8_about 37 = .ok (.tableswitch 80 0 5 #[39, 46, 53, 53, 66, 73], 39) := by decide +kernel
theorem dX8_about_76 : decode cX8_about 76 = .ok (.aload_n 0, 1) := by decide +kernel
theorem dX8_about_77 : decode cX8_about 77 = .ok (.getfield 39, 3) := by decide +kernel
theorem dX8_about_80 : decode cX8_about 80 = .ok (.iload_n 1, 1) := by decide +kernel
theorem dX8_about_81 : decode cX8_about 81 = .ok (.iaload, 1) := by decide +kernel
theorem dX8_about_82 : decode cX8_about 82 = .ok (.ireturn, 1) := by decide +kernel
theorem dX8_about_83 : decode cX8_about 83 = .ok (.aload_n 0, 1) := by decide +kernel
theorem dX8_about_84 : decode cX8_about 84 = .ok (.getfield 48, 3) := by decide +kernel
theorem dX8_about_87 : decode cX8_about 87 = .ok (.iload_n 1, 1) := by decide +kernel
theorem dX8_about_88 : decode cX8_about 88 = .ok (.iaload, 1) := by decide +kernel
theorem dX8_about_89 : decode cX8_about 89 = .ok (.ireturn, 1) := by decide +kernel
theorem dX8_about_90 : decode cX8_about 90 = .ok (.aload_n 0, 1) := by decide +kernel
theorem dX8_about_91 : decode cX8_about 91 = .ok (.getfield 42, 3) := by decide +kernel
theorem dX8_about_94 : decode cX8_about 94 = .ok (.iconst 2, 1) := by decide +kernel
theorem dX8_about_95 : decode cX8_about 95 = .ok (.iload_n 1, 1) := by decide +kernel
theorem dX8_about_96 : decode cX8_about 96 = .ok (.imul, 1) := by decide +kernel
theorem dX8_about_97 : decode cX8_about 97 = .ok (.iload_n 2, 1) := by decide +kernel
theorem dX8_about_98 : decode cX8_about 98 = .ok (.iadd, 1) := by decide +kernel
theorem dX8_about_99 : decode cX8_about 99 = .ok (.iconst 2, 1) := by decide +kernel
theorem dX8_about_100 : decode cX8_about 100 = .ok (.isub, 1) := by decide +kernel
theorem dX8_about_101 : decode cX8_about 101 = .ok (.iaload, 1) := by decide +kernel
theorem dX8_about_102 : decode cX8_about 102 = .ok (.ireturn, 1) := by decide +kernel
theorem dX8_about_103 : decode cX8_about 103 = .ok (.aload_n 0, 1) := by decide +kernel
theorem dX8_about_104 : decode cX8_about 104 = .ok (.getfield 51, 3) := by decide +kernel
theorem dX8_about_107 : decode cX8_about 107 = .ok (.iload_n 1, 1) := by decide +kernel
theorem dX8_about_108 : decode cX8_about 108 = .ok (.iaload, 1) := by decide +kernel
theorem dX8_about_109 : decode cX8_about 109 = .ok (.ireturn, 1) := by decide +kernel
theorem dX8_about_110 : decode cX8_about 110 = .ok (.aload_n 0, 1) := by decide +kernel
theorem dX8_about_111 : decode cX8_about 111 = .ok (.getfield 54, 3) := by decide +kernel
theorem dX8_about_114 : decode cX8_about 114 = .ok (.iload_n 1, 1) := by decide +kernel
theorem dX8_about_115 : decode cX8_about 115 = .ok (.iaload, 1) := by decide +kernel
theorem dX8_about_116 : decode cX8_about 116 = .ok (.ireturn, 1) := by decide +kernel
theorem dX8_about_117 : decode cX8_about 117 = .ok (.aload_n 0, 1) := by decide +kernel
theorem dX8_about_118 : decode cX8_about 118 = .ok (.iload_n 1, 1) := by decide +kernel
theorem dX8_about_119 : decode cX8_about 119 = .ok (.invokevirtual 163, 3) := by decide +kernel
theorem dX8_about_122 : decode cX8_about 122 = .ok (.ifCond .eq 7, 3) := by decide +kernel
theorem dX8_about_125 : decode cX8_about 125 = .ok (.iconst 1, 1) := by decide +kernel
theorem dX8_about_126 : decode cX8_about 126 = .ok (.goto 4, 3) := by decide +kernel
theorem dX8_about_129 : decode cX8_about 129 = .ok (.iconst 0, 1) := by decide +kernel
theorem dX8_about_130 : decode cX8_about 130 = .ok (.ireturn, 1) := by decide +kernel
set_option maxRecDepth 20000 in
theorem ggX8_letter_X8_in : GoodIn wsX8_letter wsX8_in := goodIn_r _ [7] (by decide +kernel) (by decide +kernel)
set_option maxRecDepth 20000 in
theorem gX8_letter_X8_in : GoodIn wsX8_letter (va_wsS RX8 73 yX8_in wsX8_in) := goodIn_app (goodIn_of _ (by decide +kernel)) ggX8_letter_X8_in
set_option maxRecDepth 20000 in
theorem ggX8_letter_X8_search : GoodIn wsX8_letter wsX8_search := goodIn_r _ [11, 1, 12, 13, 14, 2, 15, 16, 17, 18, 6, 19, 3, 20, 21, 22, 23, 24, 25, 26, 27, 28, 29, 30, 31, 32, 33, 34, 35, 36, 37, 38, 39, 40, 41, 42, 43, 44, 45, 46, 47, 48, 49, 50, 51, 52, 53, 54, 55, 56, 57, 58, 59, 60, 61, 62, 63, 64, 65, 66, 67, 68, 69, 70, 71, 72, 73, 74, 75, 76, 77, 78, 79, 80, 81, 82, 83, 84, 85, 86] (by decide +kernel) (by decide +kernel)
set_option maxRecDepth 20000 in
theorem gX8_letter_X8_search : GoodIn wsX8_letter (wsV RX8 160 RX8 yX8_search wsX8_search) := goodIn_app (goodIn_of _ (by decide +kernel)) ggX8_letter_X8_search
set_option maxRecDepth 20000 in
theorem ggX8_letter_X8_spot : GoodIn wsX8_letter wsX8_spot := goodIn_r _ [22] (by decide +kernel) (by decide +kernel)
set_option maxRecDepth 20000 in
theorem gX8_letter_X8_spot : GoodIn wsX8_letter (va_wsS RX8 122 yX8_spot wsX8_spot) := goodIn_app (goodIn_of _ (by decide +kernel)) ggX8_letter_X8_spot
theorem dX8_letter_0 : decode cX8_letter 0 = .ok (.iload_n 1, 1) := by decide +kernel
theorem dX8_letter_1 : decode cX8_letter 1 = .ok (.ifCond .lt 16, 3) := by decide +kernel
theorem dX8_letter_4 : decode cX8_letter 4 = .ok (.iload_n 3, 1) := by decide +kernel
theorem dX8_letter_5 : decode cX8_letter 5 = .ok (.ifCond .lt 12, 3) := by decide +kernel
theorem dX8_letter_8 : decode cX8_letter 8 = .ok (.iload_n 2, 1) := by decide +kernel
theorem dX8_letter_9 : decode cX8_letter 9 = .ok (.iconst 0, 1) := by decide +kernel
theorem dX8_letter_10 : decode cX8_letter 10 = .ok (.iconst 1, 1) := by decide +kernel
theorem dX8_letter_11 : decode cX8_letter 11 = .ok (.invokestatic 73, 3) := by decide +kernel
theorem dX8_letter_14 : decode cX8_letter 14 = .ok (.ifCond .ne 5, 3) := by decide +kernel
theorem dX8_letter_17 : decode cX8_letter 17 = .ok (.iconst (-1), 1) := by decide +kernel
theorem dX8_letter_18 : decode cX8_letter 18 = .ok (.ireturn, 1) := by decide +kernel
theorem dX8_letter_19 : decode cX8_letter 19 = .ok (.aload_n 0, 1) := by decide +kernel
theorem dX8_letter_20 : decode cX8_letter 20 = .ok (.invokevirtual 160, 3) := by decide +kernel
theorem dX8_letter_23 : decode cX8_letter 23 = .ok (.ifCond .ne 6, 3) := by decide +kernel
theorem dX8_letter_26 : decode cX8_letter 26 = .ok (.bipush (-3), 2) := by decide +kernel
theorem dX8_letter_28 : decode cX8_letter 28 = .ok (.ireturn, 1) := by decide +kernel
theorem dX8_letter_29 : decode cX8_letter 29 = .ok (.iload_n 1, 1) := by decide +kernel
theorem dX8_letter_30 : decode cX8_letter 30 = .ok (.aload_n 0, 1) := by decide +kernel
theorem dX8_letter_31 : decode cX8_letter 31 = .ok (.getfield 143, 3) := by decide +kernel
theorem dX8_letter_34 : decode cX8_letter 34 = .ok (.if_icmp .ge 31, 3) := by decide +kernel
theorem dX8_letter_37 : decode cX8_letter 37 = .ok (.iload_n 3, 1) := by decide +kernel
theorem dX8_letter_38 : decode cX8_letter 38 = .ok (.aload_n 0, 1) := by decide +kernel
theorem dX8_letter_39 : decode cX8_letter 39 = .ok (.getfield 42, 3) := by decide +kernel
theorem dX8_letter_42 : decode cX8_letter 42 = .ok (.iconst 2, 1) := by decide +kernel
theorem dX8_letter_43 : decode cX8_letter 43 = .ok (.iload_n 1, 1) := by decide +kernel
theorem dX8_letter_44 : decode cX8_letter 44 = .ok (.imul, 1) := by decide +kernel
theorem dX8_letter_45 : decode cX8_letter 45 = .ok (.iload_n 2, 1) := by decide +kernel
theorem dX8_letter_46 : decode cX8_letter 46 = .ok (.iadd, 1) := by decide +kernel
theorem dX8_letter_47 : decode cX8_letter 47 = .ok (.iaload, 1) := by decide +kernel
theorem dX8_letter_48 : decode cX8_letter 48 = .ok (.if_icmp .ge 17, 3) := by decide +kernel
theorem dX8_letter_51 : decode cX8_letter 51 = .ok (.aload_n 0, 1) := by decide +kernel
theorem dX8_letter_52 : decode cX8_letter 52 = .ok (.getfield 45, 3) := by decide +kernel
theorem dX8_letter_55 : decode cX8_letter 55 = .ok (.iload_n 1, 1) := by decide +kernel
theorem dX8_letter_56 : decode cX8_letter 56 = .ok (.iload_n 2, 1) := by decide +kernel
theorem dX8_letter_57 : decode cX8_letter 57 = .ok (.iload_n 3, 1) := by decide +kernel
theorem dX8_letter_58 : decode cX8_letter 58 = .ok (.invokestatic 122, 3) := by decide +kernel
theorem dX8_letter_61 : decode cX8_letter 61 = .ok (.iaload, 1) := by decide +kernel
theorem dX8_letter_62 : decode cX8_letter 62 = .ok (.goto 4, 3) := by decide +kernel
theorem dX8_letter_65 : decode cX8_letter 65 = .ok (.iconst (-1), 1) := by decide +kernel
theorem dX8_letter_66 : decode cX8_letter 66 = .ok (.ireturn, 1) := by decide +kernel
set_option maxRecDepth 20000 in
theorem ggX8_least_X8_search : GoodIn wsX8_least wsX8_search := goodIn_r _ [6, 1, 7, 8, 9, 10, 11, 12, 13, 14, 5, 15, 16, 17, 18, 19, 20, 21, 22, 23, 24, 25, 26, 27, 28, 29, 30, 31, 32, 33, 34, 35, 36, 37, 38, 39, 40, 41, 42, 43, 44, 45, 46, 47, 48, 49, 50, 51, 52, 53, 54, 55, 56, 57, 58, 63, 64, 65, 66, 67, 68, 69, 70, 71, 72, 73, 74, 75, 76, 77, 78, 79, 80, 81, 82, 83, 84, 85, 86, 87] (by decide +kernel) (by decide +kernel)
set_option maxRecDepth 20000 in
theorem gX8_least_X8_search : GoodIn wsX8_least (wsV RX8 160 RX8 yX8_search wsX8_search) := goodIn_app (goodIn_of _ (by decide +kernel)) ggX8_least_X8_search
set_option maxRecDepth 20000 in
theorem ggX8_least_X8_isLeast : GoodIn wsX8_least wsX8_isLeast := goodIn_r _ [62, 1, 55, 56, 57, 5, 58, 9, 10, 16, 17, 18, 19, 63, 64, 65, 66, 67, 68, 69, 70, 71, 72, 73, 74, 75, 76, 77, 78, 79, 80, 81, 82, 83, 84, 85, 86, 87] (by decide +kernel) (by decide +kernel)
set_option maxRecDepth 20000 in
theorem gX8_least_X8_isLeast : GoodIn wsX8_least (wsV RX8 163 RX8 yX8_isLeast wsX8_isLeast) := goodIn_app (goodIn_of _ (by decide +kernel)) ggX8_least_X8_isLeast
theorem dX8_least_0 : decode cX8_least 0 = .ok (.aload_n 0, 1) := by decide +kernel
theorem dX8_least_1 : decode cX8_least 1 = .ok (.invokevirtual 160, 3) := by decide +kernel
theorem dX8_least_4 : decode cX8_least 4 = .ok (.ifCond .ne 6, 3) := by decide +kernel
theorem dX8_least_7 : decode cX8_least 7 = .ok (.bipush (-3), 2) := by decide +kernel
theorem dX8_least_9 : decode cX8_least 9 = .ok (.ireturn, 1) := by decide +kernel
theorem dX8_least_10 : decode cX8_least 10 = .ok (.iconst 0, 1) := by decide +kernel
theorem dX8_least_11 : decode cX8_least 11 = .ok (.istore_n 1, 1) := by decide +kernel
theorem dX8_least_12 : decode cX8_least 12 = .ok (.iconst 0, 1) := by decide +kernel
theorem dX8_least_13 : decode cX8_least 13 = .ok (.istore_n 2, 1) := by decide +kernel
theorem dX8_least_14 : decode cX8_least 14 = .ok (.iload_n 2, 1) := by decide +kernel
theorem dX8_least_15 : decode cX8_least 15 = .ok (.aload_n 0, 1) := by decide +kernel
theorem dX8_least_16 : decode cX8_least 16 = .ok (.getfield 143, 3) := by decide +kernel
theorem dX8_least_19 : decode cX8_least 19 = .ok (.if_icmp .ge 25, 3) := by decide +kernel
theorem dX8_least_22 : decode cX8_least 22 = .ok (.iload_n 1, 1) := by decide +kernel
theorem dX8_least_23 : decode cX8_least 23 = .ok (.aload_n 0, 1) := by decide +kernel
theorem dX8_least_24 : decode cX8_least 24 = .ok (.iload_n 2, 1) := by decide +kernel
theorem dX8_least_25 : decode cX8_least 25 = .ok (.invokevirtual 163, 3) := by decide +kernel
theorem dX8_least_28 : decode cX8_least 28 = .ok (.ifCond .eq 7, 3) := by decide +kernel
theorem dX8_least_31 : decode cX8_least 31 = .ok (.iconst 1, 1) := by decide +kernel
theorem dX8_least_32 : decode cX8_least 32 = .ok (.goto 4, 3) := by decide +kernel
theorem dX8_least_35 : decode cX8_least 35 = .ok (.iconst 0, 1) := by decide +kernel
theorem dX8_least_36 : decode cX8_least 36 = .ok (.iadd, 1) := by decide +kernel
theorem dX8_least_37 : decode cX8_least 37 = .ok (.istore_n 1, 1) := by decide +kernel
theorem dX8_least_38 : decode cX8_least 38 = .ok (.iinc 2 1, 3) := by decide +kernel
theorem dX8_least_41 : decode cX8_least 41 = .ok (.goto (-27), 3) := by decide +kernel
theorem dX8_least_44 : decode cX8_least 44 = .ok (.iload_n 1, 1) := by decide +kernel
theorem dX8_least_45 : decode cX8_least 45 = .ok (.ireturn, 1) := by decide +kernel
set_option maxRecDepth 20000 in
theorem ggX8_nearest_X8_isBelow : GoodIn wsX8_nearest wsX8_isBelow := goodIn_r _ [6, 7, 8, 9, 10, 11, 5, 12, 13, 14, 15, 16, 17, 18, 19, 20, 21, 22, 23, 24, 25, 26, 27, 28, 29, 30, 31, 32, 33, 34, 35, 36, 37] (by decide +kernel) (by decide +kernel)
set_option maxRecDepth 20000 in
theorem gX8_nearest_X8_isBelow : GoodIn wsX8_nearest (wsV RX8 146 RX8 yX8_isBelow wsX8_isBelow) := goodIn_app (goodIn_of _ (by decide +kernel)) ggX8_nearest_X8_isBelow
theorem dX8_nearest_0 : decode cX8_nearest 0 = .ok (.iconst 0, 1) := by decide +kernel
theorem dX8_nearest_1 : decode cX8_nearest 1 = .ok (.istore_n 1, 1) := by decide +kernel
theorem dX8_nearest_2 : decode cX8_nearest 2 = .ok (.iload_n 1, 1) := by decide +kernel
theorem dX8_nearest_3 : decode cX8_nearest 3 = .ok (.aload_n 0, 1) := by decide +kernel
theorem dX8_nearest_4 : decode cX8_nearest 4 = .ok (.getfield 143, 3) := by decide +kernel
theorem dX8_nearest_7 : decode cX8_nearest 7 = .ok (.if_icmp .ge 21, 3) := by decide +kernel
theorem dX8_nearest_10 : decode cX8_nearest 10 = .ok (.aload_n 0, 1) := by decide +kernel
theorem dX8_nearest_11 : decode cX8_nearest 11 = .ok (.iload_n 1, 1) := by decide +kernel
theorem dX8_nearest_12 : decode cX8_nearest 12 = .ok (.bipush 82, 2) := by decide +kernel
theorem dX8_nearest_14 : decode cX8_nearest 14 = .ok (.invokevirtual 146, 3) := by decide +kernel
theorem dX8_nearest_17 : decode cX8_nearest 17 = .ok (.ifCond .eq 5, 3) := by decide +kernel
theorem dX8_nearest_20 : decode cX8_nearest 20 = .ok (.iload_n 1, 1) := by decide +kernel
theorem dX8_nearest_21 : decode cX8_nearest 21 = .ok (.ireturn, 1) := by decide +kernel
theorem dX8_nearest_22 : decode cX8_nearest 22 = .ok (.iinc 1 1, 3) := by decide +kernel
theorem dX8_nearest_25 : decode cX8_nearest 25 = .ok (.goto (-23), 3) := by decide +kernel
theorem dX8_nearest_28 : decode cX8_nearest 28 = .ok (.iconst (-1), 1) := by decide +kernel
theorem dX8_nearest_29 : decode cX8_nearest 29 = .ok (.ireturn, 1) := by decide +kernel
set_option maxRecDepth 20000 in
theorem ggX8_far_X8_search : GoodIn wsX8_far wsX8_search := goodIn_r _ [6, 7, 8, 9, 10, 11, 1, 12, 13, 14, 5, 15, 16, 17, 18, 19, 20, 21, 22, 23, 24, 25, 26, 27, 28, 29, 30, 31, 32, 33, 34, 35, 36, 37, 38, 39, 40, 41, 42, 43, 44, 45, 46, 47, 48, 49, 50, 51, 52, 53, 54, 55, 56, 57, 58, 63, 64, 65, 66, 67, 68, 69, 70, 71, 72, 73, 74, 75, 76, 77, 78, 79, 80, 81, 82, 83, 84, 85, 86, 87] (by decide +kernel) (by decide +kernel)
set_option maxRecDepth 20000 in
theorem gX8_far_X8_search : GoodIn wsX8_far (wsV RX8 160 RX8 yX8_search wsX8_search) := goodIn_app (goodIn_of _ (by decide +kernel)) ggX8_far_X8_search
set_option maxRecDepth 20000 in
theorem ggX8_far_X8_nearest : GoodIn wsX8_far wsX8_nearest := goodIn_r _ [62, 7, 55, 56, 57, 5, 58, 10, 11, 16, 17, 18, 19, 63, 64, 65, 66, 67, 68, 69, 70, 71, 72, 73, 74, 75, 76, 77, 78, 79, 80, 81, 82, 83, 84, 85, 86, 87] (by decide +kernel) (by decide +kernel)
set_option maxRecDepth 20000 in
theorem gX8_far_X8_nearest : GoodIn wsX8_far (wsV RX8 166 RX8 yX8_nearest wsX8_nearest) := goodIn_app (goodIn_of _ (by decide +kernel)) ggX8_far_X8_nearest
theorem dX8_far_0 : decode cX8_far 0 = .ok (.aload_n 0, 1) := by decide +kernel
theorem dX8_far_1 : decode cX8_far 1 = .ok (.invokevirtual 160, 3) := by decide +kernel
theorem dX8_far_4 : decode cX8_far 4 = .ok (.ifCond .ne 6, 3) := by decide +kernel
theorem dX8_far_7 : decode cX8_far 7 = .ok (.bipush (-3), 2) := by decide +kernel
theorem dX8_far_9 : decode cX8_far 9 = .ok (.ireturn, 1) := by decide +kernel
theorem dX8_far_10 : decode cX8_far 10 = .ok (.aload_n 0, 1) := by decide +kernel
theorem dX8_far_11 : decode cX8_far 11 = .ok (.invokevirtual 166, 3) := by decide +kernel
theorem dX8_far_14 : decode cX8_far 14 = .ok (.istore_n 1, 1) := by decide +kernel
theorem dX8_far_15 : decode cX8_far 15 = .ok (.iload_n 1, 1) := by decide +kernel
theorem dX8_far_16 : decode cX8_far 16 = .ok (.ifCond .ge 8, 3) := by decide +kernel
theorem dX8_far_19 : decode cX8_far 19 = .ok (.bipush (-4), 2) := by decide +kernel
theorem dX8_far_21 : decode cX8_far 21 = .ok (.goto 9, 3) := by decide +kernel
theorem dX8_far_24 : decode cX8_far 24 = .ok (.aload_n 0, 1) := by decide +kernel
theorem dX8_far_25 : decode cX8_far 25 = .ok (.getfield 48, 3) := by decide +kernel
theorem dX8_far_28 : decode cX8_far 28 = .ok (.iload_n 1, 1) := by decide +kernel
theorem dX8_far_29 : decode cX8_far 29 = .ok (.iaload, 1) := by decide +kernel
theorem dX8_far_30 : decode cX8_far 30 = .ok (.ireturn, 1) := by decide +kernel
set_option maxRecDepth 20000 in
theorem ggX8_way_X8_search : GoodIn wsX8_way wsX8_search := goodIn_r _ [8, 9, 10, 11, 12, 13, 1, 14, 15, 16, 7, 17, 18, 19, 20, 21, 22, 23, 24, 25, 3, 2, 26, 27, 28, 29, 30, 31, 32, 33, 34, 35, 36, 37, 38, 39, 40, 41, 42, 43, 44, 45, 46, 47, 48, 49, 50, 51, 52, 53, 54, 55, 56, 57, 58, 63, 64, 65, 66, 67, 68, 69, 70, 71, 72, 73, 74, 75, 76, 77, 78, 79, 80, 81, 82, 83, 84, 85, 86, 87] (by decide +kernel) (by decide +kernel)
set_option maxRecDepth 20000 in
theorem gX8_way_X8_search : GoodIn wsX8_way (wsV RX8 160 RX8 yX8_search wsX8_search) := goodIn_app (goodIn_of _ (by decide +kernel)) ggX8_way_X8_search
set_option maxRecDepth 20000 in
theorem ggX8_way_X8_nearest : GoodIn wsX8_way wsX8_nearest := goodIn_r _ [62, 9, 55, 56, 57, 7, 58, 12, 13, 18, 19, 20, 21, 63, 64, 65, 66, 67, 68, 69, 70, 71, 72, 73, 74, 75, 76, 77, 78, 79, 80, 81, 82, 83, 84, 85, 86, 87] (by decide +kernel) (by decide +kernel)
set_option maxRecDepth 20000 in
theorem gX8_way_X8_nearest : GoodIn wsX8_way (wsV RX8 166 RX8 yX8_nearest wsX8_nearest) := goodIn_app (goodIn_of _ (by decide +kernel)) ggX8_way_X8_nearest
theorem dX8_way_0 : decode cX8_way 0 = .ok (.iload_n 1, 1) := by decide +kernel
theorem dX8_way_1 : decode cX8_way 1 = .ok (.ifCond .ge 5, 3) := by decide +kernel
theorem dX8_way_4 : decode cX8_way 4 = .ok (.iconst (-1), 1) := by decide +kernel
theorem dX8_way_5 : decode cX8_way 5 = .ok (.ireturn, 1) := by decide +kernel
theorem dX8_way_6 : decode cX8_way 6 = .ok (.aload_n 0, 1) := by decide +kernel
theorem dX8_way_7 : decode cX8_way 7 = .ok (.invokevirtual 160, 3) := by decide +kernel
theorem dX8_way_10 : decode cX8_way 10 = .ok (.ifCond .ne 6, 3) := by decide +kernel
theorem dX8_way_13 : decode cX8_way 13 = .ok (.bipush (-3), 2) := by decide +kernel
theorem dX8_way_15 : decode cX8_way 15 = .ok (.ireturn, 1) := by decide +kernel
theorem dX8_way_16 : decode cX8_way 16 = .ok (.aload_n 0, 1) := by decide +kernel
theorem dX8_way_17 : decode cX8_way 17 = .ok (.invokevirtual 166, 3) := by decide +kernel
theorem dX8_way_20 : decode cX8_way 20 = .ok (.istore_n 2, 1) := by decide +kernel
theorem dX8_way_21 : decode cX8_way 21 = .ok (.iload_n 2, 1) := by decide +kernel
theorem dX8_way_22 : decode cX8_way 22 = .ok (.ifCond .ge 6, 3) := by decide +kernel
theorem dX8_way_25 : decode cX8_way 25 = .ok (.bipush (-4), 2) := by decide +kernel
theorem dX8_way_27 : decode cX8_way 27 = .ok (.ireturn, 1) := by decide +kernel
theorem dX8_way_28 : decode cX8_way 28 = .ok (.iload_n 1, 1) := by decide +kernel
theorem dX8_way_29 : decode cX8_way 29 = .ok (.aload_n 0, 1) := by decide +kernel
theorem dX8_way_30 : decode cX8_way 30 = .ok (.getfield 48, 3) := by decide +kernel
theorem dX8_way_33 : decode cX8_way 33 = .ok (.iload_n 2, 1) := by decide +kernel
theorem dX8_way_34 : decode cX8_way 34 = .ok (.iaload, 1) := by decide +kernel
theorem dX8_way_35 : decode cX8_way 35 = .ok (.if_icmp .lt 5, 3) := by decide +kernel
theorem dX8_way_38 : decode cX8_way 38 = .ok (.iconst (-1), 1) := by decide +kernel
theorem dX8_way_39 : decode cX8_way 39 = .ok (.ireturn, 1) := by decide +kernel
theorem dX8_way_40 : decode cX8_way 40 = .ok (.iconst 0, 1) := by decide +kernel
theorem dX8_way_41 : decode cX8_way 41 = .ok (.istore_n 3, 1) := by decide +kernel
theorem dX8_way_42 : decode cX8_way 42 = .ok (.iload_n 3, 1) := by decide +kernel
theorem dX8_way_43 : decode cX8_way 43 = .ok (.iload_n 1, 1) := by decide +kernel
theorem dX8_way_44 : decode cX8_way 44 = .ok (.if_icmp .ge 16, 3) := by decide +kernel
theorem dX8_way_47 : decode cX8_way 47 = .ok (.aload_n 0, 1) := by decide +kernel
theorem dX8_way_48 : decode cX8_way 48 = .ok (.getfield 54, 3) := by decide +kernel
theorem dX8_way_51 : decode cX8_way 51 = .ok (.iload_n 2, 1) := by decide +kernel
theorem dX8_way_52 : decode cX8_way 52 = .ok (.iaload, 1) := by decide +kernel
theorem dX8_way_53 : decode cX8_way 53 = .ok (.istore_n 2, 1) := by decide +kernel
theorem dX8_way_54 : decode cX8_way 54 = .ok (.iinc 3 1, 3) := by decide +kernel
theorem dX8_way_57 : decode cX8_way 57 = .ok (.goto (-15), 3) := by decide +kernel
theorem dX8_way_60 : decode cX8_way 60 = .ok (.aload_n 0, 1) := by decide +kernel
theorem dX8_way_61 : decode cX8_way 61 = .ok (.getfield 51, 3) := by decide +kernel
theorem dX8_way_64 : decode cX8_way 64 = .ok (.iload_n 2, 1) := by decide +kernel
theorem dX8_way_65 : decode cX8_way 65 = .ok (.iaload, 1) := by decide +kernel
theorem dX8_way_66 : decode cX8_way 66 = .ok (.ireturn, 1) := by decide +kernel
set_option maxRecDepth 20000 in
theorem ggX8_codeOf_X8_spot : GoodIn wsX8_codeOf wsX8_spot := goodIn_r _ [6] (by decide +kernel) (by decide +kernel)
set_option maxRecDepth 20000 in
theorem gX8_codeOf_X8_spot : GoodIn wsX8_codeOf (va_wsS RX8 122 yX8_spot wsX8_spot) := goodIn_app (goodIn_of _ (by decide +kernel)) ggX8_codeOf_X8_spot
theorem dX8_codeOf_0 : decode cX8_codeOf 0 = .ok (.iconst 0, 1) := by decide +kernel
theorem dX8_codeOf_1 : decode cX8_codeOf 1 = .ok (.istore_n 3, 1) := by decide +kernel
theorem dX8_codeOf_2 : decode cX8_codeOf 2 = .ok (.aload_n 0, 1) := by decide +kernel
theorem dX8_codeOf_3 : decode cX8_codeOf 3 = .ok (.getfield 42, 3) := by decide +kernel
theorem dX8_codeOf_6 : decode cX8_codeOf 6 = .ok (.iconst 2, 1) := by decide +kernel
theorem dX8_codeOf_7 : decode cX8_codeOf 7 = .ok (.iload_n 1, 1) := by decide +kernel
theorem dX8_codeOf_8 : decode cX8_codeOf 8 = .ok (.imul, 1) := by decide +kernel
theorem dX8_codeOf_9 : decode cX8_codeOf 9 = .ok (.iload_n 2, 1) := by decide +kernel
theorem dX8_codeOf_10 : decode cX8_codeOf 10 = .ok (.iadd, 1) := by decide +kernel
theorem dX8_codeOf_11 : decode cX8_codeOf 11 = .ok (.iaload, 1) := by decide +kernel
theorem dX8_codeOf_12 : decode cX8_codeOf 12 = .ok (.iconst 1, 1) := by decide +kernel
theorem dX8_codeOf_13 : decode cX8_codeOf 13 = .ok (.isub, 1) := by decide +kernel
theorem dX8_codeOf_14 : decode cX8_codeOf 14 = .ok (.istore 4, 2) := by decide +kernel
theorem dX8_codeOf_16 : decode cX8_codeOf 16 = .ok (.iload 4, 2) := by decide +kernel
theorem dX8_codeOf_18 : decode cX8_codeOf 18 = .ok (.ifCond .lt 28, 3) := by decide +kernel
theorem dX8_codeOf_21 : decode cX8_codeOf 21 = .ok (.iconst 4, 1) := by decide +kernel
theorem dX8_codeOf_22 : decode cX8_codeOf 22 = .ok (.iload_n 3, 1) := by decide +kernel
theorem dX8_codeOf_23 : decode cX8_codeOf 23 = .ok (.imul, 1) := by decide +kernel
theorem dX8_codeOf_24 : decode cX8_codeOf 24 = .ok (.aload_n 0, 1) := by decide +kernel
theorem dX8_codeOf_25 : decode cX8_codeOf 25 = .ok (.getfield 45, 3) := by decide +kernel
theorem dX8_codeOf_28 : decode cX8_codeOf 28 = .ok (.iload_n 1, 1) := by decide +kernel
theorem dX8_codeOf_29 : decode cX8_codeOf 29 = .ok (.iload_n 2, 1) := by decide +kernel
theorem dX8_codeOf_30 : decode cX8_codeOf 30 = .ok (.iload 4, 2) := by decide +kernel
theorem dX8_codeOf_32 : decode cX8_codeOf 32 = .ok (.invokestatic 122, 3) := by decide +kernel
theorem dX8_codeOf_35 : decode cX8_codeOf 35 = .ok (.iaload, 1) := by decide +kernel
theorem dX8_codeOf_36 : decode cX8_codeOf 36 = .ok (.iadd, 1) := by decide +kernel
theorem dX8_codeOf_37 : decode cX8_codeOf 37 = .ok (.iconst 1, 1) := by decide +kernel
theorem dX8_codeOf_38 : decode cX8_codeOf 38 = .ok (.iadd, 1) := by decide +kernel
theorem dX8_codeOf_39 : decode cX8_codeOf 39 = .ok (.istore_n 3, 1) := by decide +kernel
theorem dX8_codeOf_40 : decode cX8_codeOf 40 = .ok (.iinc 4 (-1), 3) := by decide +kernel
theorem dX8_codeOf_43 : decode cX8_codeOf 43 = .ok (.goto (-27), 3) := by decide +kernel
theorem dX8_codeOf_46 : decode cX8_codeOf 46 = .ok (.iload_n 3, 1) := by decide +kernel
theorem dX8_codeOf_47 : decode cX8_codeOf 47 = .ok (.ireturn, 1) := by decide +kernel
set_option maxRecDepth 20000 in
theorem ggX8_decode_X8_spot : GoodIn wsX8_decode wsX8_spot := goodIn_r _ [6] (by decide +kernel) (by decide +kernel)
set_option maxRecDepth 20000 in
theorem gX8_decode_X8_spot : GoodIn wsX8_decode (va_wsS RX8 122 yX8_spot wsX8_spot) := goodIn_app (goodIn_of _ (by decide +kernel)) ggX8_decode_X8_spot
theorem dX8_decode_0 : decode cX8_decode 0 = .ok (.iload_n 1, 1) := by decide +kernel
theorem dX8_decode_1 : decode cX8_decode 1 = .ok (.istore 4, 2) := by decide +kernel
theorem dX8_decode_3 : decode cX8_decode 3 = .ok (.aload_n 0, 1) := by decide +kernel
theorem dX8_decode_4 : decode cX8_decode 4 = .ok (.getfield 42, 3) := by decide +kernel
theorem dX8_decode_7 : decode cX8_decode 7 = .ok (.iconst 2, 1) := by decide +kernel
theorem dX8_decode_8 : decode cX8_decode 8 = .ok (.iload_n 2, 1) := by decide +kernel
theorem dX8_decode_9 : decode cX8_decode 9 = .ok (.imul, 1) := by decide +kernel
theorem dX8_decode_10 : decode cX8_decode 10 = .ok (.iload_n 3, 1) := by decide +kernel
theorem dX8_decode_11 : decode cX8_decode 11 = .ok (.iadd, 1) := by decide +kernel
theorem dX8_decode_12 : decode cX8_decode 12 = .ok (.iconst 0, 1) := by decide +kernel
theorem dX8_decode_13 : decode cX8_decode 13 = .ok (.iastore, 1) := by decide +kernel
theorem dX8_decode_14 : decode cX8_decode 14 = .ok (.iload 4, 2) := by decide +kernel
theorem dX8_decode_16 : decode cX8_decode 16 = .ok (.ifCond .le 52, 3) := by decide +kernel
theorem dX8_decode_19 : decode cX8_decode 19 = .ok (.aload_n 0, 1) := by decide +kernel
theorem dX8_decode_20 : decode cX8_decode 20 = .ok (.getfield 45, 3) := by decide +kernel
theorem dX8_decode_23 : decode cX8_decode 23 = .ok (.iload_n 2, 1) := by decide +kernel
theorem dX8_decode_24 : decode cX8_decode 24 = .ok (.iload_n 3, 1) := by decide +kernel
theorem dX8_decode_25 : decode cX8_decode 25 = .ok (.aload_n 0, 1) := by decide +kernel
theorem dX8_decode_26 : decode cX8_decode 26 = .ok (.getfield 42, 3) := by decide +kernel
theorem dX8_decode_29 : decode cX8_decode 29 = .ok (.iconst 2, 1) := by decide +kernel
theorem dX8_decode_30 : decode cX8_decode 30 = .ok (.iload_n 2, 1) := by decide +kernel
theorem dX8_decode_31 : decode cX8_decode 31 = .ok (.imul, 1) := by decide +kernel
theorem dX8_decode_32 : decode cX8_decode 32 = .ok (.iload_n 3, 1) := by decide +kernel
theorem dX8_decode_33 : decode cX8_decode 33 = .ok (.iadd, 1) := by decide +kernel
theorem dX8_decode_34 : decode cX8_decode 34 = .ok (.iaload, 1) := by decide +kernel
theorem dX8_decode_35 : decode cX8_decode 35 = .ok (.invokestatic 122, 3) := by decide +kernel
theorem dX8_decode_38 : decode cX8_decode 38 = .ok (.iload 4, 2) := by decide +kernel
theorem dX8_decode_40 : decode cX8_decode 40 = .ok (.iconst 4, 1) := by decide +kernel
theorem dX8_decode_41 : decode cX8_decode 41 = .ok (.irem, 1) := by decide +kernel
theorem dX8_decode_42 : decode cX8_decode 42 = .ok (.iconst 1, 1) := by decide +kernel
theorem dX8_decode_43 : decode cX8_decode 43 = .ok (.isub, 1) := by decide +kernel
theorem dX8_decode_44 : decode cX8_decode 44 = .ok (.iastore, 1) := by decide +kernel
theorem dX8_decode_45 : decode cX8_decode 45 = .ok (.aload_n 0, 1) := by decide +kernel
theorem dX8_decode_46 : decode cX8_decode 46 = .ok (.getfield 42, 3) := by decide +kernel
theorem dX8_decode_49 : decode cX8_decode 49 = .ok (.iconst 2, 1) := by decide +kernel
theorem dX8_decode_50 : decode cX8_decode 50 = .ok (.iload_n 2, 1) := by decide +kernel
theorem dX8_decode_51 : decode cX8_decode 51 = .ok (.imul, 1) := by decide +kernel
theorem dX8_decode_52 : decode cX8_decode 52 = .ok (.iload_n 3, 1) := by decide +kernel
theorem dX8_decode_53 : decode cX8_decode 53 = .ok (.iadd, 1) := by decide +kernel
theorem dX8_decode_54 : decode cX8_decode 54 = .ok (.dup2, 1) := by decide +kernel
theorem dX8_decode_55 : decode cX8_decode 55 = .ok (.iaload, 1) := by decide +kernel
theorem dX8_decode_56 : decode cX8_decode 56 = .ok (.iconst 1, 1) := by decide +kernel
theorem dX8_decode_57 : decode cX8_decode 57 = .ok (.iadd, 1) := by decide +kernel
theorem dX8_decode_58 : decode cX8_decode 58 = .ok (.iastore, 1) := by decide +kernel
theorem dX8_decode_59 : decode cX8_decode 59 = .ok (.iload 4, 2) := by decide +kernel
theorem dX8_decode_61 : decode cX8_decode 61 = .ok (.iconst 4, 1) := by decide +kernel
theorem dX8_decode_62 : decode cX8_decode 62 = .ok (.idiv, 1) := by decide +kernel
theorem dX8_decode_63 : decode cX8_decode 63 = .ok (.istore 4, 2) := by decide +kernel
theorem dX8_decode_65 : decode cX8_decode 65 = .ok (.goto (-51), 3) := by decide +kernel
theorem dX8_decode_68 : decode cX8_decode 68 = .ok (.return_, 1) := by decide +kernel
set_option maxRecDepth 20000 in
theorem ggX8_wholeCode_X8_codeOf : GoodIn wsX8_wholeCode wsX8_codeOf := goodIn_r _ [6, 7, 8, 9, 10, 5, 11, 12, 13, 14, 15, 16, 17, 18, 19, 20, 21, 22, 23, 24, 25, 26, 27, 28, 29, 30, 31, 32, 33, 34, 35, 36] (by decide +kernel) (by decide +kernel)
set_option maxRecDepth 20000 in
theorem gX8_wholeCode_X8_codeOf : GoodIn wsX8_wholeCode (wsV RX8 169 RX8 yX8_codeOf wsX8_codeOf) := goodIn_app (goodIn_of _ (by decide +kernel)) ggX8_wholeCode_X8_codeOf
theorem dX8_wholeCode_0 : decode cX8_wholeCode 0 = .ok (.sipush 4096, 3) := by decide +kernel
theorem dX8_wholeCode_3 : decode cX8_wholeCode 3 = .ok (.aload_n 0, 1) := by decide +kernel
theorem dX8_wholeCode_4 : decode cX8_wholeCode 4 = .ok (.getfield 39, 3) := by decide +kernel
theorem dX8_wholeCode_7 : decode cX8_wholeCode 7 = .ok (.iload_n 1, 1) := by decide +kernel
theorem dX8_wholeCode_8 : decode cX8_wholeCode 8 = .ok (.iaload, 1) := by decide +kernel
theorem dX8_wholeCode_9 : decode cX8_wholeCode 9 = .ok (.imul, 1) := by decide +kernel
theorem dX8_wholeCode_10 : decode cX8_wholeCode 10 = .ok (.bipush 64, 2) := by decide +kernel
theorem dX8_wholeCode_12 : decode cX8_wholeCode 12 = .ok (.aload_n 0, 1) := by decide +kernel
theorem dX8_wholeCode_13 : decode cX8_wholeCode 13 = .ok (.iload_n 1, 1) := by decide +kernel
theorem dX8_wholeCode_14 : decode cX8_wholeCode 14 = .ok (.iconst 0, 1) := by decide +kernel
theorem dX8_wholeCode_15 : decode cX8_wholeCode 15 = .ok (.invokevirtual 169, 3) := by decide +kernel
theorem dX8_wholeCode_18 : decode cX8_wholeCode 18 = .ok (.imul, 1) := by decide +kernel
theorem dX8_wholeCode_19 : decode cX8_wholeCode 19 = .ok (.iadd, 1) := by decide +kernel
theorem dX8_wholeCode_20 : decode cX8_wholeCode 20 = .ok (.aload_n 0, 1) := by decide +kernel
theorem dX8_wholeCode_21 : decode cX8_wholeCode 21 = .ok (.iload_n 1, 1) := by decide +kernel
theorem dX8_wholeCode_22 : decode cX8_wholeCode 22 = .ok (.iconst 1, 1) := by decide +kernel
theorem dX8_wholeCode_23 : decode cX8_wholeCode 23 = .ok (.invokevirtual 169, 3) := by decide +kernel
theorem dX8_wholeCode_26 : decode cX8_wholeCode 26 = .ok (.iadd, 1) := by decide +kernel
theorem dX8_wholeCode_27 : decode cX8_wholeCode 27 = .ok (.ireturn, 1) := by decide +kernel
set_option maxRecDepth 20000 in
theorem ggX8_goes_X8_firstOf : GoodIn wsX8_goes wsX8_firstOf := goodIn_r _ [13, 7, 14, 15, 16, 12, 17, 30, 31, 32, 33, 34, 35, 36, 37, 38, 39, 40, 41, 42, 43, 44, 45, 46, 47, 48, 49, 50, 51, 52, 53, 54] (by decide +kernel) (by decide +kernel)
set_option maxRecDepth 20000 in
theorem gX8_goes_X8_firstOf : GoodIn wsX8_goes (wsV RX8 126 RX8 yX8_firstOf wsX8_firstOf) := goodIn_app (goodIn_of _ (by decide +kernel)) ggX8_goes_X8_firstOf
set_option maxRecDepth 20000 in
theorem ggX8_goes_X8_takeOut : GoodIn wsX8_goes wsX8_takeOut := goodIn_r _ [21, 7, 14, 15, 16, 12, 17, 30, 31, 32, 33, 34, 35, 36, 37, 38, 39, 40, 41, 42, 43, 44, 45, 46, 47, 48, 49, 50, 51, 52, 53, 54] (by decide +kernel) (by decide +kernel)
set_option maxRecDepth 20000 in
theorem gX8_goes_X8_takeOut : GoodIn wsX8_goes (wsV RX8 129 RX8 yX8_takeOut wsX8_takeOut) := goodIn_app (goodIn_of _ (by decide +kernel)) ggX8_goes_X8_takeOut
set_option maxRecDepth 20000 in
theorem ggX8_goes_X8_inOrder : GoodIn wsX8_goes wsX8_inOrder := goodIn_r _ [25, 7, 14, 15, 16, 12, 17, 30, 31, 32, 33, 34, 35, 36, 37, 38, 39, 40, 41, 42, 43, 44, 45, 46, 47, 48, 49, 50, 51, 52, 53, 54] (by decide +kernel) (by decide +kernel)
set_option maxRecDepth 20000 in
theorem gX8_goes_X8_inOrder : GoodIn wsX8_goes (wsV RX8 133 RX8 yX8_inOrder wsX8_inOrder) := goodIn_app (goodIn_of _ (by decide +kernel)) ggX8_goes_X8_inOrder
set_option maxRecDepth 20000 in
theorem ggX8_goes_X8_putIn : GoodIn wsX8_goes wsX8_putIn := goodIn_r _ [29, 7, 14, 15, 16, 12, 17, 30, 31, 32, 33, 34, 35, 36, 37, 38, 39, 40, 41, 42, 43, 44, 45, 46, 47, 48, 49, 50, 51, 52, 53, 54] (by decide +kernel) (by decide +kernel)
set_option maxRecDepth 20000 in
theorem gX8_goes_X8_putIn : GoodIn wsX8_goes (wsV RX8 136 RX8 yX8_putIn wsX8_putIn) := goodIn_app (goodIn_of _ (by decide +kernel)) ggX8_goes_X8_putIn
theorem dX8_goes_0 : decode cX8_goes 0 = .ok (.aload_n 0, 1) := by decide +kernel
theorem dX8_goes_1 : decode cX8_goes 1 = .ok (.getfield 24, 3) := by decide +kernel
theorem dX8_goes_4 : decode cX8_goes 4 = .ok (.iload_n 1, 1) := by decide +kernel
theorem dX8_goes_5 : decode cX8_goes 5 = .ok (.iaload, 1) := by decide +kernel
theorem dX8_goes_6 : decode cX8_goes 6 = .ok (.istore_n 3, 1) := by decide +kernel
theorem dX8_goes_7 : decode cX8_goes 7 = .ok (.aload_n 0, 1) := by decide +kernel
theorem dX8_goes_8 : decode cX8_goes 8 = .ok (.getfield 27, 3) := by decide +kernel
theorem dX8_goes_11 : decode cX8_goes 11 = .ok (.iload_n 1, 1) := by decide +kernel
theorem dX8_goes_12 : decode cX8_goes 12 = .ok (.iaload, 1) := by decide +kernel
theorem dX8_goes_13 : decode cX8_goes 13 = .ok (.istore 4, 2) := by decide +kernel
theorem dX8_goes_15 : decode cX8_goes 15 = .ok (.aload_n 0, 1) := by decide +kernel
theorem dX8_goes_16 : decode cX8_goes 16 = .ok (.getfield 17, 3) := by decide +kernel
theorem dX8_goes_19 : decode cX8_goes 19 = .ok (.iload_n 1, 1) := by decide +kernel
theorem dX8_goes_20 : decode cX8_goes 20 = .ok (.iaload, 1) := by decide +kernel
theorem dX8_goes_21 : decode cX8_goes 21 = .ok (.aload_n 0, 1) := by decide +kernel
theorem dX8_goes_22 : decode cX8_goes 22 = .ok (.getfield 39, 3) := by decide +kernel
theorem dX8_goes_25 : decode cX8_goes 25 = .ok (.bipush 80, 2) := by decide +kernel
theorem dX8_goes_27 : decode cX8_goes 27 = .ok (.iaload, 1) := by decide +kernel
theorem dX8_goes_28 : decode cX8_goes 28 = .ok (.if_icmp .eq 5, 3) := by decide +kernel
theorem dX8_goes_31 : decode cX8_goes 31 = .ok (.iconst 0, 1) := by decide +kernel
theorem dX8_goes_32 : decode cX8_goes 32 = .ok (.ireturn, 1) := by decide +kernel
theorem dX8_goes_33 : decode cX8_goes 33 = .ok (.aload_n 0, 1) := by decide +kernel
theorem dX8_goes_34 : decode cX8_goes 34 = .ok (.getfield 21, 3) := by decide +kernel
theorem dX8_goes_37 : decode cX8_goes 37 = .ok (.iload_n 1, 1) := by decide +kernel
theorem dX8_goes_38 : decode cX8_goes 38 = .ok (.iaload, 1) := by decide +kernel
theorem dX8_goes_39 : decode cX8_goes 39 = .ok (.iconst 2, 1) := by decide +kernel
theorem dX8_goes_40 : decode cX8_goes 40 = .ok (.if_icmp .ne 47, 3) := by decide +kernel
theorem dX8_goes_43 : decode cX8_goes 43 = .ok (.aload_n 0, 1) := by decide +kernel
theorem dX8_goes_44 : decode cX8_goes 44 = .ok (.bipush 80, 2) := by decide +kernel
theorem dX8_goes_46 : decode cX8_goes 46 = .ok (.iload_n 3, 1) := by decide +kernel
theorem dX8_goes_47 : decode cX8_goes 47 = .ok (.iload 4, 2) := by decide +kernel
theorem dX8_goes_49 : decode cX8_goes 49 = .ok (.invokevirtual 126, 3) := by decide +kernel
theorem dX8_goes_52 : decode cX8_goes 52 = .ok (.istore 5, 2) := by decide +kernel
theorem dX8_goes_54 : decode cX8_goes 54 = .ok (.iload 5, 2) := by decide +kernel
theorem dX8_goes_56 : decode cX8_goes 56 = .ok (.ifCond .lt 17, 3) := by decide +kernel
theorem dX8_goes_59 : decode cX8_goes 59 = .ok (.iload 5, 2) := by decide +kernel
theorem dX8_goes_61 : decode cX8_goes 61 = .ok (.ifCond .le 14, 3) := by decide +kernel
theorem dX8_goes_64 : decode cX8_goes 64 = .ok (.aload_n 0, 1) := by decide +kernel
theorem dX8_goes_65 : decode cX8_goes 65 = .ok (.getfield 13, 3) := by decide +kernel
theorem dX8_goes_68 : decode cX8_goes 68 = .ok (.iload_n 3, 1) := by decide +kernel
theorem dX8_goes_69 : decode cX8_goes 69 = .ok (.baload, 1) := by decide +kernel
theorem dX8_goes_70 : decode cX8_goes 70 = .ok (.ifCond .ne 5, 3) := by decide +kernel
theorem dX8_goes_73 : decode cX8_goes 73 = .ok (.iconst 0, 1) := by decide +kernel
theorem dX8_goes_74 : decode cX8_goes 74 = .ok (.ireturn, 1) := by decide +kernel
theorem dX8_goes_75 : decode cX8_goes 75 = .ok (.aload_n 0, 1) := by decide +kernel
theorem dX8_goes_76 : decode cX8_goes 76 = .ok (.bipush 80, 2) := by decide +kernel
theorem dX8_goes_78 : decode cX8_goes 78 = .ok (.iload_n 3, 1) := by decide +kernel
theorem dX8_goes_79 : decode cX8_goes 79 = .ok (.iload 5, 2) := by decide +kernel
theorem dX8_goes_81 : decode cX8_goes 81 = .ok (.invokevirtual 129, 3) := by decide +kernel
theorem dX8_goes_84 : decode cX8_goes 84 = .ok (.goto 69, 3) := by decide +kernel
theorem dX8_goes_87 : decode cX8_goes 87 = .ok (.aload_n 0, 1) := by decide +kernel
theorem dX8_goes_88 : decode cX8_goes 88 = .ok (.getfield 21, 3) := by decide +kernel
theorem dX8_goes_91 : decode cX8_goes 91 = .ok (.iload_n 1, 1) := by decide +kernel
theorem dX8_goes_92 : decode cX8_goes 92 = .ok (.iaload, 1) := by decide +kernel
theorem dX8_goes_93 : decode cX8_goes 93 = .ok (.iconst 1, 1) := by decide +kernel
theorem dX8_goes_94 : decode cX8_goes 94 = .ok (.if_icmp .ne 59, 3) := by decide +kernel
theorem dX8_goes_97 : decode cX8_goes 97 = .ok (.aload_n 0, 1) := by decide +kernel
theorem dX8_goes_98 : decode cX8_goes 98 = .ok (.getfield 42, 3) := by decide +kernel
theorem dX8_goes_101 : decode cX8_goes 101 = .ok (.sipush 160, 3) := by decide +kernel
theorem dX8_goes_104 : decode cX8_goes 104 = .ok (.iload_n 3, 1) := by decide +kernel
theorem dX8_goes_105 : decode cX8_goes 105 = .ok (.iadd, 1) := by decide +kernel
theorem dX8_goes_106 : decode cX8_goes 106 = .ok (.iaload, 1) := by decide +kernel
theorem dX8_goes_107 : decode cX8_goes 107 = .ok (.iload_n 2, 1) := by decide +kernel
theorem dX8_goes_108 : decode cX8_goes 108 = .ok (.if_icmp .lt 5, 3) := by decide +kernel
theorem dX8_goes_111 : decode cX8_goes 111 = .ok (.iconst 0, 1) := by decide +kernel
theorem dX8_goes_112 : decode cX8_goes 112 = .ok (.ireturn, 1) := by decide +kernel
theorem dX8_goes_113 : decode cX8_goes 113 = .ok (.aload_n 0, 1) := by decide +kernel
theorem dX8_goes_114 : decode cX8_goes 114 = .ok (.bipush 80, 2) := by decide +kernel
theorem dX8_goes_116 : decode cX8_goes 116 = .ok (.iload_n 3, 1) := by decide +kernel
theorem dX8_goes_117 : decode cX8_goes 117 = .ok (.aload_n 0, 1) := by decide +kernel
theorem dX8_goes_118 : decode cX8_goes 118 = .ok (.getfield 13, 3) := by decide +kernel
theorem dX8_goes_121 : decode cX8_goes 121 = .ok (.iload_n 3, 1) := by decide +kernel
theorem dX8_goes_122 : decode cX8_goes 122 = .ok (.baload, 1) := by decide +kernel
theorem dX8_goes_123 : decode cX8_goes 123 = .ok (.ifCond .eq 15, 3) := by decide +kernel
theorem dX8_goes_126 : decode cX8_goes 126 = .ok (.aload_n 0, 1) := by decide +kernel
theorem dX8_goes_127 : decode cX8_goes 127 = .ok (.bipush 80, 2) := by decide +kernel
theorem dX8_goes_129 : decode cX8_goes 129 = .ok (.iload_n 3, 1) := by decide +kernel
theorem dX8_goes_130 : decode cX8_goes 130 = .ok (.iload 4, 2) := by decide +kernel
theorem dX8_goes_132 : decode cX8_goes 132 = .ok (.invokevirtual 133, 3) := by decide +kernel
theorem dX8_goes_135 : decode cX8_goes 135 = .ok (.goto 13, 3) := by decide +kernel
theorem dX8_goes_138 : decode cX8_goes 138 = .ok (.aload_n 0, 1) := by decide +kernel
theorem dX8_goes_139 : decode cX8_goes 139 = .ok (.getfield 42, 3) := by decide +kernel
theorem dX8_goes_142 : decode cX8_goes 142 = .ok (.sipush 160, 3) := by decide +kernel
theorem dX8_goes_145 : decode cX8_goes 145 = .ok (.iload_n 3, 1) := by decide +kernel
theorem dX8_goes_146 : decode cX8_goes 146 = .ok (.iadd, 1) := by decide +kernel
theorem dX8_goes_147 : decode cX8_goes 147 = .ok (.iaload, 1) := by decide +kernel
theorem dX8_goes_148 : decode cX8_goes 148 = .ok (.iload 4, 2) := by decide +kernel
theorem dX8_goes_150 : decode cX8_goes 150 = .ok (.invokevirtual 136, 3) := by decide +kernel
theorem dX8_goes_153 : decode cX8_goes 153 = .ok (.aload_n 0, 1) := by decide +kernel
theorem dX8_goes_154 : decode cX8_goes 154 = .ok (.getfield 39, 3) := by decide +kernel
theorem dX8_goes_157 : decode cX8_goes 157 = .ok (.bipush 80, 2) := by decide +kernel
theorem dX8_goes_159 : decode cX8_goes 159 = .ok (.aload_n 0, 1) := by decide +kernel
theorem dX8_goes_160 : decode cX8_goes 160 = .ok (.getfield 30, 3) := by decide +kernel
theorem dX8_goes_163 : decode cX8_goes 163 = .ok (.iload_n 1, 1) := by decide +kernel
theorem dX8_goes_164 : decode cX8_goes 164 = .ok (.iaload, 1) := by decide +kernel
theorem dX8_goes_165 : decode cX8_goes 165 = .ok (.iastore, 1) := by decide +kernel
theorem dX8_goes_166 : decode cX8_goes 166 = .ok (.iconst 1, 1) := by decide +kernel
theorem dX8_goes_167 : decode cX8_goes 167 = .ok (.ireturn, 1) := by decide +kernel
theorem dX8_isLong_0 : decode cX8_isLong 0 = .ok (.aload_n 0, 1) := by decide +kernel
theorem dX8_isLong_1 : decode cX8_isLong 1 = .ok (.getfield 42, 3) := by decide +kernel
theorem dX8_isLong_4 : decode cX8_isLong 4 = .ok (.iconst 2, 1) := by decide +kernel
theorem dX8_isLong_5 : decode cX8_isLong 5 = .ok (.iload_n 1, 1) := by decide +kernel
theorem dX8_isLong_6 : decode cX8_isLong 6 = .ok (.imul, 1) := by decide +kernel
theorem dX8_isLong_7 : decode cX8_isLong 7 = .ok (.iaload, 1) := by decide +kernel
theorem dX8_isLong_8 : decode cX8_isLong 8 = .ok (.iload_n 2, 1) := by decide +kernel
theorem dX8_isLong_9 : decode cX8_isLong 9 = .ok (.if_icmp .gt 17, 3) := by decide +kernel
theorem dX8_isLong_12 : decode cX8_isLong 12 = .ok (.aload_n 0, 1) := by decide +kernel
theorem dX8_isLong_13 : decode cX8_isLong 13 = .ok (.getfield 42, 3) := by decide +kernel
theorem dX8_isLong_16 : decode cX8_isLong 16 = .ok (.iconst 2, 1) := by decide +kernel
theorem dX8_isLong_17 : decode cX8_isLong 17 = .ok (.iload_n 1, 1) := by decide +kernel
theorem dX8_isLong_18 : decode cX8_isLong 18 = .ok (.imul, 1) := by decide +kernel
theorem dX8_isLong_19 : decode cX8_isLong 19 = .ok (.iconst 1, 1) := by decide +kernel
theorem dX8_isLong_20 : decode cX8_isLong 20 = .ok (.iadd, 1) := by decide +kernel
theorem dX8_isLong_21 : decode cX8_isLong 21 = .ok (.iaload, 1) := by decide +kernel
theorem dX8_isLong_22 : decode cX8_isLong 22 = .ok (.iload_n 2, 1) := by decide +kernel
theorem dX8_isLong_23 : decode cX8_isLong 23 = .ok (.if_icmp .le 7, 3) := by decide +kernel
theorem dX8_isLong_26 : decode cX8_isLong 26 = .ok (.iconst 1, 1) := by decide +kernel
theorem dX8_isLong_27 : decode cX8_isLong 27 = .ok (.goto 4, 3) := by decide +kernel
theorem dX8_isLong_30 : decode cX8_isLong 30 = .ok (.iconst 0, 1) := by decide +kernel
theorem dX8_isLong_31 : decode cX8_isLong 31 = .ok (.ireturn, 1) := by decide +kernel
set_option maxRecDepth 20000 in
theorem ggX8_strict_X8_in : GoodIn wsX8_strict wsX8_in := goodIn_r _ [8] (by decide +kernel) (by decide +kernel)
set_option maxRecDepth 20000 in
theorem gX8_strict_X8_in : GoodIn wsX8_strict (va_wsS RX8 73 yX8_in wsX8_in) := goodIn_app (goodIn_of _ (by decide +kernel)) ggX8_strict_X8_in
set_option maxRecDepth 20000 in
theorem ggX8_strict_X8_isLong : GoodIn wsX8_strict wsX8_isLong := goodIn_r _ [12, 13, 65, 66, 67, 68, 69, 70, 71, 72, 73, 74, 75, 76, 77, 78, 79, 80, 81, 82, 83, 84, 85, 86, 87, 88, 89] (by decide +kernel) (by decide +kernel)
set_option maxRecDepth 20000 in
theorem gX8_strict_X8_isLong : GoodIn wsX8_strict (wsV RX8 172 RX8 yX8_isLong wsX8_isLong) := goodIn_app (goodIn_of _ (by decide +kernel)) ggX8_strict_X8_isLong
set_option maxRecDepth 20000 in
theorem ggX8_strict_X8_wholeCode : GoodIn wsX8_strict wsX8_wholeCode := goodIn_r _ [17, 18, 19, 20, 21, 7, 22, 13, 23, 24, 25, 26, 65, 66, 67, 68, 69, 70, 71, 72, 73, 74, 75, 76, 77, 78, 79, 80, 81, 82, 83, 84, 85, 86, 87, 88, 89] (by decide +kernel) (by decide +kernel)
set_option maxRecDepth 20000 in
theorem gX8_strict_X8_wholeCode : GoodIn wsX8_strict (wsV RX8 175 RX8 yX8_wholeCode wsX8_wholeCode) := goodIn_app (goodIn_of _ (by decide +kernel)) ggX8_strict_X8_wholeCode
set_option maxRecDepth 20000 in
theorem ggX8_strict_X8_lay : GoodIn wsX8_strict wsX8_lay := goodIn_r _ [30, 18, 31, 32, 33, 7, 34, 13, 23, 24, 25, 26, 65, 66, 67, 68, 69, 70, 71, 72, 73, 74, 75, 76, 77, 78, 79, 80, 81, 82, 83, 84, 85, 86, 87, 88, 89] (by decide +kernel) (by decide +kernel)
set_option maxRecDepth 20000 in
theorem gX8_strict_X8_lay : GoodIn wsX8_strict (wsV RX8 179 RX8 yX8_lay wsX8_lay) := goodIn_app (goodIn_of _ (by decide +kernel)) ggX8_strict_X8_lay
set_option maxRecDepth 20000 in
theorem ggX8_strict_X8_isBelow : GoodIn wsX8_strict wsX8_isBelow := goodIn_r _ [38, 18, 13, 23, 24, 25, 7, 26, 65, 66, 67, 68, 69, 70, 71, 72, 73, 74, 75, 76, 77, 78, 79, 80, 81, 82, 83, 84, 85, 86, 87, 88, 89] (by decide +kernel) (by decide +kernel)
set_option maxRecDepth 20000 in
theorem gX8_strict_X8_isBelow : GoodIn wsX8_strict (wsV RX8 146 RX8 yX8_isBelow wsX8_isBelow) := goodIn_app (goodIn_of _ (by decide +kernel)) ggX8_strict_X8_isBelow
set_option maxRecDepth 20000 in
theorem ggX8_strict_X8_goes : GoodIn wsX8_strict wsX8_goes := goodIn_r _ [42, 43, 44, 45, 18, 46, 47, 13, 48, 49, 50, 51, 7, 52, 23, 24, 25, 26, 53, 54, 55, 56, 57, 58, 59, 60, 61, 62, 63, 64, 65, 66, 67, 68, 69, 70, 71, 72, 73, 74, 75, 76, 77, 78, 79, 80, 81, 82, 83, 84, 85, 86, 87, 88, 89] (by decide +kernel) (by decide +kernel)
set_option maxRecDepth 20000 in
theorem gX8_strict_X8_goes : GoodIn wsX8_strict (wsV RX8 183 RX8 yX8_goes wsX8_goes) := goodIn_app (goodIn_of _ (by decide +kernel)) ggX8_strict_X8_goes
theorem dX8_strict_0 : decode cX8_strict 0 = .ok (.iload_n 1, 1) := by decide +kernel
theorem dX8_strict_1 : decode cX8_strict 1 = .ok (.iconst 0, 1) := by decide +kernel
theorem dX8_strict_2 : decode cX8_strict 2 = .ok (.iconst 3, 1) := by decide +kernel
theorem dX8_strict_3 : decode cX8_strict 3 = .ok (.invokestatic 73, 3) := by decide +kernel
theorem dX8_strict_6 : decode cX8_strict 6 = .ok (.ifCond .ne 5, 3) := by decide +kernel
theorem dX8_strict_9 : decode cX8_strict 9 = .ok (.iconst (-1), 1) := by decide +kernel
theorem dX8_strict_10 : decode cX8_strict 10 = .ok (.ireturn, 1) := by decide +kernel
theorem dX8_strict_11 : decode cX8_strict 11 = .ok (.aload_n 0, 1) := by decide +kernel
theorem dX8_strict_12 : decode cX8_strict 12 = .ok (.bipush 82, 2) := by decide +kernel
theorem dX8_strict_14 : decode cX8_strict 14 = .ok (.iload_n 1, 1) := by decide +kernel
theorem dX8_strict_15 : decode cX8_strict 15 = .ok (.invokevirtual 172, 3) := by decide +kernel
theorem dX8_strict_18 : decode cX8_strict 18 = .ok (.ifCond .ne 13, 3) := by decide +kernel
theorem dX8_strict_21 : decode cX8_strict 21 = .ok (.aload_n 0, 1) := by decide +kernel
theorem dX8_strict_22 : decode cX8_strict 22 = .ok (.bipush 81, 2) := by decide +kernel
theorem dX8_strict_24 : decode cX8_strict 24 = .ok (.iload_n 1, 1) := by decide +kernel
theorem dX8_strict_25 : decode cX8_strict 25 = .ok (.invokevirtual 172, 3) := by decide +kernel
theorem dX8_strict_28 : decode cX8_strict 28 = .ok (.ifCond .eq 6, 3) := by decide +kernel
theorem dX8_strict_31 : decode cX8_strict 31 = .ok (.bipush (-2), 2) := by decide +kernel
theorem dX8_strict_33 : decode cX8_strict 33 = .ok (.ireturn, 1) := by decide +kernel
theorem dX8_strict_34 : decode cX8_strict 34 = .ok (.iconst 0, 1) := by decide +kernel
theorem dX8_strict_35 : decode cX8_strict 35 = .ok (.istore_n 2, 1) := by decide +kernel
theorem dX8_strict_36 : decode cX8_strict 36 = .ok (.iload_n 2, 1) := by decide +kernel
theorem dX8_strict_37 : decode cX8_strict 37 = .ok (.ldc 57, 2) := by decide +kernel
theorem dX8_strict_39 : decode cX8_strict 39 = .ok (.if_icmp .ge 16, 3) := by decide +kernel
theorem dX8_strict_42 : decode cX8_strict 42 = .ok (.aload_n 0, 1) := by decide +kernel
theorem dX8_strict_43 : decode cX8_strict 43 = .ok (.getfield 61, 3) := by decide +kernel
theorem dX8_strict_46 : decode cX8_strict 46 = .ok (.iload_n 2, 1) := by decide +kernel
theorem dX8_strict_47 : decode cX8_strict 47 = .ok (.iconst (-1), 1) := by decide +kernel
theorem dX8_strict_48 : decode cX8_strict 48 = .ok (.iastore, 1) := by decide +kernel
theorem dX8_strict_49 : decode cX8_strict 49 = .ok (.iinc 2 1, 3) := by decide +kernel
theorem dX8_strict_52 : decode cX8_strict 52 = .ok (.goto (-16), 3) := by decide +kernel
theorem dX8_strict_55 : decode cX8_strict 55 = .ok (.aload_n 0, 1) := by decide +kernel
theorem dX8_strict_56 : decode cX8_strict 56 = .ok (.getfield 58, 3) := by decide +kernel
theorem dX8_strict_59 : decode cX8_strict 59 = .ok (.iconst 0, 1) := by decide +kernel
theorem dX8_strict_60 : decode cX8_strict 60 = .ok (.aload_n 0, 1) := by decide +kernel
theorem dX8_strict_61 : decode cX8_strict 61 = .ok (.bipush 82, 2) := by decide +kernel
theorem dX8_strict_63 : decode cX8_strict 63 = .ok (.invokevirtual 175, 3) := by decide +kernel
theorem dX8_strict_66 : decode cX8_strict 66 = .ok (.iastore, 1) := by decide +kernel
theorem dX8_strict_67 : decode cX8_strict 67 = .ok (.aload_n 0, 1) := by decide +kernel
theorem dX8_strict_68 : decode cX8_strict 68 = .ok (.getfield 61, 3) := by decide +kernel
theorem dX8_strict_71 : decode cX8_strict 71 = .ok (.aload_n 0, 1) := by decide +kernel
theorem dX8_strict_72 : decode cX8_strict 72 = .ok (.getfield 58, 3) := by decide +kernel
theorem dX8_strict_75 : decode cX8_strict 75 = .ok (.iconst 0, 1) := by decide +kernel
theorem dX8_strict_76 : decode cX8_strict 76 = .ok (.iaload, 1) := by decide +kernel
theorem dX8_strict_77 : decode cX8_strict 77 = .ok (.iconst 0, 1) := by decide +kernel
theorem dX8_strict_78 : decode cX8_strict 78 = .ok (.iastore, 1) := by decide +kernel
theorem dX8_strict_79 : decode cX8_strict 79 = .ok (.iconst 1, 1) := by decide +kernel
theorem dX8_strict_80 : decode cX8_strict 80 = .ok (.istore_n 2, 1) := by decide +kernel
theorem dX8_strict_81 : decode cX8_strict 81 = .ok (.iconst 0, 1) := by decide +kernel
theorem dX8_strict_82 : decode cX8_strict 82 = .ok (.istore_n 3, 1) := by decide +kernel
theorem dX8_strict_83 : decode cX8_strict 83 = .ok (.iload_n 3, 1) := by decide +kernel
theorem dX8_strict_84 : decode cX8_strict 84 = .ok (.iload_n 2, 1) := by decide +kernel
theorem dX8_strict_85 : decode cX8_strict 85 = .ok (.if_icmp .ge 138, 3) := by decide +kernel
theorem dX8_strict_88 : decode cX8_strict 88 = .ok (.aload_n 0, 1) := by decide +kernel
theorem dX8_strict_89 : decode cX8_strict 89 = .ok (.aload_n 0, 1) := by decide +kernel
theorem dX8_strict_90 : decode cX8_strict 90 = .ok (.getfield 58, 3) := by decide +kernel
theorem dX8_strict_93 : decode cX8_strict 93 = .ok (.iload_n 3, 1) := by decide +kernel
theorem dX8_strict_94 : decode cX8_strict 94 = .ok (.iaload, 1) := by decide +kernel
theorem dX8_strict_95 : decode cX8_strict 95 = .ok (.invokevirtual 179, 3) := by decide +kernel
theorem dX8_strict_98 : decode cX8_strict 98 = .ok (.aload_n 0, 1) := by decide +kernel
theorem dX8_strict_99 : decode cX8_strict 99 = .ok (.bipush 81, 2) := by decide +kernel
theorem dX8_strict_101 : decode cX8_strict 101 = .ok (.bipush 80, 2) := by decide +kernel
theorem dX8_strict_103 : decode cX8_strict 103 = .ok (.invokevirtual 146, 3) := by decide +kernel
theorem dX8_strict_106 : decode cX8_strict 106 = .ok (.ifCond .eq 15, 3) := by decide +kernel
theorem dX8_strict_109 : decode cX8_strict 109 = .ok (.aload_n 0, 1) := by decide +kernel
theorem dX8_strict_110 : decode cX8_strict 110 = .ok (.getfield 61, 3) := by decide +kernel
theorem dX8_strict_113 : decode cX8_strict 113 = .ok (.aload_n 0, 1) := by decide +kernel
theorem dX8_strict_114 : decode cX8_strict 114 = .ok (.getfield 58, 3) := by decide +kernel
theorem dX8_strict_117 : decode cX8_strict 117 = .ok (.iload_n 3, 1) := by decide +kernel
theorem dX8_strict_118 : decode cX8_strict 118 = .ok (.iaload, 1) := by decide +kernel
theorem dX8_strict_119 : decode cX8_strict 119 = .ok (.iaload, 1) := by decide +kernel
theorem dX8_strict_120 : decode cX8_strict 120 = .ok (.ireturn, 1) := by decide +kernel
theorem dX8_strict_121 : decode cX8_strict 121 = .ok (.iconst 0, 1) := by decide +kernel
theorem dX8_strict_122 : decode cX8_strict 122 = .ok (.istore 4, 2) := by decide +kernel
theorem dX8_strict_124 : decode cX8_strict 124 = .ok (.iload 4, 2) := by decide +kernel
theorem dX8_strict_126 : decode cX8_strict 126 = .ok (.aload_n 0, 1) := by decide +kernel
theorem dX8_strict_127 : decode cX8_strict 127 = .ok (.getfield 77, 3) := by decide +kernel
theorem dX8_strict_130 : decode cX8_strict 130 = .ok (.if_icmp .ge 87, 3) := by decide +kernel
theorem dX8_strict_133 : decode cX8_strict 133 = .ok (.aload_n 0, 1) := by decide +kernel
theorem dX8_strict_134 : decode cX8_strict 134 = .ok (.aload_n 0, 1) := by decide +kernel
theorem dX8_strict_135 : decode cX8_strict 135 = .ok (.getfield 58, 3) := by decide +kernel
theorem dX8_strict_138 : decode cX8_strict 138 = .ok (.iload_n 3, 1) := by decide +kernel
theorem dX8_strict_139 : decode cX8_strict 139 = .ok (.iaload, 1) := by decide +kernel
theorem dX8_strict_140 : decode cX8_strict 140 = .ok (.invokevirtual 179, 3) := by decide +kernel
theorem dX8_strict_143 : decode cX8_strict 143 = .ok (.aload_n 0, 1) := by decide +kernel
theorem dX8_strict_144 : decode cX8_strict 144 = .ok (.iload 4, 2) := by decide +kernel
theorem dX8_strict_146 : decode cX8_strict 146 = .ok (.iload_n 1, 1) := by decide +kernel
theorem dX8_strict_147 : decode cX8_strict 147 = .ok (.invokevirtual 183, 3) := by decide +kernel
theorem dX8_strict_150 : decode cX8_strict 150 = .ok (.ifCond .eq 12, 3) := by decide +kernel
theorem dX8_strict_153 : decode cX8_strict 153 = .ok (.aload_n 0, 1) := by decide +kernel
theorem dX8_strict_154 : decode cX8_strict 154 = .ok (.bipush 80, 2) := by decide +kernel
theorem dX8_strict_156 : decode cX8_strict 156 = .ok (.invokevirtual 175, 3) := by decide +kernel
theorem dX8_strict_159 : decode cX8_strict 159 = .ok (.goto 9, 3) := by decide +kernel
theorem dX8_strict_162 : decode cX8_strict 162 = .ok (.aload_n 0, 1) := by decide +kernel
theorem dX8_strict_163 : decode cX8_strict 163 = .ok (.getfield 58, 3) := by decide +kernel
theorem dX8_strict_166 : decode cX8_strict 166 = .ok (.iload_n 3, 1) := by decide +kernel
theorem dX8_strict_167 : decode cX8_strict 167 = .ok (.iaload, 1) := by decide +kernel
theorem dX8_strict_168 : decode cX8_strict 168 = .ok (.istore 5, 2) := by decide +kernel
end
section
theorem dX8_strict_170 : decode cX8_strict 170 = .ok (.aload_n 0, 1) := by decide +kernel
theorem dX8_strict_171 : decode cX8_strict 171 = .ok (.getfield 61, 3) := by decide +kernel
theorem dX8_strict_174 : decode cX8_strict 174 = .ok (.iload 5, 2) := by decide +kernel
theorem dX8_strict_176 : decode cX8_strict 176 = .ok (.iaload, 1) := by decide +kernel
theorem dX8_strict_177 : decode cX8_strict 177 = .ok (.ifCond .ge 34, 3) := by decide +kernel
theorem dX8_strict_180 : decode cX8_strict 180 = .ok (.aload_n 0, 1) := by decide +kernel
theorem dX8_strict_181 : decode cX8_strict 181 = .ok (.getfield 61, 3) := by decide +kernel
theorem dX8_strict_184 : decode cX8_strict 184 = .ok (.iload 5, 2) := by decide +kernel
theorem dX8_strict_186 : decode cX8_strict 186 = .ok (.aload_n 0, 1) := by decide +kernel
theorem dX8_strict_187 : decode cX8_strict 187 = .ok (.getfield 61, 3) := by decide +kernel
theorem dX8_strict_190 : decode cX8_strict 190 = .ok (.aload_n 0, 1) := by decide +kernel
theorem dX8_strict_191 : decode cX8_strict 191 = .ok (.getfield 58, 3) := by decide +kernel
theorem dX8_strict_194 : decode cX8_strict 194 = .ok (.iload_n 3, 1) := by decide +kernel
theorem dX8_strict_195 : decode cX8_strict 195 = .ok (.iaload, 1) := by decide +kernel
theorem dX8_strict_196 : decode cX8_strict 196 = .ok (.iaload, 1) := by decide +kernel
theorem dX8_strict_197 : decode cX8_strict 197 = .ok (.iconst 1, 1) := by decide +kernel
theorem dX8_strict_198 : decode cX8_strict 198 = .ok (.iadd, 1) := by decide +kernel
theorem dX8_strict_199 : decode cX8_strict 199 = .ok (.iastore, 1) := by decide +kernel
theorem dX8_strict_200 : decode cX8_strict 200 = .ok (.aload_n 0, 1) := by decide +kernel
theorem dX8_strict_201 : decode cX8_strict 201 = .ok (.getfield 58, 3) := by decide +kernel
theorem dX8_strict_204 : decode cX8_strict 204 = .ok (.iload_n 2, 1) := by decide +kernel
theorem dX8_strict_205 : decode cX8_strict 205 = .ok (.iload 5, 2) := by decide +kernel
theorem dX8_strict_207 : decode cX8_strict 207 = .ok (.iastore, 1) := by decide +kernel
theorem dX8_strict_208 : decode cX8_strict 208 = .ok (.iinc 2 1, 3) := by decide +kernel
theorem dX8_strict_211 : decode cX8_strict 211 = .ok (.iinc 4 1, 3) := by decide +kernel
theorem dX8_strict_214 : decode cX8_strict 214 = .ok (.goto (-90), 3) := by decide +kernel
theorem dX8_strict_217 : decode cX8_strict 217 = .ok (.iinc 3 1, 3) := by decide +kernel
theorem dX8_strict_220 : decode cX8_strict 220 = .ok (.goto (-137), 3) := by decide +kernel
theorem dX8_strict_223 : decode cX8_strict 223 = .ok (.bipush (-4), 2) := by decide +kernel
theorem dX8_strict_225 : decode cX8_strict 225 = .ok (.ireturn, 1) := by decide +kernel
set_option maxRecDepth 20000 in
theorem ggX8_lay_X8_decode : GoodIn wsX8_lay wsX8_decode := goodIn_r _ [6, 7, 8, 9, 10, 5, 11, 12, 13, 14, 15, 16, 17, 18, 19, 20, 21, 22, 23, 24, 25, 26, 27, 28, 29, 30, 31, 32, 33, 34, 35, 36] (by decide +kernel) (by decide +kernel)
set_option maxRecDepth 20000 in
theorem gX8_lay_X8_decode : GoodIn wsX8_lay (wsV RX8 186 RX8 yX8_decode wsX8_decode) := goodIn_app (goodIn_of _ (by decide +kernel)) ggX8_lay_X8_decode
theorem dX8_lay_0 : decode cX8_lay 0 = .ok (.aload_n 0, 1) := by decide +kernel
theorem dX8_lay_1 : decode cX8_lay 1 = .ok (.getfield 39, 3) := by decide +kernel
theorem dX8_lay_4 : decode cX8_lay 4 = .ok (.bipush 80, 2) := by decide +kernel
theorem dX8_lay_6 : decode cX8_lay 6 = .ok (.iload_n 1, 1) := by decide +kernel
theorem dX8_lay_7 : decode cX8_lay 7 = .ok (.sipush 4096, 3) := by decide +kernel
theorem dX8_lay_10 : decode cX8_lay 10 = .ok (.idiv, 1) := by decide +kernel
theorem dX8_lay_11 : decode cX8_lay 11 = .ok (.iastore, 1) := by decide +kernel
theorem dX8_lay_12 : decode cX8_lay 12 = .ok (.aload_n 0, 1) := by decide +kernel
theorem dX8_lay_13 : decode cX8_lay 13 = .ok (.iload_n 1, 1) := by decide +kernel
theorem dX8_lay_14 : decode cX8_lay 14 = .ok (.bipush 64, 2) := by decide +kernel
theorem dX8_lay_16 : decode cX8_lay 16 = .ok (.idiv, 1) := by decide +kernel
theorem dX8_lay_17 : decode cX8_lay 17 = .ok (.bipush 64, 2) := by decide +kernel
theorem dX8_lay_19 : decode cX8_lay 19 = .ok (.irem, 1) := by decide +kernel
theorem dX8_lay_20 : decode cX8_lay 20 = .ok (.bipush 80, 2) := by decide +kernel
theorem dX8_lay_22 : decode cX8_lay 22 = .ok (.iconst 0, 1) := by decide +kernel
theorem dX8_lay_23 : decode cX8_lay 23 = .ok (.invokevirtual 186, 3) := by decide +kernel
theorem dX8_lay_26 : decode cX8_lay 26 = .ok (.aload_n 0, 1) := by decide +kernel
theorem dX8_lay_27 : decode cX8_lay 27 = .ok (.iload_n 1, 1) := by decide +kernel
theorem dX8_lay_28 : decode cX8_lay 28 = .ok (.bipush 64, 2) := by decide +kernel
theorem dX8_lay_30 : decode cX8_lay 30 = .ok (.irem, 1) := by decide +kernel
theorem dX8_lay_31 : decode cX8_lay 31 = .ok (.bipush 80, 2) := by decide +kernel
theorem dX8_lay_33 : decode cX8_lay 33 = .ok (.iconst 1, 1) := by decide +kernel
theorem dX8_lay_34 : decode cX8_lay 34 = .ok (.invokevirtual 186, 3) := by decide +kernel
theorem dX8_lay_37 : decode cX8_lay 37 = .ok (.return_, 1) := by decide +kernel
set_option maxRecDepth 20000 in
theorem ggX8_isSheet_X8_in : GoodIn wsX8_isSheet wsX8_in := goodIn_r _ [4] (by decide +kernel) (by decide +kernel)
set_option maxRecDepth 20000 in
theorem gX8_isSheet_X8_in : GoodIn wsX8_isSheet (va_wsS RX8 73 yX8_in wsX8_in) := goodIn_app (goodIn_of _ (by decide +kernel)) ggX8_isSheet_X8_in
theorem dX8_isSheet_0 : decode cX8_isSheet 0 = .ok (.iload_n 0, 1) := by decide +kernel
theorem dX8_isSheet_1 : decode cX8_isSheet 1 = .ok (.iconst 0, 1) := by decide +kernel
theorem dX8_isSheet_2 : decode cX8_isSheet 2 = .ok (.iconst 1, 1) := by decide +kernel
theorem dX8_isSheet_3 : decode cX8_isSheet 3 = .ok (.invokestatic 73, 3) := by decide +kernel
theorem dX8_isSheet_6 : decode cX8_isSheet 6 = .ok (.ireturn, 1) := by decide +kernel
set_option maxRecDepth 20000 in
theorem ggX8_sheet_X8_isSheet : GoodIn wsX8_sheet wsX8_isSheet := goodIn_r _ [7, 8, 9, 6, 10] (by decide +kernel) (by decide +kernel)
set_option maxRecDepth 20000 in
theorem gX8_sheet_X8_isSheet : GoodIn wsX8_sheet (va_wsS RX8 189 yX8_isSheet wsX8_isSheet) := goodIn_app (goodIn_of _ (by decide +kernel)) ggX8_sheet_X8_isSheet
set_option maxRecDepth 20000 in
theorem ggX8_sheet_X8_in : GoodIn wsX8_sheet wsX8_in := goodIn_r _ [10] (by decide +kernel) (by decide +kernel)
set_option maxRecDepth 20000 in
theorem gX8_sheet_X8_in : GoodIn wsX8_sheet (va_wsS RX8 73 yX8_in wsX8_in) := goodIn_app (goodIn_of _ (by decide +kernel)) ggX8_sheet_X8_in
theorem dX8_sheet_0 : decode cX8_sheet 0 = .ok (.iload_n 1, 1) := by decide +kernel
theorem dX8_sheet_1 : decode cX8_sheet 1 = .ok (.invokestatic 189, 3) := by decide +kernel
theorem dX8_sheet_4 : decode cX8_sheet 4 = .ok (.ifCond .eq 18, 3) := by decide +kernel
theorem dX8_sheet_7 : decode cX8_sheet 7 = .ok (.iload_n 2, 1) := by decide +kernel
theorem dX8_sheet_8 : decode cX8_sheet 8 = .ok (.iconst 0, 1) := by decide +kernel
theorem dX8_sheet_9 : decode cX8_sheet 9 = .ok (.iconst 1, 1) := by decide +kernel
theorem dX8_sheet_10 : decode cX8_sheet 10 = .ok (.invokestatic 73, 3) := by decide +kernel
theorem dX8_sheet_13 : decode cX8_sheet 13 = .ok (.ifCond .eq 9, 3) := by decide +kernel
theorem dX8_sheet_16 : decode cX8_sheet 16 = .ok (.iload_n 3, 1) := by decide +kernel
theorem dX8_sheet_17 : decode cX8_sheet 17 = .ok (.bipush 60, 2) := by decide +kernel
theorem dX8_sheet_19 : decode cX8_sheet 19 = .ok (.if_icmp .le 5, 3) := by decide +kernel
theorem dX8_sheet_22 : decode cX8_sheet 22 = .ok (.iconst (-1), 1) := by decide +kernel
theorem dX8_sheet_23 : decode cX8_sheet 23 = .ok (.ireturn, 1) := by decide +kernel
theorem dX8_sheet_24 : decode cX8_sheet 24 = .ok (.iload_n 3, 1) := by decide +kernel
theorem dX8_sheet_25 : decode cX8_sheet 25 = .ok (.ifCond .ge 6, 3) := by decide +kernel
theorem dX8_sheet_28 : decode cX8_sheet 28 = .ok (.bipush (-14), 2) := by decide +kernel
theorem dX8_sheet_30 : decode cX8_sheet 30 = .ok (.ireturn, 1) := by decide +kernel
theorem dX8_sheet_31 : decode cX8_sheet 31 = .ok (.aload_n 0, 1) := by decide +kernel
theorem dX8_sheet_32 : decode cX8_sheet 32 = .ok (.getfield 64, 3) := by decide +kernel
theorem dX8_sheet_35 : decode cX8_sheet 35 = .ok (.iload_n 1, 1) := by decide +kernel
theorem dX8_sheet_36 : decode cX8_sheet 36 = .ok (.iload_n 2, 1) := by decide +kernel
theorem dX8_sheet_37 : decode cX8_sheet 37 = .ok (.iastore, 1) := by decide +kernel
theorem dX8_sheet_38 : decode cX8_sheet 38 = .ok (.aload_n 0, 1) := by decide +kernel
theorem dX8_sheet_39 : decode cX8_sheet 39 = .ok (.getfield 67, 3) := by decide +kernel
theorem dX8_sheet_42 : decode cX8_sheet 42 = .ok (.iload_n 1, 1) := by decide +kernel
theorem dX8_sheet_43 : decode cX8_sheet 43 = .ok (.iload_n 3, 1) := by decide +kernel
theorem dX8_sheet_44 : decode cX8_sheet 44 = .ok (.iastore, 1) := by decide +kernel
theorem dX8_sheet_45 : decode cX8_sheet 45 = .ok (.iconst 0, 1) := by decide +kernel
theorem dX8_sheet_46 : decode cX8_sheet 46 = .ok (.istore 4, 2) := by decide +kernel
theorem dX8_sheet_48 : decode cX8_sheet 48 = .ok (.iload 4, 2) := by decide +kernel
theorem dX8_sheet_50 : decode cX8_sheet 50 = .ok (.bipush 60, 2) := by decide +kernel
theorem dX8_sheet_52 : decode cX8_sheet 52 = .ok (.if_icmp .ge 22, 3) := by decide +kernel
theorem dX8_sheet_55 : decode cX8_sheet 55 = .ok (.aload_n 0, 1) := by decide +kernel
theorem dX8_sheet_56 : decode cX8_sheet 56 = .ok (.getfield 70, 3) := by decide +kernel
theorem dX8_sheet_59 : decode cX8_sheet 59 = .ok (.bipush 60, 2) := by decide +kernel
theorem dX8_sheet_61 : decode cX8_sheet 61 = .ok (.iload_n 1, 1) := by decide +kernel
theorem dX8_sheet_62 : decode cX8_sheet 62 = .ok (.imul, 1) := by decide +kernel
theorem dX8_sheet_63 : decode cX8_sheet 63 = .ok (.iload 4, 2) := by decide +kernel
theorem dX8_sheet_65 : decode cX8_sheet 65 = .ok (.iadd, 1) := by decide +kernel
theorem dX8_sheet_66 : decode cX8_sheet 66 = .ok (.iconst 0, 1) := by decide +kernel
theorem dX8_sheet_67 : decode cX8_sheet 67 = .ok (.iastore, 1) := by decide +kernel
theorem dX8_sheet_68 : decode cX8_sheet 68 = .ok (.iinc 4 1, 3) := by decide +kernel
theorem dX8_sheet_71 : decode cX8_sheet 71 = .ok (.goto (-23), 3) := by decide +kernel
theorem dX8_sheet_74 : decode cX8_sheet 74 = .ok (.iload_n 3, 1) := by decide +kernel
theorem dX8_sheet_75 : decode cX8_sheet 75 = .ok (.ireturn, 1) := by decide +kernel
set_option maxRecDepth 20000 in
theorem ggX8_drop_X8_isSheet : GoodIn wsX8_drop wsX8_isSheet := goodIn_r _ [6, 7, 8, 5, 9] (by decide +kernel) (by decide +kernel)
set_option maxRecDepth 20000 in
theorem gX8_drop_X8_isSheet : GoodIn wsX8_drop (va_wsS RX8 189 yX8_isSheet wsX8_isSheet) := goodIn_app (goodIn_of _ (by decide +kernel)) ggX8_drop_X8_isSheet
theorem dX8_drop_0 : decode cX8_drop 0 = .ok (.iload_n 1, 1) := by decide +kernel
theorem dX8_drop_1 : decode cX8_drop 1 = .ok (.invokestatic 189, 3) := by decide +kernel
theorem dX8_drop_4 : decode cX8_drop 4 = .ok (.ifCond .ne 5, 3) := by decide +kernel
theorem dX8_drop_7 : decode cX8_drop 7 = .ok (.iconst (-1), 1) := by decide +kernel
theorem dX8_drop_8 : decode cX8_drop 8 = .ok (.ireturn, 1) := by decide +kernel
theorem dX8_drop_9 : decode cX8_drop 9 = .ok (.aload_n 0, 1) := by decide +kernel
theorem dX8_drop_10 : decode cX8_drop 10 = .ok (.getfield 64, 3) := by decide +kernel
theorem dX8_drop_13 : decode cX8_drop 13 = .ok (.iload_n 1, 1) := by decide +kernel
theorem dX8_drop_14 : decode cX8_drop 14 = .ok (.iaload, 1) := by decide +kernel
theorem dX8_drop_15 : decode cX8_drop 15 = .ok (.ifCond .ge 6, 3) := by decide +kernel
theorem dX8_drop_18 : decode cX8_drop 18 = .ok (.bipush (-11), 2) := by decide +kernel
theorem dX8_drop_20 : decode cX8_drop 20 = .ok (.ireturn, 1) := by decide +kernel
theorem dX8_drop_21 : decode cX8_drop 21 = .ok (.aload_n 0, 1) := by decide +kernel
theorem dX8_drop_22 : decode cX8_drop 22 = .ok (.getfield 64, 3) := by decide +kernel
theorem dX8_drop_25 : decode cX8_drop 25 = .ok (.iload_n 1, 1) := by decide +kernel
theorem dX8_drop_26 : decode cX8_drop 26 = .ok (.iconst (-1), 1) := by decide +kernel
theorem dX8_drop_27 : decode cX8_drop 27 = .ok (.iastore, 1) := by decide +kernel
theorem dX8_drop_28 : decode cX8_drop 28 = .ok (.aload_n 0, 1) := by decide +kernel
theorem dX8_drop_29 : decode cX8_drop 29 = .ok (.getfield 67, 3) := by decide +kernel
theorem dX8_drop_32 : decode cX8_drop 32 = .ok (.iload_n 1, 1) := by decide +kernel
theorem dX8_drop_33 : decode cX8_drop 33 = .ok (.iaload, 1) := by decide +kernel
theorem dX8_drop_34 : decode cX8_drop 34 = .ok (.ireturn, 1) := by decide +kernel
set_option maxRecDepth 20000 in
theorem ggX8_item_X8_isSheet : GoodIn wsX8_item wsX8_isSheet := goodIn_r _ [7, 8, 9, 6, 10] (by decide +kernel) (by decide +kernel)
set_option maxRecDepth 20000 in
theorem gX8_item_X8_isSheet : GoodIn wsX8_item (va_wsS RX8 189 yX8_isSheet wsX8_isSheet) := goodIn_app (goodIn_of _ (by decide +kernel)) ggX8_item_X8_isSheet
set_option maxRecDepth 20000 in
theorem ggX8_item_X8_in : GoodIn wsX8_item wsX8_in := goodIn_r _ [10] (by decide +kernel) (by decide +kernel)
set_option maxRecDepth 20000 in
theorem gX8_item_X8_in : GoodIn wsX8_item (va_wsS RX8 73 yX8_in wsX8_in) := goodIn_app (goodIn_of _ (by decide +kernel)) ggX8_item_X8_in
theorem dX8_item_0 : decode cX8_item 0 = .ok (.iload_n 1, 1) := by decide +kernel
theorem dX8_item_1 : decode cX8_item 1 = .ok (.invokestatic 189, 3) := by decide +kernel
theorem dX8_item_4 : decode cX8_item 4 = .ok (.ifCond .eq 12, 3) := by decide +kernel
theorem dX8_item_7 : decode cX8_item 7 = .ok (.iload_n 2, 1) := by decide +kernel
theorem dX8_item_8 : decode cX8_item 8 = .ok (.iconst 0, 1) := by decide +kernel
theorem dX8_item_9 : decode cX8_item 9 = .ok (.iconst 1, 1) := by decide +kernel
theorem dX8_item_10 : decode cX8_item 10 = .ok (.invokestatic 73, 3) := by decide +kernel
theorem dX8_item_13 : decode cX8_item 13 = .ok (.ifCond .ne 5, 3) := by decide +kernel
theorem dX8_item_16 : decode cX8_item 16 = .ok (.iconst (-1), 1) := by decide +kernel
theorem dX8_item_17 : decode cX8_item 17 = .ok (.ireturn, 1) := by decide +kernel
theorem dX8_item_18 : decode cX8_item 18 = .ok (.aload_n 0, 1) := by decide +kernel
theorem dX8_item_19 : decode cX8_item 19 = .ok (.getfield 64, 3) := by decide +kernel
theorem dX8_item_22 : decode cX8_item 22 = .ok (.iload_n 1, 1) := by decide +kernel
theorem dX8_item_23 : decode cX8_item 23 = .ok (.iaload, 1) := by decide +kernel
theorem dX8_item_24 : decode cX8_item 24 = .ok (.ifCond .ge 6, 3) := by decide +kernel
theorem dX8_item_27 : decode cX8_item 27 = .ok (.bipush (-11), 2) := by decide +kernel
theorem dX8_item_29 : decode cX8_item 29 = .ok (.ireturn, 1) := by decide +kernel
theorem dX8_item_30 : decode cX8_item 30 = .ok (.aload_n 0, 1) := by decide +kernel
theorem dX8_item_31 : decode cX8_item 31 = .ok (.getfield 64, 3) := by decide +kernel
theorem dX8_item_34 : decode cX8_item 34 = .ok (.iload_n 1, 1) := by decide +kernel
theorem dX8_item_35 : decode cX8_item 35 = .ok (.iaload, 1) := by decide +kernel
theorem dX8_item_36 : decode cX8_item 36 = .ok (.iload_n 2, 1) := by decide +kernel
theorem dX8_item_37 : decode cX8_item 37 = .ok (.if_icmp .eq 6, 3) := by decide +kernel
theorem dX8_item_40 : decode cX8_item 40 = .ok (.bipush (-12), 2) := by decide +kernel
theorem dX8_item_42 : decode cX8_item 42 = .ok (.ireturn, 1) := by decide +kernel
theorem dX8_item_43 : decode cX8_item 43 = .ok (.iload_n 3, 1) := by decide +kernel
theorem dX8_item_44 : decode cX8_item 44 = .ok (.iconst 0, 1) := by decide +kernel
theorem dX8_item_45 : decode cX8_item 45 = .ok (.aload_n 0, 1) := by decide +kernel
theorem dX8_item_46 : decode cX8_item 46 = .ok (.getfield 67, 3) := by decide +kernel
theorem dX8_item_49 : decode cX8_item 49 = .ok (.iload_n 1, 1) := by decide +kernel
theorem dX8_item_50 : decode cX8_item 50 = .ok (.iaload, 1) := by decide +kernel
theorem dX8_item_51 : decode cX8_item 51 = .ok (.iconst 1, 1) := by decide +kernel
theorem dX8_item_52 : decode cX8_item 52 = .ok (.isub, 1) := by decide +kernel
theorem dX8_item_53 : decode cX8_item 53 = .ok (.invokestatic 73, 3) := by decide +kernel
theorem dX8_item_56 : decode cX8_item 56 = .ok (.ifCond .ne 6, 3) := by decide +kernel
theorem dX8_item_59 : decode cX8_item 59 = .ok (.bipush (-13), 2) := by decide +kernel
theorem dX8_item_61 : decode cX8_item 61 = .ok (.ireturn, 1) := by decide +kernel
theorem dX8_item_62 : decode cX8_item 62 = .ok (.aload_n 0, 1) := by decide +kernel
theorem dX8_item_63 : decode cX8_item 63 = .ok (.getfield 70, 3) := by decide +kernel
theorem dX8_item_66 : decode cX8_item 66 = .ok (.bipush 60, 2) := by decide +kernel
theorem dX8_item_68 : decode cX8_item 68 = .ok (.iload_n 1, 1) := by decide +kernel
theorem dX8_item_69 : decode cX8_item 69 = .ok (.imul, 1) := by decide +kernel
theorem dX8_item_70 : decode cX8_item 70 = .ok (.iload_n 3, 1) := by decide +kernel
theorem dX8_item_71 : decode cX8_item 71 = .ok (.iadd, 1) := by decide +kernel
theorem dX8_item_72 : decode cX8_item 72 = .ok (.iload_n 2, 1) := by decide +kernel
theorem dX8_item_73 : decode cX8_item 73 = .ok (.ifCond .ne 9, 3) := by decide +kernel
theorem dX8_item_76 : decode cX8_item 76 = .ok (.iload 4, 2) := by decide +kernel
theorem dX8_item_78 : decode cX8_item 78 = .ok (.i2b, 1) := by decide +kernel
theorem dX8_item_79 : decode cX8_item 79 = .ok (.goto 5, 3) := by decide +kernel
theorem dX8_item_82 : decode cX8_item 82 = .ok (.iload 4, 2) := by decide +kernel
theorem dX8_item_84 : decode cX8_item 84 = .ok (.iastore, 1) := by decide +kernel
theorem dX8_item_85 : decode cX8_item 85 = .ok (.iconst 1, 1) := by decide +kernel
theorem dX8_item_86 : decode cX8_item 86 = .ok (.ireturn, 1) := by decide +kernel
set_option maxRecDepth 20000 in
theorem ggX8_arcs_X8_isSheet : GoodIn wsX8_arcs wsX8_isSheet := goodIn_r _ [8, 9, 10, 7, 11] (by decide +kernel) (by decide +kernel)
set_option maxRecDepth 20000 in
theorem gX8_arcs_X8_isSheet : GoodIn wsX8_arcs (va_wsS RX8 189 yX8_isSheet wsX8_isSheet) := goodIn_app (goodIn_of _ (by decide +kernel)) ggX8_arcs_X8_isSheet
set_option maxRecDepth 20000 in
theorem ggX8_arcs_X8_in : GoodIn wsX8_arcs wsX8_in := goodIn_r _ [11] (by decide +kernel) (by decide +kernel)
set_option maxRecDepth 20000 in
theorem gX8_arcs_X8_in : GoodIn wsX8_arcs (va_wsS RX8 73 yX8_in wsX8_in) := goodIn_app (goodIn_of _ (by decide +kernel)) ggX8_arcs_X8_in
set_option maxRecDepth 20000 in
theorem ggX8_arcs_X8_isGood : GoodIn wsX8_arcs wsX8_isGood := goodIn_r _ [15, 16, 17, 18, 7, 19, 20, 9, 10, 11, 36, 37, 38, 39, 40, 41, 42, 43, 44, 45, 46, 47, 48, 49, 50, 51, 52, 53, 54, 55, 56, 57, 58, 59, 60] (by decide +kernel) (by decide +kernel)
set_option maxRecDepth 20000 in
theorem gX8_arcs_X8_isGood : GoodIn wsX8_arcs (wsV RX8 88 RX8 yX8_isGood wsX8_isGood) := goodIn_app (goodIn_of _ (by decide +kernel)) ggX8_arcs_X8_isGood
set_option maxRecDepth 20000 in
theorem ggX8_arcs_X8_put : GoodIn wsX8_arcs wsX8_put := goodIn_r _ [24, 25, 4, 26, 27, 28, 29, 30, 31, 32, 7, 33, 34, 35, 36, 37, 38, 39, 40, 41, 42, 43, 44, 45, 46, 47, 48, 49, 50, 51, 52, 53, 54, 55, 56, 57, 58, 59, 60] (by decide +kernel) (by decide +kernel)
set_option maxRecDepth 20000 in
theorem gX8_arcs_X8_put : GoodIn wsX8_arcs (wsV RX8 92 RX8 yX8_put wsX8_put) := goodIn_app (goodIn_of _ (by decide +kernel)) ggX8_arcs_X8_put
set_option maxRecDepth 20000 in
theorem ggX8_arcs_X8_empty : GoodIn wsX8_arcs wsX8_empty := goodIn_r _ [33, 34, 35, 36, 37, 38, 39, 40, 41, 42, 43, 44, 45, 46, 47, 48, 49, 50, 51, 52, 53, 54, 55, 56, 57, 58, 59, 60] (by decide +kernel) (by decide +kernel)
set_option maxRecDepth 20000 in
theorem gX8_arcs_X8_empty : GoodIn wsX8_arcs (wsV RX8 80 RX8 yX8_empty wsX8_empty) := goodIn_app (goodIn_of _ (by decide +kernel)) ggX8_arcs_X8_empty
theorem dX8_arcs_0 : decode cX8_arcs 0 = .ok (.iload_n 1, 1) := by decide +kernel
theorem dX8_arcs_1 : decode cX8_arcs 1 = .ok (.invokestatic 189, 3) := by decide +kernel
theorem dX8_arcs_4 : decode cX8_arcs 4 = .ok (.ifCond .eq 23, 3) := by decide +kernel
theorem dX8_arcs_7 : decode cX8_arcs 7 = .ok (.iload_n 2, 1) := by decide +kernel
theorem dX8_arcs_8 : decode cX8_arcs 8 = .ok (.iconst 0, 1) := by decide +kernel
theorem dX8_arcs_9 : decode cX8_arcs 9 = .ok (.iconst 1, 1) := by decide +kernel
theorem dX8_arcs_10 : decode cX8_arcs 10 = .ok (.invokestatic 73, 3) := by decide +kernel
theorem dX8_arcs_13 : decode cX8_arcs 13 = .ok (.ifCond .eq 14, 3) := by decide +kernel
theorem dX8_arcs_16 : decode cX8_arcs 16 = .ok (.iload 4, 2) := by decide +kernel
theorem dX8_arcs_18 : decode cX8_arcs 18 = .ok (.iconst 0, 1) := by decide +kernel
theorem dX8_arcs_19 : decode cX8_arcs 19 = .ok (.bipush 12, 2) := by decide +kernel
theorem dX8_arcs_21 : decode cX8_arcs 21 = .ok (.invokestatic 73, 3) := by decide +kernel
theorem dX8_arcs_24 : decode cX8_arcs 24 = .ok (.ifCond .ne 5, 3) := by decide +kernel
theorem dX8_arcs_27 : decode cX8_arcs 27 = .ok (.iconst (-1), 1) := by decide +kernel
theorem dX8_arcs_28 : decode cX8_arcs 28 = .ok (.ireturn, 1) := by decide +kernel
theorem dX8_arcs_29 : decode cX8_arcs 29 = .ok (.aload_n 0, 1) := by decide +kernel
theorem dX8_arcs_30 : decode cX8_arcs 30 = .ok (.getfield 64, 3) := by decide +kernel
theorem dX8_arcs_33 : decode cX8_arcs 33 = .ok (.iload_n 1, 1) := by decide +kernel
theorem dX8_arcs_34 : decode cX8_arcs 34 = .ok (.iaload, 1) := by decide +kernel
theorem dX8_arcs_35 : decode cX8_arcs 35 = .ok (.ifCond .ge 6, 3) := by decide +kernel
theorem dX8_arcs_38 : decode cX8_arcs 38 = .ok (.bipush (-11), 2) := by decide +kernel
theorem dX8_arcs_40 : decode cX8_arcs 40 = .ok (.ireturn, 1) := by decide +kernel
theorem dX8_arcs_41 : decode cX8_arcs 41 = .ok (.aload_n 0, 1) := by decide +kernel
theorem dX8_arcs_42 : decode cX8_arcs 42 = .ok (.getfield 64, 3) := by decide +kernel
theorem dX8_arcs_45 : decode cX8_arcs 45 = .ok (.iload_n 1, 1) := by decide +kernel
theorem dX8_arcs_46 : decode cX8_arcs 46 = .ok (.iaload, 1) := by decide +kernel
theorem dX8_arcs_47 : decode cX8_arcs 47 = .ok (.iload_n 2, 1) := by decide +kernel
theorem dX8_arcs_48 : decode cX8_arcs 48 = .ok (.if_icmp .eq 6, 3) := by decide +kernel
theorem dX8_arcs_51 : decode cX8_arcs 51 = .ok (.bipush (-12), 2) := by decide +kernel
theorem dX8_arcs_53 : decode cX8_arcs 53 = .ok (.ireturn, 1) := by decide +kernel
theorem dX8_arcs_54 : decode cX8_arcs 54 = .ok (.iload_n 3, 1) := by decide +kernel
theorem dX8_arcs_55 : decode cX8_arcs 55 = .ok (.ifCond .lt 22, 3) := by decide +kernel
theorem dX8_arcs_58 : decode cX8_arcs 58 = .ok (.iload_n 3, 1) := by decide +kernel
theorem dX8_arcs_59 : decode cX8_arcs 59 = .ok (.i2l, 1) := by decide +kernel
theorem dX8_arcs_60 : decode cX8_arcs 60 = .ok (.iconst 5, 1) := by decide +kernel
theorem dX8_arcs_61 : decode cX8_arcs 61 = .ok (.iload 4, 2) := by decide +kernel
theorem dX8_arcs_63 : decode cX8_arcs 63 = .ok (.imul, 1) := by decide +kernel
theorem dX8_arcs_64 : decode cX8_arcs 64 = .ok (.i2l, 1) := by decide +kernel
theorem dX8_arcs_65 : decode cX8_arcs 65 = .ok (.ladd, 1) := by decide +kernel
theorem dX8_arcs_66 : decode cX8_arcs 66 = .ok (.aload_n 0, 1) := by decide +kernel
theorem dX8_arcs_67 : decode cX8_arcs 67 = .ok (.getfield 67, 3) := by decide +kernel
theorem dX8_arcs_70 : decode cX8_arcs 70 = .ok (.iload_n 1, 1) := by decide +kernel
theorem dX8_arcs_71 : decode cX8_arcs 71 = .ok (.iaload, 1) := by decide +kernel
theorem dX8_arcs_72 : decode cX8_arcs 72 = .ok (.i2l, 1) := by decide +kernel
theorem dX8_arcs_73 : decode cX8_arcs 73 = .ok (.lcmp, 1) := by decide +kernel
theorem dX8_arcs_74 : decode cX8_arcs 74 = .ok (.ifCond .le 6, 3) := by decide +kernel
theorem dX8_arcs_77 : decode cX8_arcs 77 = .ok (.bipush (-13), 2) := by decide +kernel
theorem dX8_arcs_79 : decode cX8_arcs 79 = .ok (.ireturn, 1) := by decide +kernel
theorem dX8_arcs_80 : decode cX8_arcs 80 = .ok (.bipush 60, 2) := by decide +kernel
theorem dX8_arcs_82 : decode cX8_arcs 82 = .ok (.iload_n 1, 1) := by decide +kernel
theorem dX8_arcs_83 : decode cX8_arcs 83 = .ok (.imul, 1) := by decide +kernel
theorem dX8_arcs_84 : decode cX8_arcs 84 = .ok (.iload_n 3, 1) := by decide +kernel
theorem dX8_arcs_85 : decode cX8_arcs 85 = .ok (.iadd, 1) := by decide +kernel
theorem dX8_arcs_86 : decode cX8_arcs 86 = .ok (.istore 5, 2) := by decide +kernel
theorem dX8_arcs_88 : decode cX8_arcs 88 = .ok (.iconst 0, 1) := by decide +kernel
theorem dX8_arcs_89 : decode cX8_arcs 89 = .ok (.istore 6, 2) := by decide +kernel
theorem dX8_arcs_91 : decode cX8_arcs 91 = .ok (.iload 6, 2) := by decide +kernel
theorem dX8_arcs_93 : decode cX8_arcs 93 = .ok (.iload 4, 2) := by decide +kernel
theorem dX8_arcs_95 : decode cX8_arcs 95 = .ok (.if_icmp .ge 87, 3) := by decide +kernel
theorem dX8_arcs_98 : decode cX8_arcs 98 = .ok (.aload_n 0, 1) := by decide +kernel
theorem dX8_arcs_99 : decode cX8_arcs 99 = .ok (.aload_n 0, 1) := by decide +kernel
theorem dX8_arcs_100 : decode cX8_arcs 100 = .ok (.getfield 70, 3) := by decide +kernel
theorem dX8_arcs_103 : decode cX8_arcs 103 = .ok (.iload 5, 2) := by decide +kernel
theorem dX8_arcs_105 : decode cX8_arcs 105 = .ok (.iconst 5, 1) := by decide +kernel
theorem dX8_arcs_106 : decode cX8_arcs 106 = .ok (.iload 6, 2) := by decide +kernel
theorem dX8_arcs_108 : decode cX8_arcs 108 = .ok (.imul, 1) := by decide +kernel
theorem dX8_arcs_109 : decode cX8_arcs 109 = .ok (.iadd, 1) := by decide +kernel
theorem dX8_arcs_110 : decode cX8_arcs 110 = .ok (.iaload, 1) := by decide +kernel
theorem dX8_arcs_111 : decode cX8_arcs 111 = .ok (.aload_n 0, 1) := by decide +kernel
theorem dX8_arcs_112 : decode cX8_arcs 112 = .ok (.getfield 70, 3) := by decide +kernel
theorem dX8_arcs_115 : decode cX8_arcs 115 = .ok (.iload 5, 2) := by decide +kernel
theorem dX8_arcs_117 : decode cX8_arcs 117 = .ok (.iconst 5, 1) := by decide +kernel
theorem dX8_arcs_118 : decode cX8_arcs 118 = .ok (.iload 6, 2) := by decide +kernel
theorem dX8_arcs_120 : decode cX8_arcs 120 = .ok (.imul, 1) := by decide +kernel
theorem dX8_arcs_121 : decode cX8_arcs 121 = .ok (.iadd, 1) := by decide +kernel
theorem dX8_arcs_122 : decode cX8_arcs 122 = .ok (.iconst 1, 1) := by decide +kernel
theorem dX8_arcs_123 : decode cX8_arcs 123 = .ok (.iadd, 1) := by decide +kernel
theorem dX8_arcs_124 : decode cX8_arcs 124 = .ok (.iaload, 1) := by decide +kernel
theorem dX8_arcs_125 : decode cX8_arcs 125 = .ok (.aload_n 0, 1) := by decide +kernel
theorem dX8_arcs_126 : decode cX8_arcs 126 = .ok (.getfield 70, 3) := by decide +kernel
theorem dX8_arcs_129 : decode cX8_arcs 129 = .ok (.iload 5, 2) := by decide +kernel
theorem dX8_arcs_131 : decode cX8_arcs 131 = .ok (.iconst 5, 1) := by decide +kernel
theorem dX8_arcs_132 : decode cX8_arcs 132 = .ok (.iload 6, 2) := by decide +kernel
theorem dX8_arcs_134 : decode cX8_arcs 134 = .ok (.imul, 1) := by decide +kernel
theorem dX8_arcs_135 : decode cX8_arcs 135 = .ok (.iadd, 1) := by decide +kernel
theorem dX8_arcs_136 : decode cX8_arcs 136 = .ok (.iconst 2, 1) := by decide +kernel
theorem dX8_arcs_137 : decode cX8_arcs 137 = .ok (.iadd, 1) := by decide +kernel
theorem dX8_arcs_138 : decode cX8_arcs 138 = .ok (.iaload, 1) := by decide +kernel
theorem dX8_arcs_139 : decode cX8_arcs 139 = .ok (.aload_n 0, 1) := by decide +kernel
theorem dX8_arcs_140 : decode cX8_arcs 140 = .ok (.getfield 70, 3) := by decide +kernel
theorem dX8_arcs_143 : decode cX8_arcs 143 = .ok (.iload 5, 2) := by decide +kernel
theorem dX8_arcs_145 : decode cX8_arcs 145 = .ok (.iconst 5, 1) := by decide +kernel
theorem dX8_arcs_146 : decode cX8_arcs 146 = .ok (.iload 6, 2) := by decide +kernel
theorem dX8_arcs_148 : decode cX8_arcs 148 = .ok (.imul, 1) := by decide +kernel
theorem dX8_arcs_149 : decode cX8_arcs 149 = .ok (.iadd, 1) := by decide +kernel
theorem dX8_arcs_150 : decode cX8_arcs 150 = .ok (.iconst 3, 1) := by decide +kernel
theorem dX8_arcs_151 : decode cX8_arcs 151 = .ok (.iadd, 1) := by decide +kernel
theorem dX8_arcs_152 : decode cX8_arcs 152 = .ok (.iaload, 1) := by decide +kernel
theorem dX8_arcs_153 : decode cX8_arcs 153 = .ok (.aload_n 0, 1) := by decide +kernel
theorem dX8_arcs_154 : decode cX8_arcs 154 = .ok (.getfield 70, 3) := by decide +kernel
theorem dX8_arcs_157 : decode cX8_arcs 157 = .ok (.iload 5, 2) := by decide +kernel
theorem dX8_arcs_159 : decode cX8_arcs 159 = .ok (.iconst 5, 1) := by decide +kernel
theorem dX8_arcs_160 : decode cX8_arcs 160 = .ok (.iload 6, 2) := by decide +kernel
theorem dX8_arcs_162 : decode cX8_arcs 162 = .ok (.imul, 1) := by decide +kernel
theorem dX8_arcs_163 : decode cX8_arcs 163 = .ok (.iadd, 1) := by decide +kernel
theorem dX8_arcs_164 : decode cX8_arcs 164 = .ok (.iconst 4, 1) := by decide +kernel
theorem dX8_arcs_165 : decode cX8_arcs 165 = .ok (.iadd, 1) := by decide +kernel
theorem dX8_arcs_166 : decode cX8_arcs 166 = .ok (.iaload, 1) := by decide +kernel
theorem dX8_arcs_167 : decode cX8_arcs 167 = .ok (.invokevirtual 88, 3) := by decide +kernel
theorem dX8_arcs_170 : decode cX8_arcs 170 = .ok (.ifCond .ne 6, 3) := by decide +kernel
theorem dX8_arcs_173 : decode cX8_arcs 173 = .ok (.bipush (-2), 2) := by decide +kernel
theorem dX8_arcs_175 : decode cX8_arcs 175 = .ok (.ireturn, 1) := by decide +kernel
theorem dX8_arcs_176 : decode cX8_arcs 176 = .ok (.iinc 6 1, 3) := by decide +kernel
theorem dX8_arcs_179 : decode cX8_arcs 179 = .ok (.goto (-88), 3) := by decide +kernel
theorem dX8_arcs_182 : decode cX8_arcs 182 = .ok (.aload_n 0, 1) := by decide +kernel
theorem dX8_arcs_183 : decode cX8_arcs 183 = .ok (.getfield 77, 3) := by decide +kernel
theorem dX8_arcs_186 : decode cX8_arcs 186 = .ok (.iload 4, 2) := by decide +kernel
theorem dX8_arcs_188 : decode cX8_arcs 188 = .ok (.iadd, 1) := by decide +kernel
theorem dX8_arcs_189 : decode cX8_arcs 189 = .ok (.bipush 20, 2) := by decide +kernel
theorem dX8_arcs_191 : decode cX8_arcs 191 = .ok (.if_icmp .le 6, 3) := by decide +kernel
theorem dX8_arcs_194 : decode cX8_arcs 194 = .ok (.bipush (-3), 2) := by decide +kernel
theorem dX8_arcs_196 : decode cX8_arcs 196 = .ok (.ireturn, 1) := by decide +kernel
theorem dX8_arcs_197 : decode cX8_arcs 197 = .ok (.iconst 0, 1) := by decide +kernel
theorem dX8_arcs_198 : decode cX8_arcs 198 = .ok (.istore 6, 2) := by decide +kernel
theorem dX8_arcs_200 : decode cX8_arcs 200 = .ok (.iload 6, 2) := by decide +kernel
theorem dX8_arcs_202 : decode cX8_arcs 202 = .ok (.iload 4, 2) := by decide +kernel
theorem dX8_arcs_204 : decode cX8_arcs 204 = .ok (.if_icmp .ge 81, 3) := by decide +kernel
theorem dX8_arcs_207 : decode cX8_arcs 207 = .ok (.aload_n 0, 1) := by decide +kernel
theorem dX8_arcs_208 : decode cX8_arcs 208 = .ok (.aload_n 0, 1) := by decide +kernel
theorem dX8_arcs_209 : decode cX8_arcs 209 = .ok (.getfield 70, 3) := by decide +kernel
theorem dX8_arcs_212 : decode cX8_arcs 212 = .ok (.iload 5, 2) := by decide +kernel
theorem dX8_arcs_214 : decode cX8_arcs 214 = .ok (.iconst 5, 1) := by decide +kernel
theorem dX8_arcs_215 : decode cX8_arcs 215 = .ok (.iload 6, 2) := by decide +kernel
theorem dX8_arcs_217 : decode cX8_arcs 217 = .ok (.imul, 1) := by decide +kernel
theorem dX8_arcs_218 : decode cX8_arcs 218 = .ok (.iadd, 1) := by decide +kernel
theorem dX8_arcs_219 : decode cX8_arcs 219 = .ok (.iaload, 1) := by decide +kernel
theorem dX8_arcs_220 : decode cX8_arcs 220 = .ok (.aload_n 0, 1) := by decide +kernel
theorem dX8_arcs_221 : decode cX8_arcs 221 = .ok (.getfield 70, 3) := by decide +kernel
theorem dX8_arcs_224 : decode cX8_arcs 224 = .ok (.iload 5, 2) := by decide +kernel
theorem dX8_arcs_226 : decode cX8_arcs 226 = .ok (.iconst 5, 1) := by decide +kernel
theorem dX8_arcs_227 : decode cX8_arcs 227 = .ok (.iload 6, 2) := by decide +kernel
theorem dX8_arcs_229 : decode cX8_arcs 229 = .ok (.imul, 1) := by decide +kernel
theorem dX8_arcs_230 : decode cX8_arcs 230 = .ok (.iadd, 1) := by decide +kernel
theorem dX8_arcs_231 : decode cX8_arcs 231 = .ok (.iconst 1, 1) := by decide +kernel
theorem dX8_arcs_232 : decode cX8_arcs 232 = .ok (.iadd, 1) := by decide +kernel
theorem dX8_arcs_233 : decode cX8_arcs 233 = .ok (.iaload, 1) := by decide +kernel
theorem dX8_arcs_234 : decode cX8_arcs 234 = .ok (.aload_n 0, 1) := by decide +kernel
theorem dX8_arcs_235 : decode cX8_arcs 235 = .ok (.getfield 70, 3) := by decide +kernel
theorem dX8_arcs_238 : decode cX8_arcs 238 = .ok (.iload 5, 2) := by decide +kernel
theorem dX8_arcs_240 : decode cX8_arcs 240 = .ok (.iconst 5, 1) := by decide +kernel
theorem dX8_arcs_241 : decode cX8_arcs 241 = .ok (.iload 6, 2) := by decide +kernel
theorem dX8_arcs_243 : decode cX8_arcs 243 = .ok (.imul, 1) := by decide +kernel
theorem dX8_arcs_244 : decode cX8_arcs 244 = .ok (.iadd, 1) := by decide +kernel
theorem dX8_arcs_245 : decode cX8_arcs 245 = .ok (.iconst 2, 1) := by decide +kernel
theorem dX8_arcs_246 : decode cX8_arcs 246 = .ok (.iadd, 1) := by decide +kernel
theorem dX8_arcs_247 : decode cX8_arcs 247 = .ok (.iaload, 1) := by decide +kernel
theorem dX8_arcs_248 : decode cX8_arcs 248 = .ok (.aload_n 0, 1) := by decide +kernel
theorem dX8_arcs_249 : decode cX8_arcs 249 = .ok (.getfield 70, 3) := by decide +kernel
theorem dX8_arcs_252 : decode cX8_arcs 252 = .ok (.iload 5, 2) := by decide +kernel
theorem dX8_arcs_254 : decode cX8_arcs 254 = .ok (.iconst 5, 1) := by decide +kernel
theorem dX8_arcs_255 : decode cX8_arcs 255 = .ok (.iload 6, 2) := by decide +kernel
theorem dX8_arcs_257 : decode cX8_arcs 257 = .ok (.imul, 1) := by decide +kernel
theorem dX8_arcs_258 : decode cX8_arcs 258 = .ok (.iadd, 1) := by decide +kernel
theorem dX8_arcs_259 : decode cX8_arcs 259 = .ok (.iconst 3, 1) := by decide +kernel
theorem dX8_arcs_260 : decode cX8_arcs 260 = .ok (.iadd, 1) := by decide +kernel
theorem dX8_arcs_261 : decode cX8_arcs 261 = .ok (.iaload, 1) := by decide +kernel
theorem dX8_arcs_262 : decode cX8_arcs 262 = .ok (.aload_n 0, 1) := by decide +kernel
theorem dX8_arcs_263 : decode cX8_arcs 263 = .ok (.getfield 70, 3) := by decide +kernel
theorem dX8_arcs_266 : decode cX8_arcs 266 = .ok (.iload 5, 2) := by decide +kernel
theorem dX8_arcs_268 : decode cX8_arcs 268 = .ok (.iconst 5, 1) := by decide +kernel
theorem dX8_arcs_269 : decode cX8_arcs 269 = .ok (.iload 6, 2) := by decide +kernel
theorem dX8_arcs_271 : decode cX8_arcs 271 = .ok (.imul, 1) := by decide +kernel
theorem dX8_arcs_272 : decode cX8_arcs 272 = .ok (.iadd, 1) := by decide +kernel
theorem dX8_arcs_273 : decode cX8_arcs 273 = .ok (.iconst 4, 1) := by decide +kernel
theorem dX8_arcs_274 : decode cX8_arcs 274 = .ok (.iadd, 1) := by decide +kernel
theorem dX8_arcs_275 : decode cX8_arcs 275 = .ok (.iaload, 1) := by decide +kernel
theorem dX8_arcs_276 : decode cX8_arcs 276 = .ok (.invokevirtual 92, 3) := by decide +kernel
theorem dX8_arcs_279 : decode cX8_arcs 279 = .ok (.iinc 6 1, 3) := by decide +kernel
theorem dX8_arcs_282 : decode cX8_arcs 282 = .ok (.goto (-82), 3) := by decide +kernel
theorem dX8_arcs_285 : decode cX8_arcs 285 = .ok (.aload_n 0, 1) := by decide +kernel
theorem dX8_arcs_286 : decode cX8_arcs 286 = .ok (.bipush 82, 2) := by decide +kernel
theorem dX8_arcs_288 : decode cX8_arcs 288 = .ok (.iconst 0, 1) := by decide +kernel
theorem dX8_arcs_289 : decode cX8_arcs 289 = .ok (.invokevirtual 80, 3) := by decide +kernel
theorem dX8_arcs_292 : decode cX8_arcs 292 = .ok (.aload_n 0, 1) := by decide +kernel
theorem dX8_arcs_293 : decode cX8_arcs 293 = .ok (.getfield 77, 3) := by decide +kernel
theorem dX8_arcs_296 : decode cX8_arcs 296 = .ok (.ireturn, 1) := by decide +kernel
theorem dJ7_fill_d0a16_0 : decode cJ7_fill_d0a16 0 = .ok (.iconst 0, 1) := by decide +kernel
theorem dJ7_fill_d0a16_1 : decode cJ7_fill_d0a16 1 = .ok (.istore_n 3, 1) := by decide +kernel
theorem dJ7_fill_d0a16_2 : decode cJ7_fill_d0a16 2 = .ok (.aload_n 0, 1) := by decide +kernel
theorem dJ7_fill_d0a16_3 : decode cJ7_fill_d0a16 3 = .ok (.arraylength, 1) := by decide +kernel
theorem dJ7_fill_d0a16_4 : decode cJ7_fill_d0a16 4 = .ok (.istore 4, 2) := by decide +kernel
theorem dJ7_fill_d0a16_6 : decode cJ7_fill_d0a16 6 = .ok (.iload_n 3, 1) := by decide +kernel
theorem dJ7_fill_d0a16_7 : decode cJ7_fill_d0a16 7 = .ok (.iload 4, 2) := by decide +kernel
theorem dJ7_fill_d0a16_9 : decode cJ7_fill_d0a16 9 = .ok (.if_icmp .ge 13, 3) := by decide +kernel
theorem dJ7_fill_d0a16_12 : decode cJ7_fill_d0a16 12 = .ok (.aload_n 0, 1) := by decide +kernel
theorem dJ7_fill_d0a16_13 : decode cJ7_fill_d0a16 13 = .ok (.iload_n 3, 1) := by decide +kernel
theorem dJ7_fill_d0a16_14 : decode cJ7_fill_d0a16 14 = .ok (.lload_n 1, 1) := by decide +kernel
theorem dJ7_fill_d0a16_15 : decode cJ7_fill_d0a16 15 = .ok (.lastore, 1) := by decide +kernel
theorem dJ7_fill_d0a16_16 : decode cJ7_fill_d0a16 16 = .ok (.iinc 3 1, 3) := by decide +kernel
theorem dJ7_fill_d0a16_19 : decode cJ7_fill_d0a16 19 = .ok (.goto (-13), 3) := by decide +kernel
theorem dJ7_fill_d0a16_22 : decode cJ7_fill_d0a16 22 = .ok (.return_, 1) := by decide +kernel
theorem dJ7_fill_53178_0 : decode cJ7_fill_53178 0 = .ok (.iconst 0, 1) := by decide +kernel
theorem dJ7_fill_53178_1 : decode cJ7_fill_53178 1 = .ok (.istore_n 2, 1) := by decide +kernel
theorem dJ7_fill_53178_2 : decode cJ7_fill_53178 2 = .ok (.aload_n 0, 1) := by decide +kernel
theorem dJ7_fill_53178_3 : decode cJ7_fill_53178 3 = .ok (.arraylength, 1) := by decide +kernel
theorem dJ7_fill_53178_4 : decode cJ7_fill_53178 4 = .ok (.istore_n 3, 1) := by decide +kernel
theorem dJ7_fill_53178_5 : decode cJ7_fill_53178 5 = .ok (.iload_n 2, 1) := by decide +kernel
theorem dJ7_fill_53178_6 : decode cJ7_fill_53178 6 = .ok (.iload_n 3, 1) := by decide +kernel
theorem dJ7_fill_53178_7 : decode cJ7_fill_53178 7 = .ok (.if_icmp .ge 13, 3) := by decide +kernel
theorem dJ7_fill_53178_10 : decode cJ7_fill_53178 10 = .ok (.aload_n 0, 1) := by decide +kernel
theorem dJ7_fill_53178_11 : decode cJ7_fill_53178 11 = .ok (.iload_n 2, 1) := by decide +kernel
theorem dJ7_fill_53178_12 : decode cJ7_fill_53178 12 = .ok (.iload_n 1, 1) := by decide +kernel
theorem dJ7_fill_53178_13 : decode cJ7_fill_53178 13 = .ok (.iastore, 1) := by decide +kernel
theorem dJ7_fill_53178_14 : decode cJ7_fill_53178 14 = .ok (.iinc 2 1, 3) := by decide +kernel
theorem dJ7_fill_53178_17 : decode cJ7_fill_53178 17 = .ok (.goto (-12), 3) := by decide +kernel
theorem dJ7_fill_53178_20 : decode cJ7_fill_53178 20 = .ok (.return_, 1) := by decide +kernel
abbrev vwCl : List vw_C := [(RX0, TX0, 4), (RX1, TX1, 2), (RX2, TX2, 8), (RX3, TX3, 4), (RX4, TX4, 4), (RX5, TX5, 3), (RX7, TX7, 8), (RX8, TX8, 25)]
end
section
/-- the state of an object: its numbers, its rows of ints, its rows of longs, by the places of their fields -/
abbrev Ob : Type := (Nat → Int32) × (Nat → Nat → Int32) × (Nat → Nat → Int64)
def fs_i (u : Ob) (k : Nat) (v : Int32) : Ob := (upd u.1 k v, u.2)
def fs_a (u : Ob) (k : Nat) (f : Nat → Int32) : Ob := (u.1, fun j => if j = k then f else u.2.1 j, u.2.2)
def fs_l (u : Ob) (k : Nat) (f : Nat → Int64) : Ob := (u.1, u.2.1, fun j => if j = k then f else u.2.2 j)
def j_ushr (x y : Int32) : Int32 := (x.toUInt32 >>> (y.toUInt32 &&& Int32.toUInt32 31)).toInt32
def j_lushr (x : Int64) (y : Int32) : Int64 := (x.toUInt64 >>> (y.toInt64.toUInt64 &&& Int64.toUInt64 63)).toInt64
def j_lshr (x : Int64) (y : Int32) : Int64 := x >>> (y.toInt64 &&& 63)
def j_lshl (x : Int64) (y : Int32) : Int64 := x <<< (y.toInt64 &&& 63)
def j_rem (x y : Int32) : Int32 := x - x / y * y
def zb (r : Int32) : Prop := narrow .boolean (.int r) = .int r
def jn {J : Type} (rest : J) (f : J → Prop) : Prop := f rest
def lq1 {A1 : Type} (body : (A1 → Prop) → A1 → Prop) : Nat → A1 → Prop
  | 0 => fun _ => False
  | n + 1 => body (lq1 body n)
theorem lq1_ind {A1 : Type} {body : (A1 → Prop) → A1 → Prop} {GG : A1 → Prop} (hs : ∀ (LL : A1 → Prop), (∀ (a1 : A1), LL a1 → GG a1) → ∀ (a1 : A1), body LL a1 → GG a1) : ∀ (n : Nat) (a1 : A1), lq1 body n a1 → GG a1 := by
  intro n
  induction n with
  | zero => intro a1 h; exact h.elim
  | succ n ih => exact hs (lq1 body n) ih
theorem lq1_of {A1 : Type} {body : (A1 → Prop) → A1 → Prop} (II : A1 → Prop) (mu : A1 → Nat) (hs : ∀ (LL : A1 → Prop) (a1 : A1), II a1 → (∀ (b1 : A1), II b1 → mu b1 < mu a1 → LL b1) → body LL a1) : ∀ (a1 : A1), II a1 → ∃ n : Nat, lq1 body n a1 := by
  have key : ∀ (n : Nat) (a1 : A1), II a1 → mu a1 < n → lq1 body n a1 := by
    intro n
    induction n with
    | zero => intro a1 _ h; exact absurd h (Nat.not_lt_zero _)
    | succ n ih => intro a1 hi hm; exact hs (lq1 body n) a1 hi (fun b1 h1 h2 => ih b1 h1 (by omega))
  intro a1 h
  exact ⟨_, key _ a1 h (Nat.lt_succ_self _)⟩
theorem lq1_m {A1 : Type} {body : (A1 → Prop) → A1 → Prop} (II : Nat → A1 → Prop) (hs : ∀ (LL : A1 → Prop) (m : Nat) (a1 : A1), II m a1 → (∀ (m2 : Nat) (b1 : A1), m2 < m → II m2 b1 → LL b1) → body LL a1) : ∀ (m : Nat) (a1 : A1), II m a1 → ∃ n : Nat, lq1 body n a1 := by
  have key : ∀ (n m : Nat) (a1 : A1), m < n → II m a1 → lq1 body n a1 := by
    intro n
    induction n with
    | zero => intro m a1 h; exact absurd h (Nat.not_lt_zero _)
    | succ n ih => intro m a1 hm hi; exact hs (lq1 body n) m a1 hi (fun m2 b1 h1 h2 => ih m2 b1 (by omega) h2)
  intro m a1 h
  exact ⟨_, key (m + 1) m a1 (Nat.lt_succ_self _) h⟩
theorem jn1_ind {A1 : Type} {rest : A1 → Prop} {f : (A1 → Prop) → Prop} {GG : A1 → Prop} {TT : Prop} (h : jn rest f) (hr : ∀ (a1 : A1), rest a1 → GG a1) (hf : ∀ (JJ : A1 → Prop), (∀ (a1 : A1), JJ a1 → GG a1) → f JJ → TT) : TT := hf rest hr h
def lq2 {A1 A2 : Type} (body : (A1 → A2 → Prop) → A1 → A2 → Prop) : Nat → A1 → A2 → Prop
  | 0 => fun _ _ => False
  | n + 1 => body (lq2 body n)
theorem lq2_ind {A1 A2 : Type} {body : (A1 → A2 → Prop) → A1 → A2 → Prop} {GG : A1 → A2 → Prop} (hs : ∀ (LL : A1 → A2 → Prop), (∀ (a1 : A1) (a2 : A2), LL a1 a2 → GG a1 a2) → ∀ (a1 : A1) (a2 : A2), body LL a1 a2 → GG a1 a2) : ∀ (n : Nat) (a1 : A1) (a2 : A2), lq2 body n a1 a2 → GG a1 a2 := by
  intro n
  induction n with
  | zero => intro a1 a2 h; exact h.elim
  | succ n ih => exact hs (lq2 body n) ih
theorem lq2_of {A1 A2 : Type} {body : (A1 → A2 → Prop) → A1 → A2 → Prop} (II : A1 → A2 → Prop) (mu : A1 → A2 → Nat) (hs : ∀ (LL : A1 → A2 → Prop) (a1 : A1) (a2 : A2), II a1 a2 → (∀ (b1 : A1) (b2 : A2), II b1 b2 → mu b1 b2 < mu a1 a2 → LL b1 b2) → body LL a1 a2) : ∀ (a1 : A1) (a2 : A2), II a1 a2 → ∃ n : Nat, lq2 body n a1 a2 := by
  have key : ∀ (n : Nat) (a1 : A1) (a2 : A2), II a1 a2 → mu a1 a2 < n → lq2 body n a1 a2 := by
    intro n
    induction n with
    | zero => intro a1 a2 _ h; exact absurd h (Nat.not_lt_zero _)
    | succ n ih => intro a1 a2 hi hm; exact hs (lq2 body n) a1 a2 hi (fun b1 b2 h1 h2 => ih b1 b2 h1 (by omega))
  intro a1 a2 h
  exact ⟨_, key _ a1 a2 h (Nat.lt_succ_self _)⟩
theorem lq2_m {A1 A2 : Type} {body : (A1 → A2 → Prop) → A1 → A2 → Prop} (II : Nat → A1 → A2 → Prop) (hs : ∀ (LL : A1 → A2 → Prop) (m : Nat) (a1 : A1) (a2 : A2), II m a1 a2 → (∀ (m2 : Nat) (b1 : A1) (b2 : A2), m2 < m → II m2 b1 b2 → LL b1 b2) → body LL a1 a2) : ∀ (m : Nat) (a1 : A1) (a2 : A2), II m a1 a2 → ∃ n : Nat, lq2 body n a1 a2 := by
  have key : ∀ (n m : Nat) (a1 : A1) (a2 : A2), m < n → II m a1 a2 → lq2 body n a1 a2 := by
    intro n
    induction n with
    | zero => intro m a1 a2 h; exact absurd h (Nat.not_lt_zero _)
    | succ n ih => intro m a1 a2 hm hi; exact hs (lq2 body n) m a1 a2 hi (fun m2 b1 b2 h1 h2 => ih m2 b1 b2 (by omega) h2)
  intro m a1 a2 h
  exact ⟨_, key (m + 1) m a1 a2 (Nat.lt_succ_self _) h⟩
theorem jn2_ind {A1 A2 : Type} {rest : A1 → A2 → Prop} {f : (A1 → A2 → Prop) → Prop} {GG : A1 → A2 → Prop} {TT : Prop} (h : jn rest f) (hr : ∀ (a1 : A1) (a2 : A2), rest a1 a2 → GG a1 a2) (hf : ∀ (JJ : A1 → A2 → Prop), (∀ (a1 : A1) (a2 : A2), JJ a1 a2 → GG a1 a2) → f JJ → TT) : TT := hf rest hr h
def lq3 {A1 A2 A3 : Type} (body : (A1 → A2 → A3 → Prop) → A1 → A2 → A3 → Prop) : Nat → A1 → A2 → A3 → Prop
  | 0 => fun _ _ _ => False
  | n + 1 => body (lq3 body n)
theorem lq3_ind {A1 A2 A3 : Type} {body : (A1 → A2 → A3 → Prop) → A1 → A2 → A3 → Prop} {GG : A1 → A2 → A3 → Prop} (hs : ∀ (LL : A1 → A2 → A3 → Prop), (∀ (a1 : A1) (a2 : A2) (a3 : A3), LL a1 a2 a3 → GG a1 a2 a3) → ∀ (a1 : A1) (a2 : A2) (a3 : A3), body LL a1 a2 a3 → GG a1 a2 a3) : ∀ (n : Nat) (a1 : A1) (a2 : A2) (a3 : A3), lq3 body n a1 a2 a3 → GG a1 a2 a3 := by
  intro n
  induction n with
  | zero => intro a1 a2 a3 h; exact h.elim
  | succ n ih => exact hs (lq3 body n) ih
theorem lq3_of {A1 A2 A3 : Type} {body : (A1 → A2 → A3 → Prop) → A1 → A2 → A3 → Prop} (II : A1 → A2 → A3 → Prop) (mu : A1 → A2 → A3 → Nat) (hs : ∀ (LL : A1 → A2 → A3 → Prop) (a1 : A1) (a2 : A2) (a3 : A3), II a1 a2 a3 → (∀ (b1 : A1) (b2 : A2) (b3 : A3), II b1 b2 b3 → mu b1 b2 b3 < mu a1 a2 a3 → LL b1 b2 b3) → body LL a1 a2 a3) : ∀ (a1 : A1) (a2 : A2) (a3 : A3), II a1 a2 a3 → ∃ n : Nat, lq3 body n a1 a2 a3 := by
  have key : ∀ (n : Nat) (a1 : A1) (a2 : A2) (a3 : A3), II a1 a2 a3 → mu a1 a2 a3 < n → lq3 body n a1 a2 a3 := by
    intro n
    induction n with
    | zero => intro a1 a2 a3 _ h; exact absurd h (Nat.not_lt_zero _)
    | succ n ih => intro a1 a2 a3 hi hm; exact hs (lq3 body n) a1 a2 a3 hi (fun b1 b2 b3 h1 h2 => ih b1 b2 b3 h1 (by omega))
  intro a1 a2 a3 h
  exact ⟨_, key _ a1 a2 a3 h (Nat.lt_succ_self _)⟩
theorem lq3_m {A1 A2 A3 : Type} {body : (A1 → A2 → A3 → Prop) → A1 → A2 → A3 → Prop} (II : Nat → A1 → A2 → A3 → Prop) (hs : ∀ (LL : A1 → A2 → A3 → Prop) (m : Nat) (a1 : A1) (a2 : A2) (a3 : A3), II m a1 a2 a3 → (∀ (m2 : Nat) (b1 : A1) (b2 : A2) (b3 : A3), m2 < m → II m2 b1 b2 b3 → LL b1 b2 b3) → body LL a1 a2 a3) : ∀ (m : Nat) (a1 : A1) (a2 : A2) (a3 : A3), II m a1 a2 a3 → ∃ n : Nat, lq3 body n a1 a2 a3 := by
  have key : ∀ (n m : Nat) (a1 : A1) (a2 : A2) (a3 : A3), m < n → II m a1 a2 a3 → lq3 body n a1 a2 a3 := by
    intro n
    induction n with
    | zero => intro m a1 a2 a3 h; exact absurd h (Nat.not_lt_zero _)
    | succ n ih => intro m a1 a2 a3 hm hi; exact hs (lq3 body n) m a1 a2 a3 hi (fun m2 b1 b2 b3 h1 h2 => ih m2 b1 b2 b3 (by omega) h2)
  intro m a1 a2 a3 h
  exact ⟨_, key (m + 1) m a1 a2 a3 (Nat.lt_succ_self _) h⟩
theorem jn3_ind {A1 A2 A3 : Type} {rest : A1 → A2 → A3 → Prop} {f : (A1 → A2 → A3 → Prop) → Prop} {GG : A1 → A2 → A3 → Prop} {TT : Prop} (h : jn rest f) (hr : ∀ (a1 : A1) (a2 : A2) (a3 : A3), rest a1 a2 a3 → GG a1 a2 a3) (hf : ∀ (JJ : A1 → A2 → A3 → Prop), (∀ (a1 : A1) (a2 : A2) (a3 : A3), JJ a1 a2 a3 → GG a1 a2 a3) → f JJ → TT) : TT := hf rest hr h
def lq4 {A1 A2 A3 A4 : Type} (body : (A1 → A2 → A3 → A4 → Prop) → A1 → A2 → A3 → A4 → Prop) : Nat → A1 → A2 → A3 → A4 → Prop
  | 0 => fun _ _ _ _ => False
  | n + 1 => body (lq4 body n)
theorem lq4_ind {A1 A2 A3 A4 : Type} {body : (A1 → A2 → A3 → A4 → Prop) → A1 → A2 → A3 → A4 → Prop} {GG : A1 → A2 → A3 → A4 → Prop} (hs : ∀ (LL : A1 → A2 → A3 → A4 → Prop), (∀ (a1 : A1) (a2 : A2) (a3 : A3) (a4 : A4), LL a1 a2 a3 a4 → GG a1 a2 a3 a4) → ∀ (a1 : A1) (a2 : A2) (a3 : A3) (a4 : A4), body LL a1 a2 a3 a4 → GG a1 a2 a3 a4) : ∀ (n : Nat) (a1 : A1) (a2 : A2) (a3 : A3) (a4 : A4), lq4 body n a1 a2 a3 a4 → GG a1 a2 a3 a4 := by
  intro n
  induction n with
  | zero => intro a1 a2 a3 a4 h; exact h.elim
  | succ n ih => exact hs (lq4 body n) ih
theorem lq4_of {A1 A2 A3 A4 : Type} {body : (A1 → A2 → A3 → A4 → Prop) → A1 → A2 → A3 → A4 → Prop} (II : A1 → A2 → A3 → A4 → Prop) (mu : A1 → A2 → A3 → A4 → Nat) (hs : ∀ (LL : A1 → A2 → A3 → A4 → Prop) (a1 : A1) (a2 : A2) (a3 : A3) (a4 : A4), II a1 a2 a3 a4 → (∀ (b1 : A1) (b2 : A2) (b3 : A3) (b4 : A4), II b1 b2 b3 b4 → mu b1 b2 b3 b4 < mu a1 a2 a3 a4 → LL b1 b2 b3 b4) → body LL a1 a2 a3 a4) : ∀ (a1 : A1) (a2 : A2) (a3 : A3) (a4 : A4), II a1 a2 a3 a4 → ∃ n : Nat, lq4 body n a1 a2 a3 a4 := by
  have key : ∀ (n : Nat) (a1 : A1) (a2 : A2) (a3 : A3) (a4 : A4), II a1 a2 a3 a4 → mu a1 a2 a3 a4 < n → lq4 body n a1 a2 a3 a4 := by
    intro n
    induction n with
    | zero => intro a1 a2 a3 a4 _ h; exact absurd h (Nat.not_lt_zero _)
    | succ n ih => intro a1 a2 a3 a4 hi hm; exact hs (lq4 body n) a1 a2 a3 a4 hi (fun b1 b2 b3 b4 h1 h2 => ih b1 b2 b3 b4 h1 (by omega))
  intro a1 a2 a3 a4 h
  exact ⟨_, key _ a1 a2 a3 a4 h (Nat.lt_succ_self _)⟩
theorem lq4_m {A1 A2 A3 A4 : Type} {body : (A1 → A2 → A3 → A4 → Prop) → A1 → A2 → A3 → A4 → Prop} (II : Nat → A1 → A2 → A3 → A4 → Prop) (hs : ∀ (LL : A1 → A2 → A3 → A4 → Prop) (m : Nat) (a1 : A1) (a2 : A2) (a3 : A3) (a4 : A4), II m a1 a2 a3 a4 → (∀ (m2 : Nat) (b1 : A1) (b2 : A2) (b3 : A3) (b4 : A4), m2 < m → II m2 b1 b2 b3 b4 → LL b1 b2 b3 b4) → body LL a1 a2 a3 a4) : ∀ (m : Nat) (a1 : A1) (a2 : A2) (a3 : A3) (a4 : A4), II m a1 a2 a3 a4 → ∃ n : Nat, lq4 body n a1 a2 a3 a4 := by
  have key : ∀ (n m : Nat) (a1 : A1) (a2 : A2) (a3 : A3) (a4 : A4), m < n → II m a1 a2 a3 a4 → lq4 body n a1 a2 a3 a4 := by
    intro n
    induction n with
    | zero => intro m a1 a2 a3 a4 h; exact absurd h (Nat.not_lt_zero _)
    | succ n ih => intro m a1 a2 a3 a4 hm hi; exact hs (lq4 body n) m a1 a2 a3 a4 hi (fun m2 b1 b2 b3 b4 h1 h2 => ih m2 b1 b2 b3 b4 (by omega) h2)
  intro m a1 a2 a3 a4 h
  exact ⟨_, key (m + 1) m a1 a2 a3 a4 (Nat.lt_succ_self _) h⟩
theorem jn4_ind {A1 A2 A3 A4 : Type} {rest : A1 → A2 → A3 → A4 → Prop} {f : (A1 → A2 → A3 → A4 → Prop) → Prop} {GG : A1 → A2 → A3 → A4 → Prop} {TT : Prop} (h : jn rest f) (hr : ∀ (a1 : A1) (a2 : A2) (a3 : A3) (a4 : A4), rest a1 a2 a3 a4 → GG a1 a2 a3 a4) (hf : ∀ (JJ : A1 → A2 → A3 → A4 → Prop), (∀ (a1 : A1) (a2 : A2) (a3 : A3) (a4 : A4), JJ a1 a2 a3 a4 → GG a1 a2 a3 a4) → f JJ → TT) : TT := hf rest hr h
def lq5 {A1 A2 A3 A4 A5 : Type} (body : (A1 → A2 → A3 → A4 → A5 → Prop) → A1 → A2 → A3 → A4 → A5 → Prop) : Nat → A1 → A2 → A3 → A4 → A5 → Prop
  | 0 => fun _ _ _ _ _ => False
  | n + 1 => body (lq5 body n)
theorem lq5_ind {A1 A2 A3 A4 A5 : Type} {body : (A1 → A2 → A3 → A4 → A5 → Prop) → A1 → A2 → A3 → A4 → A5 → Prop} {GG : A1 → A2 → A3 → A4 → A5 → Prop} (hs : ∀ (LL : A1 → A2 → A3 → A4 → A5 → Prop), (∀ (a1 : A1) (a2 : A2) (a3 : A3) (a4 : A4) (a5 : A5), LL a1 a2 a3 a4 a5 → GG a1 a2 a3 a4 a5) → ∀ (a1 : A1) (a2 : A2) (a3 : A3) (a4 : A4) (a5 : A5), body LL a1 a2 a3 a4 a5 → GG a1 a2 a3 a4 a5) : ∀ (n : Nat) (a1 : A1) (a2 : A2) (a3 : A3) (a4 : A4) (a5 : A5), lq5 body n a1 a2 a3 a4 a5 → GG a1 a2 a3 a4 a5 := by
  intro n
  induction n with
  | zero => intro a1 a2 a3 a4 a5 h; exact h.elim
  | succ n ih => exact hs (lq5 body n) ih
theorem lq5_of {A1 A2 A3 A4 A5 : Type} {body : (A1 → A2 → A3 → A4 → A5 → Prop) → A1 → A2 → A3 → A4 → A5 → Prop} (II : A1 → A2 → A3 → A4 → A5 → Prop) (mu : A1 → A2 → A3 → A4 → A5 → Nat) (hs : ∀ (LL : A1 → A2 → A3 → A4 → A5 → Prop) (a1 : A1) (a2 : A2) (a3 : A3) (a4 : A4) (a5 : A5), II a1 a2 a3 a4 a5 → (∀ (b1 : A1) (b2 : A2) (b3 : A3) (b4 : A4) (b5 : A5), II b1 b2 b3 b4 b5 → mu b1 b2 b3 b4 b5 < mu a1 a2 a3 a4 a5 → LL b1 b2 b3 b4 b5) → body LL a1 a2 a3 a4 a5) : ∀ (a1 : A1) (a2 : A2) (a3 : A3) (a4 : A4) (a5 : A5), II a1 a2 a3 a4 a5 → ∃ n : Nat, lq5 body n a1 a2 a3 a4 a5 := by
  have key : ∀ (n : Nat) (a1 : A1) (a2 : A2) (a3 : A3) (a4 : A4) (a5 : A5), II a1 a2 a3 a4 a5 → mu a1 a2 a3 a4 a5 < n → lq5 body n a1 a2 a3 a4 a5 := by
    intro n
    induction n with
    | zero => intro a1 a2 a3 a4 a5 _ h; exact absurd h (Nat.not_lt_zero _)
    | succ n ih => intro a1 a2 a3 a4 a5 hi hm; exact hs (lq5 body n) a1 a2 a3 a4 a5 hi (fun b1 b2 b3 b4 b5 h1 h2 => ih b1 b2 b3 b4 b5 h1 (by omega))
  intro a1 a2 a3 a4 a5 h
  exact ⟨_, key _ a1 a2 a3 a4 a5 h (Nat.lt_succ_self _)⟩
theorem lq5_m {A1 A2 A3 A4 A5 : Type} {body : (A1 → A2 → A3 → A4 → A5 → Prop) → A1 → A2 → A3 → A4 → A5 → Prop} (II : Nat → A1 → A2 → A3 → A4 → A5 → Prop) (hs : ∀ (LL : A1 → A2 → A3 → A4 → A5 → Prop) (m : Nat) (a1 : A1) (a2 : A2) (a3 : A3) (a4 : A4) (a5 : A5), II m a1 a2 a3 a4 a5 → (∀ (m2 : Nat) (b1 : A1) (b2 : A2) (b3 : A3) (b4 : A4) (b5 : A5), m2 < m → II m2 b1 b2 b3 b4 b5 → LL b1 b2 b3 b4 b5) → body LL a1 a2 a3 a4 a5) : ∀ (m : Nat) (a1 : A1) (a2 : A2) (a3 : A3) (a4 : A4) (a5 : A5), II m a1 a2 a3 a4 a5 → ∃ n : Nat, lq5 body n a1 a2 a3 a4 a5 := by
  have key : ∀ (n m : Nat) (a1 : A1) (a2 : A2) (a3 : A3) (a4 : A4) (a5 : A5), m < n → II m a1 a2 a3 a4 a5 → lq5 body n a1 a2 a3 a4 a5 := by
    intro n
    induction n with
    | zero => intro m a1 a2 a3 a4 a5 h; exact absurd h (Nat.not_lt_zero _)
    | succ n ih => intro m a1 a2 a3 a4 a5 hm hi; exact hs (lq5 body n) m a1 a2 a3 a4 a5 hi (fun m2 b1 b2 b3 b4 b5 h1 h2 => ih m2 b1 b2 b3 b4 b5 (by omega) h2)
  intro m a1 a2 a3 a4 a5 h
  exact ⟨_, key (m + 1) m a1 a2 a3 a4 a5 (Nat.lt_succ_self _) h⟩
theorem jn5_ind {A1 A2 A3 A4 A5 : Type} {rest : A1 → A2 → A3 → A4 → A5 → Prop} {f : (A1 → A2 → A3 → A4 → A5 → Prop) → Prop} {GG : A1 → A2 → A3 → A4 → A5 → Prop} {TT : Prop} (h : jn rest f) (hr : ∀ (a1 : A1) (a2 : A2) (a3 : A3) (a4 : A4) (a5 : A5), rest a1 a2 a3 a4 a5 → GG a1 a2 a3 a4 a5) (hf : ∀ (JJ : A1 → A2 → A3 → A4 → A5 → Prop), (∀ (a1 : A1) (a2 : A2) (a3 : A3) (a4 : A4) (a5 : A5), JJ a1 a2 a3 a4 a5 → GG a1 a2 a3 a4 a5) → f JJ → TT) : TT := hf rest hr h
def lq6 {A1 A2 A3 A4 A5 A6 : Type} (body : (A1 → A2 → A3 → A4 → A5 → A6 → Prop) → A1 → A2 → A3 → A4 → A5 → A6 → Prop) : Nat → A1 → A2 → A3 → A4 → A5 → A6 → Prop
  | 0 => fun _ _ _ _ _ _ => False
  | n + 1 => body (lq6 body n)
theorem lq6_ind {A1 A2 A3 A4 A5 A6 : Type} {body : (A1 → A2 → A3 → A4 → A5 → A6 → Prop) → A1 → A2 → A3 → A4 → A5 → A6 → Prop} {GG : A1 → A2 → A3 → A4 → A5 → A6 → Prop} (hs : ∀ (LL : A1 → A2 → A3 → A4 → A5 → A6 → Prop), (∀ (a1 : A1) (a2 : A2) (a3 : A3) (a4 : A4) (a5 : A5) (a6 : A6), LL a1 a2 a3 a4 a5 a6 → GG a1 a2 a3 a4 a5 a6) → ∀ (a1 : A1) (a2 : A2) (a3 : A3) (a4 : A4) (a5 : A5) (a6 : A6), body LL a1 a2 a3 a4 a5 a6 → GG a1 a2 a3 a4 a5 a6) : ∀ (n : Nat) (a1 : A1) (a2 : A2) (a3 : A3) (a4 : A4) (a5 : A5) (a6 : A6), lq6 body n a1 a2 a3 a4 a5 a6 → GG a1 a2 a3 a4 a5 a6 := by
  intro n
  induction n with
  | zero => intro a1 a2 a3 a4 a5 a6 h; exact h.elim
  | succ n ih => exact hs (lq6 body n) ih
theorem lq6_of {A1 A2 A3 A4 A5 A6 : Type} {body : (A1 → A2 → A3 → A4 → A5 → A6 → Prop) → A1 → A2 → A3 → A4 → A5 → A6 → Prop} (II : A1 → A2 → A3 → A4 → A5 → A6 → Prop) (mu : A1 → A2 → A3 → A4 → A5 → A6 → Nat) (hs : ∀ (LL : A1 → A2 → A3 → A4 → A5 → A6 → Prop) (a1 : A1) (a2 : A2) (a3 : A3) (a4 : A4) (a5 : A5) (a6 : A6), II a1 a2 a3 a4 a5 a6 → (∀ (b1 : A1) (b2 : A2) (b3 : A3) (b4 : A4) (b5 : A5) (b6 : A6), II b1 b2 b3 b4 b5 b6 → mu b1 b2 b3 b4 b5 b6 < mu a1 a2 a3 a4 a5 a6 → LL b1 b2 b3 b4 b5 b6) → body LL a1 a2 a3 a4 a5 a6) : ∀ (a1 : A1) (a2 : A2) (a3 : A3) (a4 : A4) (a5 : A5) (a6 : A6), II a1 a2 a3 a4 a5 a6 → ∃ n : Nat, lq6 body n a1 a2 a3 a4 a5 a6 := by
  have key : ∀ (n : Nat) (a1 : A1) (a2 : A2) (a3 : A3) (a4 : A4) (a5 : A5) (a6 : A6), II a1 a2 a3 a4 a5 a6 → mu a1 a2 a3 a4 a5 a6 < n → lq6 body n a1 a2 a3 a4 a5 a6 := by
    intro n
    induction n with
    | zero => intro a1 a2 a3 a4 a5 a6 _ h; exact absurd h (Nat.not_lt_zero _)
    | succ n ih => intro a1 a2 a3 a4 a5 a6 hi hm; exact hs (lq6 body n) a1 a2 a3 a4 a5 a6 hi (fun b1 b2 b3 b4 b5 b6 h1 h2 => ih b1 b2 b3 b4 b5 b6 h1 (by omega))
  intro a1 a2 a3 a4 a5 a6 h
  exact ⟨_, key _ a1 a2 a3 a4 a5 a6 h (Nat.lt_succ_self _)⟩
theorem lq6_m {A1 A2 A3 A4 A5 A6 : Type} {body : (A1 → A2 → A3 → A4 → A5 → A6 → Prop) → A1 → A2 → A3 → A4 → A5 → A6 → Prop} (II : Nat → A1 → A2 → A3 → A4 → A5 → A6 → Prop) (hs : ∀ (LL : A1 → A2 → A3 → A4 → A5 → A6 → Prop) (m : Nat) (a1 : A1) (a2 : A2) (a3 : A3) (a4 : A4) (a5 : A5) (a6 : A6), II m a1 a2 a3 a4 a5 a6 → (∀ (m2 : Nat) (b1 : A1) (b2 : A2) (b3 : A3) (b4 : A4) (b5 : A5) (b6 : A6), m2 < m → II m2 b1 b2 b3 b4 b5 b6 → LL b1 b2 b3 b4 b5 b6) → body LL a1 a2 a3 a4 a5 a6) : ∀ (m : Nat) (a1 : A1) (a2 : A2) (a3 : A3) (a4 : A4) (a5 : A5) (a6 : A6), II m a1 a2 a3 a4 a5 a6 → ∃ n : Nat, lq6 body n a1 a2 a3 a4 a5 a6 := by
  have key : ∀ (n m : Nat) (a1 : A1) (a2 : A2) (a3 : A3) (a4 : A4) (a5 : A5) (a6 : A6), m < n → II m a1 a2 a3 a4 a5 a6 → lq6 body n a1 a2 a3 a4 a5 a6 := by
    intro n
    induction n with
    | zero => intro m a1 a2 a3 a4 a5 a6 h; exact absurd h (Nat.not_lt_zero _)
    | succ n ih => intro m a1 a2 a3 a4 a5 a6 hm hi; exact hs (lq6 body n) m a1 a2 a3 a4 a5 a6 hi (fun m2 b1 b2 b3 b4 b5 b6 h1 h2 => ih m2 b1 b2 b3 b4 b5 b6 (by omega) h2)
  intro m a1 a2 a3 a4 a5 a6 h
  exact ⟨_, key (m + 1) m a1 a2 a3 a4 a5 a6 (Nat.lt_succ_self _) h⟩
theorem jn6_ind {A1 A2 A3 A4 A5 A6 : Type} {rest : A1 → A2 → A3 → A4 → A5 → A6 → Prop} {f : (A1 → A2 → A3 → A4 → A5 → A6 → Prop) → Prop} {GG : A1 → A2 → A3 → A4 → A5 → A6 → Prop} {TT : Prop} (h : jn rest f) (hr : ∀ (a1 : A1) (a2 : A2) (a3 : A3) (a4 : A4) (a5 : A5) (a6 : A6), rest a1 a2 a3 a4 a5 a6 → GG a1 a2 a3 a4 a5 a6) (hf : ∀ (JJ : A1 → A2 → A3 → A4 → A5 → A6 → Prop), (∀ (a1 : A1) (a2 : A2) (a3 : A3) (a4 : A4) (a5 : A5) (a6 : A6), JJ a1 a2 a3 a4 a5 a6 → GG a1 a2 a3 a4 a5 a6) → f JJ → TT) : TT := hf rest hr h
def lq7 {A1 A2 A3 A4 A5 A6 A7 : Type} (body : (A1 → A2 → A3 → A4 → A5 → A6 → A7 → Prop) → A1 → A2 → A3 → A4 → A5 → A6 → A7 → Prop) : Nat → A1 → A2 → A3 → A4 → A5 → A6 → A7 → Prop
  | 0 => fun _ _ _ _ _ _ _ => False
  | n + 1 => body (lq7 body n)
theorem lq7_ind {A1 A2 A3 A4 A5 A6 A7 : Type} {body : (A1 → A2 → A3 → A4 → A5 → A6 → A7 → Prop) → A1 → A2 → A3 → A4 → A5 → A6 → A7 → Prop} {GG : A1 → A2 → A3 → A4 → A5 → A6 → A7 → Prop} (hs : ∀ (LL : A1 → A2 → A3 → A4 → A5 → A6 → A7 → Prop), (∀ (a1 : A1) (a2 : A2) (a3 : A3) (a4 : A4) (a5 : A5) (a6 : A6) (a7 : A7), LL a1 a2 a3 a4 a5 a6 a7 → GG a1 a2 a3 a4 a5 a6 a7) → ∀ (a1 : A1) (a2 : A2) (a3 : A3) (a4 : A4) (a5 : A5) (a6 : A6) (a7 : A7), body LL a1 a2 a3 a4 a5 a6 a7 → GG a1 a2 a3 a4 a5 a6 a7) : ∀ (n : Nat) (a1 : A1) (a2 : A2) (a3 : A3) (a4 : A4) (a5 : A5) (a6 : A6) (a7 : A7), lq7 body n a1 a2 a3 a4 a5 a6 a7 → GG a1 a2 a3 a4 a5 a6 a7 := by
  intro n
  induction n with
  | zero => intro a1 a2 a3 a4 a5 a6 a7 h; exact h.elim
  | succ n ih => exact hs (lq7 body n) ih
theorem lq7_of {A1 A2 A3 A4 A5 A6 A7 : Type} {body : (A1 → A2 → A3 → A4 → A5 → A6 → A7 → Prop) → A1 → A2 → A3 → A4 → A5 → A6 → A7 → Prop} (II : A1 → A2 → A3 → A4 → A5 → A6 → A7 → Prop) (mu : A1 → A2 → A3 → A4 → A5 → A6 → A7 → Nat) (hs : ∀ (LL : A1 → A2 → A3 → A4 → A5 → A6 → A7 → Prop) (a1 : A1) (a2 : A2) (a3 : A3) (a4 : A4) (a5 : A5) (a6 : A6) (a7 : A7), II a1 a2 a3 a4 a5 a6 a7 → (∀ (b1 : A1) (b2 : A2) (b3 : A3) (b4 : A4) (b5 : A5) (b6 : A6) (b7 : A7), II b1 b2 b3 b4 b5 b6 b7 → mu b1 b2 b3 b4 b5 b6 b7 < mu a1 a2 a3 a4 a5 a6 a7 → LL b1 b2 b3 b4 b5 b6 b7) → body LL a1 a2 a3 a4 a5 a6 a7) : ∀ (a1 : A1) (a2 : A2) (a3 : A3) (a4 : A4) (a5 : A5) (a6 : A6) (a7 : A7), II a1 a2 a3 a4 a5 a6 a7 → ∃ n : Nat, lq7 body n a1 a2 a3 a4 a5 a6 a7 := by
  have key : ∀ (n : Nat) (a1 : A1) (a2 : A2) (a3 : A3) (a4 : A4) (a5 : A5) (a6 : A6) (a7 : A7), II a1 a2 a3 a4 a5 a6 a7 → mu a1 a2 a3 a4 a5 a6 a7 < n → lq7 body n a1 a2 a3 a4 a5 a6 a7 := by
    intro n
    induction n with
    | zero => intro a1 a2 a3 a4 a5 a6 a7 _ h; exact absurd h (Nat.not_lt_zero _)
    | succ n ih => intro a1 a2 a3 a4 a5 a6 a7 hi hm; exact hs (lq7 body n) a1 a2 a3 a4 a5 a6 a7 hi (fun b1 b2 b3 b4 b5 b6 b7 h1 h2 => ih b1 b2 b3 b4 b5 b6 b7 h1 (by omega))
  intro a1 a2 a3 a4 a5 a6 a7 h
  exact ⟨_, key _ a1 a2 a3 a4 a5 a6 a7 h (Nat.lt_succ_self _)⟩
theorem lq7_m {A1 A2 A3 A4 A5 A6 A7 : Type} {body : (A1 → A2 → A3 → A4 → A5 → A6 → A7 → Prop) → A1 → A2 → A3 → A4 → A5 → A6 → A7 → Prop} (II : Nat → A1 → A2 → A3 → A4 → A5 → A6 → A7 → Prop) (hs : ∀ (LL : A1 → A2 → A3 → A4 → A5 → A6 → A7 → Prop) (m : Nat) (a1 : A1) (a2 : A2) (a3 : A3) (a4 : A4) (a5 : A5) (a6 : A6) (a7 : A7), II m a1 a2 a3 a4 a5 a6 a7 → (∀ (m2 : Nat) (b1 : A1) (b2 : A2) (b3 : A3) (b4 : A4) (b5 : A5) (b6 : A6) (b7 : A7), m2 < m → II m2 b1 b2 b3 b4 b5 b6 b7 → LL b1 b2 b3 b4 b5 b6 b7) → body LL a1 a2 a3 a4 a5 a6 a7) : ∀ (m : Nat) (a1 : A1) (a2 : A2) (a3 : A3) (a4 : A4) (a5 : A5) (a6 : A6) (a7 : A7), II m a1 a2 a3 a4 a5 a6 a7 → ∃ n : Nat, lq7 body n a1 a2 a3 a4 a5 a6 a7 := by
  have key : ∀ (n m : Nat) (a1 : A1) (a2 : A2) (a3 : A3) (a4 : A4) (a5 : A5) (a6 : A6) (a7 : A7), m < n → II m a1 a2 a3 a4 a5 a6 a7 → lq7 body n a1 a2 a3 a4 a5 a6 a7 := by
    intro n
    induction n with
    | zero => intro m a1 a2 a3 a4 a5 a6 a7 h; exact absurd h (Nat.not_lt_zero _)
    | succ n ih => intro m a1 a2 a3 a4 a5 a6 a7 hm hi; exact hs (lq7 body n) m a1 a2 a3 a4 a5 a6 a7 hi (fun m2 b1 b2 b3 b4 b5 b6 b7 h1 h2 => ih m2 b1 b2 b3 b4 b5 b6 b7 (by omega) h2)
  intro m a1 a2 a3 a4 a5 a6 a7 h
  exact ⟨_, key (m + 1) m a1 a2 a3 a4 a5 a6 a7 (Nat.lt_succ_self _) h⟩
theorem jn7_ind {A1 A2 A3 A4 A5 A6 A7 : Type} {rest : A1 → A2 → A3 → A4 → A5 → A6 → A7 → Prop} {f : (A1 → A2 → A3 → A4 → A5 → A6 → A7 → Prop) → Prop} {GG : A1 → A2 → A3 → A4 → A5 → A6 → A7 → Prop} {TT : Prop} (h : jn rest f) (hr : ∀ (a1 : A1) (a2 : A2) (a3 : A3) (a4 : A4) (a5 : A5) (a6 : A6) (a7 : A7), rest a1 a2 a3 a4 a5 a6 a7 → GG a1 a2 a3 a4 a5 a6 a7) (hf : ∀ (JJ : A1 → A2 → A3 → A4 → A5 → A6 → A7 → Prop), (∀ (a1 : A1) (a2 : A2) (a3 : A3) (a4 : A4) (a5 : A5) (a6 : A6) (a7 : A7), JJ a1 a2 a3 a4 a5 a6 a7 → GG a1 a2 a3 a4 a5 a6 a7) → f JJ → TT) : TT := hf rest hr h
def lq8 {A1 A2 A3 A4 A5 A6 A7 A8 : Type} (body : (A1 → A2 → A3 → A4 → A5 → A6 → A7 → A8 → Prop) → A1 → A2 → A3 → A4 → A5 → A6 → A7 → A8 → Prop) : Nat → A1 → A2 → A3 → A4 → A5 → A6 → A7 → A8 → Prop
  | 0 => fun _ _ _ _ _ _ _ _ => False
  | n + 1 => body (lq8 body n)
theorem lq8_ind {A1 A2 A3 A4 A5 A6 A7 A8 : Type} {body : (A1 → A2 → A3 → A4 → A5 → A6 → A7 → A8 → Prop) → A1 → A2 → A3 → A4 → A5 → A6 → A7 → A8 → Prop} {GG : A1 → A2 → A3 → A4 → A5 → A6 → A7 → A8 → Prop} (hs : ∀ (LL : A1 → A2 → A3 → A4 → A5 → A6 → A7 → A8 → Prop), (∀ (a1 : A1) (a2 : A2) (a3 : A3) (a4 : A4) (a5 : A5) (a6 : A6) (a7 : A7) (a8 : A8), LL a1 a2 a3 a4 a5 a6 a7 a8 → GG a1 a2 a3 a4 a5 a6 a7 a8) → ∀ (a1 : A1) (a2 : A2) (a3 : A3) (a4 : A4) (a5 : A5) (a6 : A6) (a7 : A7) (a8 : A8), body LL a1 a2 a3 a4 a5 a6 a7 a8 → GG a1 a2 a3 a4 a5 a6 a7 a8) : ∀ (n : Nat) (a1 : A1) (a2 : A2) (a3 : A3) (a4 : A4) (a5 : A5) (a6 : A6) (a7 : A7) (a8 : A8), lq8 body n a1 a2 a3 a4 a5 a6 a7 a8 → GG a1 a2 a3 a4 a5 a6 a7 a8 := by
  intro n
  induction n with
  | zero => intro a1 a2 a3 a4 a5 a6 a7 a8 h; exact h.elim
  | succ n ih => exact hs (lq8 body n) ih
theorem lq8_of {A1 A2 A3 A4 A5 A6 A7 A8 : Type} {body : (A1 → A2 → A3 → A4 → A5 → A6 → A7 → A8 → Prop) → A1 → A2 → A3 → A4 → A5 → A6 → A7 → A8 → Prop} (II : A1 → A2 → A3 → A4 → A5 → A6 → A7 → A8 → Prop) (mu : A1 → A2 → A3 → A4 → A5 → A6 → A7 → A8 → Nat) (hs : ∀ (LL : A1 → A2 → A3 → A4 → A5 → A6 → A7 → A8 → Prop) (a1 : A1) (a2 : A2) (a3 : A3) (a4 : A4) (a5 : A5) (a6 : A6) (a7 : A7) (a8 : A8), II a1 a2 a3 a4 a5 a6 a7 a8 → (∀ (b1 : A1) (b2 : A2) (b3 : A3) (b4 : A4) (b5 : A5) (b6 : A6) (b7 : A7) (b8 : A8), II b1 b2 b3 b4 b5 b6 b7 b8 → mu b1 b2 b3 b4 b5 b6 b7 b8 < mu a1 a2 a3 a4 a5 a6 a7 a8 → LL b1 b2 b3 b4 b5 b6 b7 b8) → body LL a1 a2 a3 a4 a5 a6 a7 a8) : ∀ (a1 : A1) (a2 : A2) (a3 : A3) (a4 : A4) (a5 : A5) (a6 : A6) (a7 : A7) (a8 : A8), II a1 a2 a3 a4 a5 a6 a7 a8 → ∃ n : Nat, lq8 body n a1 a2 a3 a4 a5 a6 a7 a8 := by
  have key : ∀ (n : Nat) (a1 : A1) (a2 : A2) (a3 : A3) (a4 : A4) (a5 : A5) (a6 : A6) (a7 : A7) (a8 : A8), II a1 a2 a3 a4 a5 a6 a7 a8 → mu a1 a2 a3 a4 a5 a6 a7 a8 < n → lq8 body n a1 a2 a3 a4 a5 a6 a7 a8 := by
    intro n
    induction n with
    | zero => intro a1 a2 a3 a4 a5 a6 a7 a8 _ h; exact absurd h (Nat.not_lt_zero _)
    | succ n ih => intro a1 a2 a3 a4 a5 a6 a7 a8 hi hm; exact hs (lq8 body n) a1 a2 a3 a4 a5 a6 a7 a8 hi (fun b1 b2 b3 b4 b5 b6 b7 b8 h1 h2 => ih b1 b2 b3 b4 b5 b6 b7 b8 h1 (by omega))
  intro a1 a2 a3 a4 a5 a6 a7 a8 h
  exact ⟨_, key _ a1 a2 a3 a4 a5 a6 a7 a8 h (Nat.lt_succ_self _)⟩
theorem lq8_m {A1 A2 A3 A4 A5 A6 A7 A8 : Type} {body : (A1 → A2 → A3 → A4 → A5 → A6 → A7 → A8 → Prop) → A1 → A2 → A3 → A4 → A5 → A6 → A7 → A8 → Prop} (II : Nat → A1 → A2 → A3 → A4 → A5 → A6 → A7 → A8 → Prop) (hs : ∀ (LL : A1 → A2 → A3 → A4 → A5 → A6 → A7 → A8 → Prop) (m : Nat) (a1 : A1) (a2 : A2) (a3 : A3) (a4 : A4) (a5 : A5) (a6 : A6) (a7 : A7) (a8 : A8), II m a1 a2 a3 a4 a5 a6 a7 a8 → (∀ (m2 : Nat) (b1 : A1) (b2 : A2) (b3 : A3) (b4 : A4) (b5 : A5) (b6 : A6) (b7 : A7) (b8 : A8), m2 < m → II m2 b1 b2 b3 b4 b5 b6 b7 b8 → LL b1 b2 b3 b4 b5 b6 b7 b8) → body LL a1 a2 a3 a4 a5 a6 a7 a8) : ∀ (m : Nat) (a1 : A1) (a2 : A2) (a3 : A3) (a4 : A4) (a5 : A5) (a6 : A6) (a7 : A7) (a8 : A8), II m a1 a2 a3 a4 a5 a6 a7 a8 → ∃ n : Nat, lq8 body n a1 a2 a3 a4 a5 a6 a7 a8 := by
  have key : ∀ (n m : Nat) (a1 : A1) (a2 : A2) (a3 : A3) (a4 : A4) (a5 : A5) (a6 : A6) (a7 : A7) (a8 : A8), m < n → II m a1 a2 a3 a4 a5 a6 a7 a8 → lq8 body n a1 a2 a3 a4 a5 a6 a7 a8 := by
    intro n
    induction n with
    | zero => intro m a1 a2 a3 a4 a5 a6 a7 a8 h; exact absurd h (Nat.not_lt_zero _)
    | succ n ih => intro m a1 a2 a3 a4 a5 a6 a7 a8 hm hi; exact hs (lq8 body n) m a1 a2 a3 a4 a5 a6 a7 a8 hi (fun m2 b1 b2 b3 b4 b5 b6 b7 b8 h1 h2 => ih m2 b1 b2 b3 b4 b5 b6 b7 b8 (by omega) h2)
  intro m a1 a2 a3 a4 a5 a6 a7 a8 h
  exact ⟨_, key (m + 1) m a1 a2 a3 a4 a5 a6 a7 a8 (Nat.lt_succ_self _) h⟩
theorem jn8_ind {A1 A2 A3 A4 A5 A6 A7 A8 : Type} {rest : A1 → A2 → A3 → A4 → A5 → A6 → A7 → A8 → Prop} {f : (A1 → A2 → A3 → A4 → A5 → A6 → A7 → A8 → Prop) → Prop} {GG : A1 → A2 → A3 → A4 → A5 → A6 → A7 → A8 → Prop} {TT : Prop} (h : jn rest f) (hr : ∀ (a1 : A1) (a2 : A2) (a3 : A3) (a4 : A4) (a5 : A5) (a6 : A6) (a7 : A7) (a8 : A8), rest a1 a2 a3 a4 a5 a6 a7 a8 → GG a1 a2 a3 a4 a5 a6 a7 a8) (hf : ∀ (JJ : A1 → A2 → A3 → A4 → A5 → A6 → A7 → A8 → Prop), (∀ (a1 : A1) (a2 : A2) (a3 : A3) (a4 : A4) (a5 : A5) (a6 : A6) (a7 : A7) (a8 : A8), JJ a1 a2 a3 a4 a5 a6 a7 a8 → GG a1 a2 a3 a4 a5 a6 a7 a8) → f JJ → TT) : TT := hf rest hr h
def lq9 {A1 A2 A3 A4 A5 A6 A7 A8 A9 : Type} (body : (A1 → A2 → A3 → A4 → A5 → A6 → A7 → A8 → A9 → Prop) → A1 → A2 → A3 → A4 → A5 → A6 → A7 → A8 → A9 → Prop) : Nat → A1 → A2 → A3 → A4 → A5 → A6 → A7 → A8 → A9 → Prop
  | 0 => fun _ _ _ _ _ _ _ _ _ => False
  | n + 1 => body (lq9 body n)
theorem lq9_ind {A1 A2 A3 A4 A5 A6 A7 A8 A9 : Type} {body : (A1 → A2 → A3 → A4 → A5 → A6 → A7 → A8 → A9 → Prop) → A1 → A2 → A3 → A4 → A5 → A6 → A7 → A8 → A9 → Prop} {GG : A1 → A2 → A3 → A4 → A5 → A6 → A7 → A8 → A9 → Prop} (hs : ∀ (LL : A1 → A2 → A3 → A4 → A5 → A6 → A7 → A8 → A9 → Prop), (∀ (a1 : A1) (a2 : A2) (a3 : A3) (a4 : A4) (a5 : A5) (a6 : A6) (a7 : A7) (a8 : A8) (a9 : A9), LL a1 a2 a3 a4 a5 a6 a7 a8 a9 → GG a1 a2 a3 a4 a5 a6 a7 a8 a9) → ∀ (a1 : A1) (a2 : A2) (a3 : A3) (a4 : A4) (a5 : A5) (a6 : A6) (a7 : A7) (a8 : A8) (a9 : A9), body LL a1 a2 a3 a4 a5 a6 a7 a8 a9 → GG a1 a2 a3 a4 a5 a6 a7 a8 a9) : ∀ (n : Nat) (a1 : A1) (a2 : A2) (a3 : A3) (a4 : A4) (a5 : A5) (a6 : A6) (a7 : A7) (a8 : A8) (a9 : A9), lq9 body n a1 a2 a3 a4 a5 a6 a7 a8 a9 → GG a1 a2 a3 a4 a5 a6 a7 a8 a9 := by
  intro n
  induction n with
  | zero => intro a1 a2 a3 a4 a5 a6 a7 a8 a9 h; exact h.elim
  | succ n ih => exact hs (lq9 body n) ih
theorem lq9_of {A1 A2 A3 A4 A5 A6 A7 A8 A9 : Type} {body : (A1 → A2 → A3 → A4 → A5 → A6 → A7 → A8 → A9 → Prop) → A1 → A2 → A3 → A4 → A5 → A6 → A7 → A8 → A9 → Prop} (II : A1 → A2 → A3 → A4 → A5 → A6 → A7 → A8 → A9 → Prop) (mu : A1 → A2 → A3 → A4 → A5 → A6 → A7 → A8 → A9 → Nat) (hs : ∀ (LL : A1 → A2 → A3 → A4 → A5 → A6 → A7 → A8 → A9 → Prop) (a1 : A1) (a2 : A2) (a3 : A3) (a4 : A4) (a5 : A5) (a6 : A6) (a7 : A7) (a8 : A8) (a9 : A9), II a1 a2 a3 a4 a5 a6 a7 a8 a9 → (∀ (b1 : A1) (b2 : A2) (b3 : A3) (b4 : A4) (b5 : A5) (b6 : A6) (b7 : A7) (b8 : A8) (b9 : A9), II b1 b2 b3 b4 b5 b6 b7 b8 b9 → mu b1 b2 b3 b4 b5 b6 b7 b8 b9 < mu a1 a2 a3 a4 a5 a6 a7 a8 a9 → LL b1 b2 b3 b4 b5 b6 b7 b8 b9) → body LL a1 a2 a3 a4 a5 a6 a7 a8 a9) : ∀ (a1 : A1) (a2 : A2) (a3 : A3) (a4 : A4) (a5 : A5) (a6 : A6) (a7 : A7) (a8 : A8) (a9 : A9), II a1 a2 a3 a4 a5 a6 a7 a8 a9 → ∃ n : Nat, lq9 body n a1 a2 a3 a4 a5 a6 a7 a8 a9 := by
  have key : ∀ (n : Nat) (a1 : A1) (a2 : A2) (a3 : A3) (a4 : A4) (a5 : A5) (a6 : A6) (a7 : A7) (a8 : A8) (a9 : A9), II a1 a2 a3 a4 a5 a6 a7 a8 a9 → mu a1 a2 a3 a4 a5 a6 a7 a8 a9 < n → lq9 body n a1 a2 a3 a4 a5 a6 a7 a8 a9 := by
    intro n
    induction n with
    | zero => intro a1 a2 a3 a4 a5 a6 a7 a8 a9 _ h; exact absurd h (Nat.not_lt_zero _)
    | succ n ih => intro a1 a2 a3 a4 a5 a6 a7 a8 a9 hi hm; exact hs (lq9 body n) a1 a2 a3 a4 a5 a6 a7 a8 a9 hi (fun b1 b2 b3 b4 b5 b6 b7 b8 b9 h1 h2 => ih b1 b2 b3 b4 b5 b6 b7 b8 b9 h1 (by omega))
  intro a1 a2 a3 a4 a5 a6 a7 a8 a9 h
  exact ⟨_, key _ a1 a2 a3 a4 a5 a6 a7 a8 a9 h (Nat.lt_succ_self _)⟩
theorem lq9_m {A1 A2 A3 A4 A5 A6 A7 A8 A9 : Type} {body : (A1 → A2 → A3 → A4 → A5 → A6 → A7 → A8 → A9 → Prop) → A1 → A2 → A3 → A4 → A5 → A6 → A7 → A8 → A9 → Prop} (II : Nat → A1 → A2 → A3 → A4 → A5 → A6 → A7 → A8 → A9 → Prop) (hs : ∀ (LL : A1 → A2 → A3 → A4 → A5 → A6 → A7 → A8 → A9 → Prop) (m : Nat) (a1 : A1) (a2 : A2) (a3 : A3) (a4 : A4) (a5 : A5) (a6 : A6) (a7 : A7) (a8 : A8) (a9 : A9), II m a1 a2 a3 a4 a5 a6 a7 a8 a9 → (∀ (m2 : Nat) (b1 : A1) (b2 : A2) (b3 : A3) (b4 : A4) (b5 : A5) (b6 : A6) (b7 : A7) (b8 : A8) (b9 : A9), m2 < m → II m2 b1 b2 b3 b4 b5 b6 b7 b8 b9 → LL b1 b2 b3 b4 b5 b6 b7 b8 b9) → body LL a1 a2 a3 a4 a5 a6 a7 a8 a9) : ∀ (m : Nat) (a1 : A1) (a2 : A2) (a3 : A3) (a4 : A4) (a5 : A5) (a6 : A6) (a7 : A7) (a8 : A8) (a9 : A9), II m a1 a2 a3 a4 a5 a6 a7 a8 a9 → ∃ n : Nat, lq9 body n a1 a2 a3 a4 a5 a6 a7 a8 a9 := by
  have key : ∀ (n m : Nat) (a1 : A1) (a2 : A2) (a3 : A3) (a4 : A4) (a5 : A5) (a6 : A6) (a7 : A7) (a8 : A8) (a9 : A9), m < n → II m a1 a2 a3 a4 a5 a6 a7 a8 a9 → lq9 body n a1 a2 a3 a4 a5 a6 a7 a8 a9 := by
    intro n
    induction n with
    | zero => intro m a1 a2 a3 a4 a5 a6 a7 a8 a9 h; exact absurd h (Nat.not_lt_zero _)
    | succ n ih => intro m a1 a2 a3 a4 a5 a6 a7 a8 a9 hm hi; exact hs (lq9 body n) m a1 a2 a3 a4 a5 a6 a7 a8 a9 hi (fun m2 b1 b2 b3 b4 b5 b6 b7 b8 b9 h1 h2 => ih m2 b1 b2 b3 b4 b5 b6 b7 b8 b9 (by omega) h2)
  intro m a1 a2 a3 a4 a5 a6 a7 a8 a9 h
  exact ⟨_, key (m + 1) m a1 a2 a3 a4 a5 a6 a7 a8 a9 (Nat.lt_succ_self _) h⟩
theorem jn9_ind {A1 A2 A3 A4 A5 A6 A7 A8 A9 : Type} {rest : A1 → A2 → A3 → A4 → A5 → A6 → A7 → A8 → A9 → Prop} {f : (A1 → A2 → A3 → A4 → A5 → A6 → A7 → A8 → A9 → Prop) → Prop} {GG : A1 → A2 → A3 → A4 → A5 → A6 → A7 → A8 → A9 → Prop} {TT : Prop} (h : jn rest f) (hr : ∀ (a1 : A1) (a2 : A2) (a3 : A3) (a4 : A4) (a5 : A5) (a6 : A6) (a7 : A7) (a8 : A8) (a9 : A9), rest a1 a2 a3 a4 a5 a6 a7 a8 a9 → GG a1 a2 a3 a4 a5 a6 a7 a8 a9) (hf : ∀ (JJ : A1 → A2 → A3 → A4 → A5 → A6 → A7 → A8 → A9 → Prop), (∀ (a1 : A1) (a2 : A2) (a3 : A3) (a4 : A4) (a5 : A5) (a6 : A6) (a7 : A7) (a8 : A8) (a9 : A9), JJ a1 a2 a3 a4 a5 a6 a7 a8 a9 → GG a1 a2 a3 a4 a5 a6 a7 a8 a9) → f JJ → TT) : TT := hf rest hr h
def lq10 {A1 A2 A3 A4 A5 A6 A7 A8 A9 A10 : Type} (body : (A1 → A2 → A3 → A4 → A5 → A6 → A7 → A8 → A9 → A10 → Prop) → A1 → A2 → A3 → A4 → A5 → A6 → A7 → A8 → A9 → A10 → Prop) : Nat → A1 → A2 → A3 → A4 → A5 → A6 → A7 → A8 → A9 → A10 → Prop
  | 0 => fun _ _ _ _ _ _ _ _ _ _ => False
  | n + 1 => body (lq10 body n)
theorem lq10_ind {A1 A2 A3 A4 A5 A6 A7 A8 A9 A10 : Type} {body : (A1 → A2 → A3 → A4 → A5 → A6 → A7 → A8 → A9 → A10 → Prop) → A1 → A2 → A3 → A4 → A5 → A6 → A7 → A8 → A9 → A10 → Prop} {GG : A1 → A2 → A3 → A4 → A5 → A6 → A7 → A8 → A9 → A10 → Prop} (hs : ∀ (LL : A1 → A2 → A3 → A4 → A5 → A6 → A7 → A8 → A9 → A10 → Prop), (∀ (a1 : A1) (a2 : A2) (a3 : A3) (a4 : A4) (a5 : A5) (a6 : A6) (a7 : A7) (a8 : A8) (a9 : A9) (a10 : A10), LL a1 a2 a3 a4 a5 a6 a7 a8 a9 a10 → GG a1 a2 a3 a4 a5 a6 a7 a8 a9 a10) → ∀ (a1 : A1) (a2 : A2) (a3 : A3) (a4 : A4) (a5 : A5) (a6 : A6) (a7 : A7) (a8 : A8) (a9 : A9) (a10 : A10), body LL a1 a2 a3 a4 a5 a6 a7 a8 a9 a10 → GG a1 a2 a3 a4 a5 a6 a7 a8 a9 a10) : ∀ (n : Nat) (a1 : A1) (a2 : A2) (a3 : A3) (a4 : A4) (a5 : A5) (a6 : A6) (a7 : A7) (a8 : A8) (a9 : A9) (a10 : A10), lq10 body n a1 a2 a3 a4 a5 a6 a7 a8 a9 a10 → GG a1 a2 a3 a4 a5 a6 a7 a8 a9 a10 := by
  intro n
  induction n with
  | zero => intro a1 a2 a3 a4 a5 a6 a7 a8 a9 a10 h; exact h.elim
  | succ n ih => exact hs (lq10 body n) ih
theorem lq10_of {A1 A2 A3 A4 A5 A6 A7 A8 A9 A10 : Type} {body : (A1 → A2 → A3 → A4 → A5 → A6 → A7 → A8 → A9 → A10 → Prop) → A1 → A2 → A3 → A4 → A5 → A6 → A7 → A8 → A9 → A10 → Prop} (II : A1 → A2 → A3 → A4 → A5 → A6 → A7 → A8 → A9 → A10 → Prop) (mu : A1 → A2 → A3 → A4 → A5 → A6 → A7 → A8 → A9 → A10 → Nat) (hs : ∀ (LL : A1 → A2 → A3 → A4 → A5 → A6 → A7 → A8 → A9 → A10 → Prop) (a1 : A1) (a2 : A2) (a3 : A3) (a4 : A4) (a5 : A5) (a6 : A6) (a7 : A7) (a8 : A8) (a9 : A9) (a10 : A10), II a1 a2 a3 a4 a5 a6 a7 a8 a9 a10 → (∀ (b1 : A1) (b2 : A2) (b3 : A3) (b4 : A4) (b5 : A5) (b6 : A6) (b7 : A7) (b8 : A8) (b9 : A9) (b10 : A10), II b1 b2 b3 b4 b5 b6 b7 b8 b9 b10 → mu b1 b2 b3 b4 b5 b6 b7 b8 b9 b10 < mu a1 a2 a3 a4 a5 a6 a7 a8 a9 a10 → LL b1 b2 b3 b4 b5 b6 b7 b8 b9 b10) → body LL a1 a2 a3 a4 a5 a6 a7 a8 a9 a10) : ∀ (a1 : A1) (a2 : A2) (a3 : A3) (a4 : A4) (a5 : A5) (a6 : A6) (a7 : A7) (a8 : A8) (a9 : A9) (a10 : A10), II a1 a2 a3 a4 a5 a6 a7 a8 a9 a10 → ∃ n : Nat, lq10 body n a1 a2 a3 a4 a5 a6 a7 a8 a9 a10 := by
  have key : ∀ (n : Nat) (a1 : A1) (a2 : A2) (a3 : A3) (a4 : A4) (a5 : A5) (a6 : A6) (a7 : A7) (a8 : A8) (a9 : A9) (a10 : A10), II a1 a2 a3 a4 a5 a6 a7 a8 a9 a10 → mu a1 a2 a3 a4 a5 a6 a7 a8 a9 a10 < n → lq10 body n a1 a2 a3 a4 a5 a6 a7 a8 a9 a10 := by
    intro n
    induction n with
    | zero => intro a1 a2 a3 a4 a5 a6 a7 a8 a9 a10 _ h; exact absurd h (Nat.not_lt_zero _)
    | succ n ih => intro a1 a2 a3 a4 a5 a6 a7 a8 a9 a10 hi hm; exact hs (lq10 body n) a1 a2 a3 a4 a5 a6 a7 a8 a9 a10 hi (fun b1 b2 b3 b4 b5 b6 b7 b8 b9 b10 h1 h2 => ih b1 b2 b3 b4 b5 b6 b7 b8 b9 b10 h1 (by omega))
  intro a1 a2 a3 a4 a5 a6 a7 a8 a9 a10 h
  exact ⟨_, key _ a1 a2 a3 a4 a5 a6 a7 a8 a9 a10 h (Nat.lt_succ_self _)⟩
theorem lq10_m {A1 A2 A3 A4 A5 A6 A7 A8 A9 A10 : Type} {body : (A1 → A2 → A3 → A4 → A5 → A6 → A7 → A8 → A9 → A10 → Prop) → A1 → A2 → A3 → A4 → A5 → A6 → A7 → A8 → A9 → A10 → Prop} (II : Nat → A1 → A2 → A3 → A4 → A5 → A6 → A7 → A8 → A9 → A10 → Prop) (hs : ∀ (LL : A1 → A2 → A3 → A4 → A5 → A6 → A7 → A8 → A9 → A10 → Prop) (m : Nat) (a1 : A1) (a2 : A2) (a3 : A3) (a4 : A4) (a5 : A5) (a6 : A6) (a7 : A7) (a8 : A8) (a9 : A9) (a10 : A10), II m a1 a2 a3 a4 a5 a6 a7 a8 a9 a10 → (∀ (m2 : Nat) (b1 : A1) (b2 : A2) (b3 : A3) (b4 : A4) (b5 : A5) (b6 : A6) (b7 : A7) (b8 : A8) (b9 : A9) (b10 : A10), m2 < m → II m2 b1 b2 b3 b4 b5 b6 b7 b8 b9 b10 → LL b1 b2 b3 b4 b5 b6 b7 b8 b9 b10) → body LL a1 a2 a3 a4 a5 a6 a7 a8 a9 a10) : ∀ (m : Nat) (a1 : A1) (a2 : A2) (a3 : A3) (a4 : A4) (a5 : A5) (a6 : A6) (a7 : A7) (a8 : A8) (a9 : A9) (a10 : A10), II m a1 a2 a3 a4 a5 a6 a7 a8 a9 a10 → ∃ n : Nat, lq10 body n a1 a2 a3 a4 a5 a6 a7 a8 a9 a10 := by
  have key : ∀ (n m : Nat) (a1 : A1) (a2 : A2) (a3 : A3) (a4 : A4) (a5 : A5) (a6 : A6) (a7 : A7) (a8 : A8) (a9 : A9) (a10 : A10), m < n → II m a1 a2 a3 a4 a5 a6 a7 a8 a9 a10 → lq10 body n a1 a2 a3 a4 a5 a6 a7 a8 a9 a10 := by
    intro n
    induction n with
    | zero => intro m a1 a2 a3 a4 a5 a6 a7 a8 a9 a10 h; exact absurd h (Nat.not_lt_zero _)
    | succ n ih => intro m a1 a2 a3 a4 a5 a6 a7 a8 a9 a10 hm hi; exact hs (lq10 body n) m a1 a2 a3 a4 a5 a6 a7 a8 a9 a10 hi (fun m2 b1 b2 b3 b4 b5 b6 b7 b8 b9 b10 h1 h2 => ih m2 b1 b2 b3 b4 b5 b6 b7 b8 b9 b10 (by omega) h2)
  intro m a1 a2 a3 a4 a5 a6 a7 a8 a9 a10 h
  exact ⟨_, key (m + 1) m a1 a2 a3 a4 a5 a6 a7 a8 a9 a10 (Nat.lt_succ_self _) h⟩
theorem jn10_ind {A1 A2 A3 A4 A5 A6 A7 A8 A9 A10 : Type} {rest : A1 → A2 → A3 → A4 → A5 → A6 → A7 → A8 → A9 → A10 → Prop} {f : (A1 → A2 → A3 → A4 → A5 → A6 → A7 → A8 → A9 → A10 → Prop) → Prop} {GG : A1 → A2 → A3 → A4 → A5 → A6 → A7 → A8 → A9 → A10 → Prop} {TT : Prop} (h : jn rest f) (hr : ∀ (a1 : A1) (a2 : A2) (a3 : A3) (a4 : A4) (a5 : A5) (a6 : A6) (a7 : A7) (a8 : A8) (a9 : A9) (a10 : A10), rest a1 a2 a3 a4 a5 a6 a7 a8 a9 a10 → GG a1 a2 a3 a4 a5 a6 a7 a8 a9 a10) (hf : ∀ (JJ : A1 → A2 → A3 → A4 → A5 → A6 → A7 → A8 → A9 → A10 → Prop), (∀ (a1 : A1) (a2 : A2) (a3 : A3) (a4 : A4) (a5 : A5) (a6 : A6) (a7 : A7) (a8 : A8) (a9 : A9) (a10 : A10), JJ a1 a2 a3 a4 a5 a6 a7 a8 a9 a10 → GG a1 a2 a3 a4 a5 a6 a7 a8 a9 a10) → f JJ → TT) : TT := hf rest hr h
def lq11 {A1 A2 A3 A4 A5 A6 A7 A8 A9 A10 A11 : Type} (body : (A1 → A2 → A3 → A4 → A5 → A6 → A7 → A8 → A9 → A10 → A11 → Prop) → A1 → A2 → A3 → A4 → A5 → A6 → A7 → A8 → A9 → A10 → A11 → Prop) : Nat → A1 → A2 → A3 → A4 → A5 → A6 → A7 → A8 → A9 → A10 → A11 → Prop
  | 0 => fun _ _ _ _ _ _ _ _ _ _ _ => False
  | n + 1 => body (lq11 body n)
theorem lq11_ind {A1 A2 A3 A4 A5 A6 A7 A8 A9 A10 A11 : Type} {body : (A1 → A2 → A3 → A4 → A5 → A6 → A7 → A8 → A9 → A10 → A11 → Prop) → A1 → A2 → A3 → A4 → A5 → A6 → A7 → A8 → A9 → A10 → A11 → Prop} {GG : A1 → A2 → A3 → A4 → A5 → A6 → A7 → A8 → A9 → A10 → A11 → Prop} (hs : ∀ (LL : A1 → A2 → A3 → A4 → A5 → A6 → A7 → A8 → A9 → A10 → A11 → Prop), (∀ (a1 : A1) (a2 : A2) (a3 : A3) (a4 : A4) (a5 : A5) (a6 : A6) (a7 : A7) (a8 : A8) (a9 : A9) (a10 : A10) (a11 : A11), LL a1 a2 a3 a4 a5 a6 a7 a8 a9 a10 a11 → GG a1 a2 a3 a4 a5 a6 a7 a8 a9 a10 a11) → ∀ (a1 : A1) (a2 : A2) (a3 : A3) (a4 : A4) (a5 : A5) (a6 : A6) (a7 : A7) (a8 : A8) (a9 : A9) (a10 : A10) (a11 : A11), body LL a1 a2 a3 a4 a5 a6 a7 a8 a9 a10 a11 → GG a1 a2 a3 a4 a5 a6 a7 a8 a9 a10 a11) : ∀ (n : Nat) (a1 : A1) (a2 : A2) (a3 : A3) (a4 : A4) (a5 : A5) (a6 : A6) (a7 : A7) (a8 : A8) (a9 : A9) (a10 : A10) (a11 : A11), lq11 body n a1 a2 a3 a4 a5 a6 a7 a8 a9 a10 a11 → GG a1 a2 a3 a4 a5 a6 a7 a8 a9 a10 a11 := by
  intro n
  induction n with
  | zero => intro a1 a2 a3 a4 a5 a6 a7 a8 a9 a10 a11 h; exact h.elim
  | succ n ih => exact hs (lq11 body n) ih
theorem lq11_of {A1 A2 A3 A4 A5 A6 A7 A8 A9 A10 A11 : Type} {body : (A1 → A2 → A3 → A4 → A5 → A6 → A7 → A8 → A9 → A10 → A11 → Prop) → A1 → A2 → A3 → A4 → A5 → A6 → A7 → A8 → A9 → A10 → A11 → Prop} (II : A1 → A2 → A3 → A4 → A5 → A6 → A7 → A8 → A9 → A10 → A11 → Prop) (mu : A1 → A2 → A3 → A4 → A5 → A6 → A7 → A8 → A9 → A10 → A11 → Nat) (hs : ∀ (LL : A1 → A2 → A3 → A4 → A5 → A6 → A7 → A8 → A9 → A10 → A11 → Prop) (a1 : A1) (a2 : A2) (a3 : A3) (a4 : A4) (a5 : A5) (a6 : A6) (a7 : A7) (a8 : A8) (a9 : A9) (a10 : A10) (a11 : A11), II a1 a2 a3 a4 a5 a6 a7 a8 a9 a10 a11 → (∀ (b1 : A1) (b2 : A2) (b3 : A3) (b4 : A4) (b5 : A5) (b6 : A6) (b7 : A7) (b8 : A8) (b9 : A9) (b10 : A10) (b11 : A11), II b1 b2 b3 b4 b5 b6 b7 b8 b9 b10 b11 → mu b1 b2 b3 b4 b5 b6 b7 b8 b9 b10 b11 < mu a1 a2 a3 a4 a5 a6 a7 a8 a9 a10 a11 → LL b1 b2 b3 b4 b5 b6 b7 b8 b9 b10 b11) → body LL a1 a2 a3 a4 a5 a6 a7 a8 a9 a10 a11) : ∀ (a1 : A1) (a2 : A2) (a3 : A3) (a4 : A4) (a5 : A5) (a6 : A6) (a7 : A7) (a8 : A8) (a9 : A9) (a10 : A10) (a11 : A11), II a1 a2 a3 a4 a5 a6 a7 a8 a9 a10 a11 → ∃ n : Nat, lq11 body n a1 a2 a3 a4 a5 a6 a7 a8 a9 a10 a11 := by
  have key : ∀ (n : Nat) (a1 : A1) (a2 : A2) (a3 : A3) (a4 : A4) (a5 : A5) (a6 : A6) (a7 : A7) (a8 : A8) (a9 : A9) (a10 : A10) (a11 : A11), II a1 a2 a3 a4 a5 a6 a7 a8 a9 a10 a11 → mu a1 a2 a3 a4 a5 a6 a7 a8 a9 a10 a11 < n → lq11 body n a1 a2 a3 a4 a5 a6 a7 a8 a9 a10 a11 := by
    intro n
    induction n with
    | zero => intro a1 a2 a3 a4 a5 a6 a7 a8 a9 a10 a11 _ h; exact absurd h (Nat.not_lt_zero _)
    | succ n ih => intro a1 a2 a3 a4 a5 a6 a7 a8 a9 a10 a11 hi hm; exact hs (lq11 body n) a1 a2 a3 a4 a5 a6 a7 a8 a9 a10 a11 hi (fun b1 b2 b3 b4 b5 b6 b7 b8 b9 b10 b11 h1 h2 => ih b1 b2 b3 b4 b5 b6 b7 b8 b9 b10 b11 h1 (by omega))
  intro a1 a2 a3 a4 a5 a6 a7 a8 a9 a10 a11 h
  exact ⟨_, key _ a1 a2 a3 a4 a5 a6 a7 a8 a9 a10 a11 h (Nat.lt_succ_self _)⟩
theorem lq11_m {A1 A2 A3 A4 A5 A6 A7 A8 A9 A10 A11 : Type} {body : (A1 → A2 → A3 → A4 → A5 → A6 → A7 → A8 → A9 → A10 → A11 → Prop) → A1 → A2 → A3 → A4 → A5 → A6 → A7 → A8 → A9 → A10 → A11 → Prop} (II : Nat → A1 → A2 → A3 → A4 → A5 → A6 → A7 → A8 → A9 → A10 → A11 → Prop) (hs : ∀ (LL : A1 → A2 → A3 → A4 → A5 → A6 → A7 → A8 → A9 → A10 → A11 → Prop) (m : Nat) (a1 : A1) (a2 : A2) (a3 : A3) (a4 : A4) (a5 : A5) (a6 : A6) (a7 : A7) (a8 : A8) (a9 : A9) (a10 : A10) (a11 : A11), II m a1 a2 a3 a4 a5 a6 a7 a8 a9 a10 a11 → (∀ (m2 : Nat) (b1 : A1) (b2 : A2) (b3 : A3) (b4 : A4) (b5 : A5) (b6 : A6) (b7 : A7) (b8 : A8) (b9 : A9) (b10 : A10) (b11 : A11), m2 < m → II m2 b1 b2 b3 b4 b5 b6 b7 b8 b9 b10 b11 → LL b1 b2 b3 b4 b5 b6 b7 b8 b9 b10 b11) → body LL a1 a2 a3 a4 a5 a6 a7 a8 a9 a10 a11) : ∀ (m : Nat) (a1 : A1) (a2 : A2) (a3 : A3) (a4 : A4) (a5 : A5) (a6 : A6) (a7 : A7) (a8 : A8) (a9 : A9) (a10 : A10) (a11 : A11), II m a1 a2 a3 a4 a5 a6 a7 a8 a9 a10 a11 → ∃ n : Nat, lq11 body n a1 a2 a3 a4 a5 a6 a7 a8 a9 a10 a11 := by
  have key : ∀ (n m : Nat) (a1 : A1) (a2 : A2) (a3 : A3) (a4 : A4) (a5 : A5) (a6 : A6) (a7 : A7) (a8 : A8) (a9 : A9) (a10 : A10) (a11 : A11), m < n → II m a1 a2 a3 a4 a5 a6 a7 a8 a9 a10 a11 → lq11 body n a1 a2 a3 a4 a5 a6 a7 a8 a9 a10 a11 := by
    intro n
    induction n with
    | zero => intro m a1 a2 a3 a4 a5 a6 a7 a8 a9 a10 a11 h; exact absurd h (Nat.not_lt_zero _)
    | succ n ih => intro m a1 a2 a3 a4 a5 a6 a7 a8 a9 a10 a11 hm hi; exact hs (lq11 body n) m a1 a2 a3 a4 a5 a6 a7 a8 a9 a10 a11 hi (fun m2 b1 b2 b3 b4 b5 b6 b7 b8 b9 b10 b11 h1 h2 => ih m2 b1 b2 b3 b4 b5 b6 b7 b8 b9 b10 b11 (by omega) h2)
  intro m a1 a2 a3 a4 a5 a6 a7 a8 a9 a10 a11 h
  exact ⟨_, key (m + 1) m a1 a2 a3 a4 a5 a6 a7 a8 a9 a10 a11 (Nat.lt_succ_self _) h⟩
theorem jn11_ind {A1 A2 A3 A4 A5 A6 A7 A8 A9 A10 A11 : Type} {rest : A1 → A2 → A3 → A4 → A5 → A6 → A7 → A8 → A9 → A10 → A11 → Prop} {f : (A1 → A2 → A3 → A4 → A5 → A6 → A7 → A8 → A9 → A10 → A11 → Prop) → Prop} {GG : A1 → A2 → A3 → A4 → A5 → A6 → A7 → A8 → A9 → A10 → A11 → Prop} {TT : Prop} (h : jn rest f) (hr : ∀ (a1 : A1) (a2 : A2) (a3 : A3) (a4 : A4) (a5 : A5) (a6 : A6) (a7 : A7) (a8 : A8) (a9 : A9) (a10 : A10) (a11 : A11), rest a1 a2 a3 a4 a5 a6 a7 a8 a9 a10 a11 → GG a1 a2 a3 a4 a5 a6 a7 a8 a9 a10 a11) (hf : ∀ (JJ : A1 → A2 → A3 → A4 → A5 → A6 → A7 → A8 → A9 → A10 → A11 → Prop), (∀ (a1 : A1) (a2 : A2) (a3 : A3) (a4 : A4) (a5 : A5) (a6 : A6) (a7 : A7) (a8 : A8) (a9 : A9) (a10 : A10) (a11 : A11), JJ a1 a2 a3 a4 a5 a6 a7 a8 a9 a10 a11 → GG a1 a2 a3 a4 a5 a6 a7 a8 a9 a10 a11) → f JJ → TT) : TT := hf rest hr h
theorem fl_in2 {x : Int32} (h : vp_in x 2) : x = 0 ∨ x = 1 := by
  obtain ⟨j, hj, rfl⟩ := vp_in_of h (by decide)
  rcases (show j = 0 ∨ j = 1 by omega) with rfl | rfl
  · exact Or.inl rfl
  · exact Or.inr rfl
theorem jn0_ind {rest : Prop} {f : Prop → Prop} {GG TT : Prop} (h : jn rest f) (hr : rest → GG) (hf : ∀ (JJ : Prop), (JJ → GG) → f JJ → TT) : TT := hf rest hr h
theorem fl_keep {D : va_G} {cl : List vw_C} {ws : va_W} {H H1 : Heap} (hP : va_P D cl ws H) (hk : ∀ q : Nat, q < H.size → ¬ va_A [] H.size q → H1[q]? = H[q]?) : va_P D cl ws H1 := hP.kept (fun k q hq => hk q.1 (hP k q hq).lt (by
  rintro (⟨k, e, h⟩ | h)
  · simp at h
  · exact absurd (hP k q hq).lt (Nat.not_lt.mpr h)))
theorem fl_freeN {A0 : Nat → Prop} {H0 H : Heap} {locs : List Loc} (hS : va_S A0 H0 H locs) (hA : ∀ q, H0.size ≤ q → A0 q) : ∀ q, va_A [] H.size q → A0 q := by
  rintro q (⟨k, e, h⟩ | h)
  · simp at h
  · exact hA q (Nat.le_trans hS.1 h)
theorem fl_ofW {l : Launch} {y : MethodName} {ws ws' : List Cond} {rm : Room} {Pc : Array Value → State → Prop} {Qc : Array Value → State → Outcome → State → Prop} {mc ms : Nat} {free : Addr → Prop} {cc : ByteArray} {maxL : Nat} {ret : Option FieldType} (hy : plainName y.cls = true) (hw : ws = Cond.code y cc maxL ret :: ws')
    (body : ∀ p e s m args below meth c s₁ Q, BodyLoose p l y (headSpec ws rm) cc maxL ret e s m args below meth c s₁ → c.maxLocals = maxL → Pc args s → Q = MQ below Qc args s mc ms free →
      W p l e (headSpec ws rm).room s m args below meth c s.heap [] 0 0 Q (entryFrame m args maxL)) : Met l y ws rm Pc Qc mc ms free :=
  Met.ofW hy hw (fun p e s m args below meth c s₁ B hml hv => body p e s m args below meth c s₁ _ B hml hv rfl)
/-- the words of nest mates' private members -/
def lw_nest : List Cond := [.methodLinkNest RX7 9 yX0_init RX7, .methodLinkNest RX7 18 yX4_init RX7, .methodLinkNest RX7 25 yX1_init RX7, .methodLinkNest RX7 35 yX2_init RX7, .methodLinkNest RX7 42 yX5_init RX7, .methodLinkNest RX7 49 yX3_init RX7, .methodLinkNest RX0 23 yX7_isAmong RX7, .methodLinkNest RX4 49 yX7_isAmong RX7]
def nw_ok (U : State) : Prop := ∀ w ∈ lw_nest, va_Nw w U
theorem nw_ok.warm {s U : State} (hW : s.WarmedH U.vm) (h : nw_ok s) : nw_ok U := by
  intro w hw
  have h2 := h w hw
  simp only [lw_nest, List.mem_cons, List.not_mem_nil, or_false] at hw
  rcases hw with rfl | rfl | rfl | rfl | rfl | rfl | rfl | rfl <;> exact va_Nw.warmM hW h2
theorem nw_ok.call {U : State} {g : JFrame} {mk : MethodId} {a : Array Value} (h : nw_ok U) : nw_ok (U.calling g mk a) := fun w hw => va_Nw.same (u := U) (U := U.calling g mk a) (by
  simp only [lw_nest, List.mem_cons, List.not_mem_nil, or_false] at hw
  rcases hw with rfl | rfl | rfl | rfl | rfl | rfl | rfl | rfl <;> rfl) rfl (h w hw)
def wd_X0 (a : Nat → Nat) (ca : Nat → ClassId) (u : Ob) : va_W := [(a 0, .inr (0, [.int (u.1 0), .int (u.1 1), .ref (a 3), .ref (a 4)])), (a 3, .inl (ca 3, 2, .inl (u.2.1 2))), (a 4, .inl (ca 4, 100, .inl (u.2.1 3)))]
def ty_X0 (ca : Nat → ClassId) : List (ClassId × FieldType) := [(ca 3, .boolean), (ca 4, .int)]
def wd_X1 (a : Nat → Nat) (ca : Nat → ClassId) (u : Ob) : va_W := [(a 0, .inr (1, [.int (u.1 0), .ref (a 2)])), (a 2, .inl (ca 2, 2, .inl (u.2.1 1)))]
def ty_X1 (ca : Nat → ClassId) : List (ClassId × FieldType) := [(ca 2, .int)]
def wd_X2 (a : Nat → Nat) (ca : Nat → ClassId) (u : Ob) : va_W := [(a 0, .inr (2, [.int (u.1 0), .int (u.1 1), .ref (a 3), .ref (a 4), .ref (a 5), .ref (a 6), .ref (a 7), .ref (a 8)])), (a 3, .inl (ca 3, 80, .inl (u.2.1 2))), (a 4, .inl (ca 4, 80, .inl (u.2.1 3))), (a 5, .inl (ca 5, 80, .inl (u.2.1 4))), (a 6, .inl (ca 6, 80, .inl (u.2.1 5))), (a 7, .inl (ca 7, 80, .inl (u.2.1 6))), (a 8, .inl (ca 8, 80, .inl (u.2.1 7)))]
def ty_X2 (ca : Nat → ClassId) : List (ClassId × FieldType) := [(ca 3, .int), (ca 4, .int), (ca 5, .int), (ca 6, .int), (ca 7, .int), (ca 8, .int)]
def wd_X3 (a : Nat → Nat) (ca : Nat → ClassId) (u : Ob) : va_W := [(a 0, .inr (3, [.int (u.1 0), .int (u.1 1), .ref (a 3), .int (u.1 3)])), (a 3, .inl (ca 3, 60, .inl (u.2.1 2)))]
def ty_X3 (ca : Nat → ClassId) : List (ClassId × FieldType) := [(ca 3, .int)]
def wd_X4 (a : Nat → Nat) (ca : Nat → ClassId) (u : Ob) : va_W := [(a 0, .inr (4, [.int (u.1 0), .ref (a 2), .ref (a 3), .int (u.1 3)])), (a 2, .inl (ca 2, 100, .inl (u.2.1 1))), (a 3, .inl (ca 3, 130, .inl (u.2.1 2)))]
def ty_X4 (ca : Nat → ClassId) : List (ClassId × FieldType) := [(ca 2, .int), (ca 3, .byte)]
def wd_X5 (a : Nat → Nat) (ca : Nat → ClassId) (u : Ob) : va_W := [(a 0, .inr (5, [.ref (a 1), .ref (a 2), .int (u.1 2)])), (a 1, .inl (ca 1, 512, .inr (.inl (u.2.2 0)))), (a 2, .inl (ca 2, 12800, .inl (u.2.1 1)))]
def ty_X5 (ca : Nat → ClassId) : List (ClassId × FieldType) := [(ca 1, .long), (ca 2, .int)]
def wd_X8 (a : Nat → Nat) (ca : Nat → ClassId) (u : Ob) : va_W := [(a 0, .inr (7, [.int (u.1 0), .ref (a 2), .int (u.1 2), .ref (a 4), .ref (a 5), .ref (a 6), .ref (a 7), .ref (a 8), .ref (a 9), .int (u.1 9), .int (u.1 10), .int (u.1 11), .ref (a 13), .ref (a 14), .ref (a 15), .ref (a 16), .int (u.1 16), .ref (a 18), .ref (a 19), .ref (a 20), .ref (a 21), .ref (a 22), .ref (a 23), .ref (a 24), .ref (a 25)])), (a 2, .inl (ca 2, 2, .inl (u.2.1 1))), (a 4, .inl (ca 4, 20, .inl (u.2.1 3))), (a 5, .inl (ca 5, 20, .inl (u.2.1 4))), (a 6, .inl (ca 6, 20, .inl (u.2.1 5))), (a 7, .inl (ca 7, 20, .inl (u.2.1 6))), (a 8, .inl (ca 8, 20, .inl (u.2.1 7))), (a 9, .inl (ca 9, 130, .inl (u.2.1 8))), (a 13, .inl (ca 13, 100, .inl (u.2.1 12))), (a 14, .inl (ca 14, 83, .inl (u.2.1 13))), (a 15, .inl (ca 15, 166, .inl (u.2.1 14))), (a 16, .inl (ca 16, 1826, .inl (u.2.1 15))), (a 18, .inl (ca 18, 80, .inl (u.2.1 17))), (a 19, .inl (ca 19, 80, .inl (u.2.1 18))), (a 20, .inl (ca 20, 80, .inl (u.2.1 19))), (a 21, .inl (ca 21, 32768, .inl (u.2.1 20))), (a 22, .inl (ca 22, 32768, .inl (u.2.1 21))), (a 23, .inl (ca 23, 2, .inl (u.2.1 22))), (a 24, .inl (ca 24, 2, .inl (u.2.1 23))), (a 25, .inl (ca 25, 120, .inl (u.2.1 24)))]
def ty_X8 (ca : Nat → ClassId) : List (ClassId × FieldType) := [(ca 2, .boolean), (ca 4, .int), (ca 5, .int), (ca 6, .int), (ca 7, .int), (ca 8, .int), (ca 9, .int), (ca 13, .int), (ca 14, .int), (ca 15, .int), (ca 16, .int), (ca 18, .int), (ca 19, .int), (ca 20, .int), (ca 21, .int), (ca 22, .int), (ca 23, .int), (ca 24, .int), (ca 25, .int)]
def sh_f (AA : Nat → Nat → Nat) : Nat → Option Nat := fun i => if i = 0 then some (AA 7 0) else if i = 1 then some (AA 8 0) else none
def wd_X7 (AA : Nat → Nat → Nat) (CA : Nat → Nat → ClassId) (uf um ut uh ug ur uw ux uy : Ob) : va_W := [(AA 0 0, .inr (6, [.ref (AA 1 0), .ref (AA 2 0), .ref (AA 3 0), .ref (AA 4 0), .ref (AA 5 0), .ref (AA 6 0), .ref (AA 0 7), .int (uf.1 7)])), (AA 0 7, .inl (CA 0 7, 2, .inr (.inr (.inr (.inr (sh_f AA)))))), (AA 1 0, .inr (0, [.int (um.1 0), .int (um.1 1), .ref (AA 1 3), .ref (AA 1 4)])), (AA 1 3, .inl (CA 1 3, 2, .inl (um.2.1 2))), (AA 1 4, .inl (CA 1 4, 100, .inl (um.2.1 3))), (AA 2 0, .inr (4, [.int (ut.1 0), .ref (AA 2 2), .ref (AA 2 3), .int (ut.1 3)])), (AA 2 2, .inl (CA 2 2, 100, .inl (ut.2.1 1))), (AA 2 3, .inl (CA 2 3, 130, .inl (ut.2.1 2))), (AA 3 0, .inr (1, [.int (uh.1 0), .ref (AA 3 2)])), (AA 3 2, .inl (CA 3 2, 2, .inl (uh.2.1 1))), (AA 4 0, .inr (1, [.int (ug.1 0), .ref (AA 4 2)])), (AA 4 2, .inl (CA 4 2, 2, .inl (ug.2.1 1))), (AA 5 0, .inr (2, [.int (ur.1 0), .int (ur.1 1), .ref (AA 5 3), .ref (AA 5 4), .ref (AA 5 5), .ref (AA 5 6), .ref (AA 5 7), .ref (AA 5 8)])), (AA 5 3, .inl (CA 5 3, 80, .inl (ur.2.1 2))), (AA 5 4, .inl (CA 5 4, 80, .inl (ur.2.1 3))), (AA 5 5, .inl (CA 5 5, 80, .inl (ur.2.1 4))), (AA 5 6, .inl (CA 5 6, 80, .inl (ur.2.1 5))), (AA 5 7, .inl (CA 5 7, 80, .inl (ur.2.1 6))), (AA 5 8, .inl (CA 5 8, 80, .inl (ur.2.1 7))), (AA 6 0, .inr (5, [.ref (AA 6 1), .ref (AA 6 2), .int (uw.1 2)])), (AA 6 1, .inl (CA 6 1, 512, .inr (.inl (uw.2.2 0)))), (AA 6 2, .inl (CA 6 2, 12800, .inl (uw.2.1 1))), (AA 7 0, .inr (3, [.int (ux.1 0), .int (ux.1 1), .ref (AA 7 3), .int (ux.1 3)])), (AA 7 3, .inl (CA 7 3, 60, .inl (ux.2.1 2))), (AA 8 0, .inr (3, [.int (uy.1 0), .int (uy.1 1), .ref (AA 8 3), .int (uy.1 3)])), (AA 8 3, .inl (CA 8 3, 60, .inl (uy.2.1 2)))]
def ty_X7 (CA : Nat → Nat → ClassId) : List (ClassId × FieldType) := [(CA 0 7, .object "ForgettingLines$Sheet"), (CA 1 3, .boolean), (CA 1 4, .int), (CA 2 2, .int), (CA 2 3, .byte), (CA 3 2, .int), (CA 4 2, .int), (CA 5 3, .int), (CA 5 4, .int), (CA 5 5, .int), (CA 5 6, .int), (CA 5 7, .int), (CA 5 8, .int), (CA 6 1, .long), (CA 6 2, .int), (CA 7 3, .int), (CA 8 3, .int)]
end
section
def wp_X0_part (u : Ob) (x1 : Int32) (x2 : Int32) (post : Int32 → Prop) : Prop :=
  vp_in ((x1 * 5) + x2) 100 ∧
  post (u.2.1 3 ((x1 * 5) + x2).toNatClampNeg)
def wp_X7_isAmong (x1 : Int32) (x2 : Int32) (post : Int32 → Prop) : Prop :=
  ((x1 < 0) →
    post 0) ∧ ((¬ x1 < 0) →
    ((x2 ≤ x1) →
      post 0) ∧ ((¬ x2 ≤ x1) →
      post 1))
def wp_X0_canHave (u : Ob) (x1 : Int32) (x2 : Int32) (x3 : Int32) (x4 : Int32) (x5 : Int32) (post : Int32 → Prop) : Prop :=
  wp_X7_isAmong x1 (u.1 0) (fun (r_1 : Int32) =>
  ((r_1 = 0) →
    post 0) ∧ ((¬ r_1 = 0) →
    wp_X7_isAmong x2 3 (fun (r_3 : Int32) =>
    ((r_3 = 0) →
      post 0) ∧ ((¬ r_3 = 0) →
      wp_X7_isAmong x5 (u.1 0) (fun (r_5 : Int32) =>
      ((¬ r_5 = 0) →
        ((x2 = 0) →
          post 1) ∧ ((¬ x2 = 0) →
          wp_X7_isAmong x3 2 (fun (r_8 : Int32) =>
          ((r_8 = 0) →
            post 0) ∧ ((¬ r_8 = 0) →
            wp_X7_isAmong x4 3 (fun (r_10 : Int32) =>
            ((r_10 = 0) →
              post 0) ∧ ((¬ r_10 = 0) →
              post 1)))))) ∧ ((r_5 = 0) →
        post 0))))))
def wp_X0_canHaveAll (u : Ob) (n1 : Nat) (u1 : Nat → Int32) (x2 : Int32) (x3 : Int32) (post : Int32 → Prop) : Prop :=
  ∃ n : Nat, lq1 (fun (LL_1 : Int32 → Prop) (v4_2 : Int32) =>
    ((x3 ≤ v4_2) →
      post 1) ∧ ((¬ x3 ≤ v4_2) →
      vp_in ((x2 + (v4_2 * 5)) + 0) n1 ∧
      vp_in ((x2 + (v4_2 * 5)) + 1) n1 ∧
      vp_in ((x2 + (v4_2 * 5)) + 2) n1 ∧
      vp_in ((x2 + (v4_2 * 5)) + 3) n1 ∧
      vp_in ((x2 + (v4_2 * 5)) + 4) n1 ∧
      wp_X0_canHave u (u1 ((x2 + (v4_2 * 5)) + 0).toNatClampNeg) (u1 ((x2 + (v4_2 * 5)) + 1).toNatClampNeg) (u1 ((x2 + (v4_2 * 5)) + 2).toNatClampNeg) (u1 ((x2 + (v4_2 * 5)) + 3).toNatClampNeg) (u1 ((x2 + (v4_2 * 5)) + 4).toNatClampNeg) (fun (r_9 : Int32) =>
      ((¬ r_9 = 0) →
        LL_1 (v4_2 + 1)) ∧ ((r_9 = 0) →
        post 0)))) n 0
def wp_X0_add (u : Ob) (x1 : Int32) (x2 : Int32) (x3 : Int32) (x4 : Int32) (x5 : Int32) (post : Ob → Prop) : Prop :=
  vp_in (((u.1 1) * 5) + 0) 100 ∧ ∀ u_2 : Ob, u_2 = fs_a u 3 (upd (u.2.1 3) (((u.1 1) * 5) + 0).toNatClampNeg x1) →
  vp_in (((u.1 1) * 5) + 1) 100 ∧ ∀ u_4 : Ob, u_4 = fs_a u_2 3 (upd (u_2.2.1 3) (((u.1 1) * 5) + 1).toNatClampNeg x2) →
  jn (fun (w_6 : Int32) =>
    vp_in (((u.1 1) * 5) + 2) 100 ∧ ∀ u_8 : Ob, u_8 = fs_a u_4 3 (upd (u_4.2.1 3) (((u.1 1) * 5) + 2).toNatClampNeg w_6) →
    jn (fun (w_10 : Int32) =>
      vp_in (((u.1 1) * 5) + 3) 100 ∧ ∀ u_12 : Ob, u_12 = fs_a u_8 3 (upd (u_8.2.1 3) (((u.1 1) * 5) + 3).toNatClampNeg w_10) →
      vp_in (((u.1 1) * 5) + 4) 100 ∧ ∀ u_14 : Ob, u_14 = fs_a u_12 3 (upd (u_12.2.1 3) (((u.1 1) * 5) + 4).toNatClampNeg x5) →
      ∀ u_15 : Ob, u_15 = fs_i u_14 1 ((u_14.1 1) + 1) →
      post u_15) (fun (JJ_9 : Int32 → Prop) =>
      ((¬ x2 = 0) →
        JJ_9 x4) ∧ ((x2 = 0) →
        JJ_9 0))) (fun (JJ_5 : Int32 → Prop) =>
    ((¬ x2 = 0) →
      JJ_5 x3) ∧ ((x2 = 0) →
      JJ_5 0))
def wp_X0_addAll (u : Ob) (n1 : Nat) (u1 : Nat → Int32) (x2 : Int32) (x3 : Int32) (post : Ob → Prop) : Prop :=
  ∃ n : Nat, lq2 (fun (LL_1 : Int32 → Ob → Prop) (v4_2 : Int32) (u_3 : Ob) =>
    ((x3 ≤ v4_2) →
      post u_3) ∧ ((¬ x3 ≤ v4_2) →
      vp_in ((x2 + (v4_2 * 5)) + 0) n1 ∧
      vp_in ((x2 + (v4_2 * 5)) + 1) n1 ∧
      vp_in ((x2 + (v4_2 * 5)) + 2) n1 ∧
      vp_in ((x2 + (v4_2 * 5)) + 3) n1 ∧
      vp_in ((x2 + (v4_2 * 5)) + 4) n1 ∧
      wp_X0_add u_3 (u1 ((x2 + (v4_2 * 5)) + 0).toNatClampNeg) (u1 ((x2 + (v4_2 * 5)) + 1).toNatClampNeg) (u1 ((x2 + (v4_2 * 5)) + 2).toNatClampNeg) (u1 ((x2 + (v4_2 * 5)) + 3).toNatClampNeg) (u1 ((x2 + (v4_2 * 5)) + 4).toNatClampNeg) (fun (u_10 : Ob) =>
      LL_1 (v4_2 + 1) u_10))) n 0 u
def wp_X0_replace (u : Ob) (n1 : Nat) (u1 : Nat → Int32) (x2 : Int32) (post : Ob → Prop) : Prop :=
  ∀ u_1 : Ob, u_1 = fs_i u 1 0 →
  wp_X0_addAll u_1 n1 u1 0 x2 (fun (u_2 : Ob) =>
  post u_2)
def wp_X6_placeInOrder (x1 : Int32) (x2 : Int32) (post : Int32 → Prop) : Prop :=
  ∃ n : Nat, lq2 (fun (LL_1 : Int32 → Int32 → Prop) (v3_2 : Int32) (v2_3 : Int32) =>
    (((15 : Int32) ≤ v3_2) →
      post v3_2) ∧ ((¬ (15 : Int32) ≤ v3_2) →
      ((v2_3 = 0) →
        post v3_2) ∧ ((¬ v2_3 = 0) →
        (((x2 + 1) < (v2_3 &&& 3)) →
          post v3_2) ∧ ((¬ (x2 + 1) < (v2_3 &&& 3)) →
          LL_1 (v3_2 + 1) (j_ushr v2_3 2))))) n 0 x1
def wp_X6_size (x1 : Int32) (post : Int32 → Prop) : Prop :=
  ∃ n : Nat, lq1 (fun (LL_1 : Int32 → Prop) (v1_2 : Int32) =>
    (((15 : Int32) ≤ v1_2) →
      post v1_2) ∧ ((¬ (15 : Int32) ≤ v1_2) →
      (((j_ushr x1 (2 * v1_2)) = 0) →
        post v1_2) ∧ ((¬ (j_ushr x1 (2 * v1_2)) = 0) →
        LL_1 (v1_2 + 1)))) n 0
def wp_X6_with (x1 : Int32) (x2 : Int32) (x3 : Int32) (post : Int32 → Prop) : Prop :=
  post ((x1 &&& (((1 : Int32) <<< ((2 * x2) &&& 31)) - 1)) ||| ((((j_ushr x1 (2 * x2)) <<< ((2 : Int32) &&& 31)) ||| (x3 + 1)) <<< ((2 * x2) &&& 31)))
def wp_X0_wordWith (u : Ob) (x1 : Int32) (x2 : Int32) (x3 : Int32) (post : Int32 → Prop) : Prop :=
  vp_in x1 2 ∧
  jn (fun (w_3 : Int32) =>
    wp_X6_with x2 w_3 x3 (fun (r_4 : Int32) =>
    post r_4)) (fun (JJ_2 : Int32 → Prop) =>
    (((u.2.1 2 x1.toNatClampNeg) = 0) →
      wp_X6_size x2 (fun (r_6 : Int32) =>
      JJ_2 r_6)) ∧ ((¬ (u.2.1 2 x1.toNatClampNeg) = 0) →
      wp_X6_placeInOrder x2 x3 (fun (r_7 : Int32) =>
      JJ_2 r_7)))
def wp_X6_find (x1 : Int32) (x2 : Int32) (post : Int32 → Prop) : Prop :=
  ∃ n : Nat, lq1 (fun (LL_1 : Int32 → Prop) (v2_2 : Int32) =>
    (((15 : Int32) ≤ v2_2) →
      post (-1)) ∧ ((¬ (15 : Int32) ≤ v2_2) →
      ((¬ ((j_ushr x1 (2 * v2_2)) &&& 3) = (x2 + 1)) →
        LL_1 (v2_2 + 1)) ∧ ((((j_ushr x1 (2 * v2_2)) &&& 3) = (x2 + 1)) →
        post v2_2))) n 0
def wp_X6_without (x1 : Int32) (x2 : Int32) (post : Int32 → Prop) : Prop :=
  post ((x1 &&& (((1 : Int32) <<< ((2 * x2) &&& 31)) - 1)) ||| ((j_ushr x1 ((2 * x2) + 2)) <<< ((2 * x2) &&& 31)))
def wp_X0_wordBehind (u : Ob) (x1 : Int32) (x2 : Int32) (post : Int32 → Prop) : Prop :=
  wp_X0_part u x1 2 (fun (r_1 : Int32) =>
  wp_X0_part u x1 3 (fun (r_2 : Int32) =>
  wp_X0_part u x1 1 (fun (r_3 : Int32) =>
  (r_3 = 1 →
    wp_X0_wordWith u r_1 x2 r_2 (fun (r_5 : Int32) =>
    post r_5)) ∧ (¬ r_3 = 1 →
    (r_3 = 2 →
      wp_X6_find x2 r_2 (fun (r_7 : Int32) =>
      vp_in r_1 2 ∧
      jn (fun (w_10 : Int32) =>
        ((w_10 = 0) →
          post (-1)) ∧ ((¬ w_10 = 0) →
          wp_X6_without x2 r_7 (fun (r_12 : Int32) =>
          post r_12))) (fun (JJ_9 : Int32 → Prop) =>
        (((u.2.1 2 r_1.toNatClampNeg) = 0) →
          ((¬ r_7 = 0) →
            JJ_9 0) ∧ ((r_7 = 0) →
            JJ_9 1)) ∧ ((¬ (u.2.1 2 r_1.toNatClampNeg) = 0) →
          ((r_7 < 0) →
            JJ_9 0) ∧ ((¬ r_7 < 0) →
            JJ_9 1))))) ∧ (¬ r_3 = 2 →
      post x2)))))
def wp_X6_at (x1 : Int32) (x2 : Int32) (post : Int32 → Prop) : Prop :=
  post (((j_ushr x1 (2 * x2)) &&& 3) - 1)
def wp_X0_wordAhead (u : Ob) (x1 : Int32) (x2 : Int32) (post : Int32 → Prop) : Prop :=
  wp_X0_part u x1 2 (fun (r_1 : Int32) =>
  wp_X0_part u x1 3 (fun (r_2 : Int32) =>
  wp_X0_part u x1 1 (fun (r_3 : Int32) =>
  (r_3 = 1 →
    vp_in r_1 2 ∧
    jn (fun (w_7 : Int32) =>
      ((w_7 < 0) →
        post x2) ∧ ((¬ w_7 < 0) →
        wp_X6_at x2 w_7 (fun (r_9 : Int32) =>
        ((¬ r_9 = r_2) →
          post x2) ∧ ((r_9 = r_2) →
          wp_X6_without x2 w_7 (fun (r_11 : Int32) =>
          post r_11))))) (fun (JJ_6 : Int32 → Prop) =>
      (((u.2.1 2 r_1.toNatClampNeg) = 0) →
        wp_X6_size x2 (fun (r_13 : Int32) =>
        JJ_6 (r_13 - 1))) ∧ ((¬ (u.2.1 2 r_1.toNatClampNeg) = 0) →
        wp_X6_find x2 r_2 (fun (r_14 : Int32) =>
        JJ_6 r_14)))) ∧ (¬ r_3 = 1 →
    (r_3 = 2 →
      vp_in r_1 2 ∧
      (((u.2.1 2 r_1.toNatClampNeg) = 0) →
        wp_X6_with x2 0 r_2 (fun (r_18 : Int32) =>
        post r_18)) ∧ ((¬ (u.2.1 2 r_1.toNatClampNeg) = 0) →
        wp_X0_wordWith u r_1 x2 r_2 (fun (r_19 : Int32) =>
        post r_19))) ∧ (¬ r_3 = 2 →
      post x2)))))
def wp_X1_clear (u : Ob) (x1 : Int32) (post : Ob → Prop) : Prop :=
  ∀ u_1 : Ob, u_1 = fs_i u 0 x1 →
  vp_in 0 2 ∧ ∀ u_3 : Ob, u_3 = fs_a u_1 1 (upd (u_1.2.1 1) (0 : Int32).toNatClampNeg 0) →
  vp_in 1 2 ∧ ∀ u_5 : Ob, u_5 = fs_a u_3 1 (upd (u_3.2.1 1) (1 : Int32).toNatClampNeg 0) →
  post u_5
def wp_X6_isLonger (x1 : Int32) (x2 : Int32) (post : Int32 → Prop) : Prop :=
  (((j_ushr x1 (2 * x2)) = 0) →
    post 0) ∧ ((¬ (j_ushr x1 (2 * x2)) = 0) →
    post 1)
def wp_X1_isLonger (u : Ob) (x1 : Int32) (post : Int32 → Prop) : Prop :=
  vp_in 0 2 ∧
  wp_X6_isLonger (u.2.1 1 (0 : Int32).toNatClampNeg) x1 (fun (r_2 : Int32) =>
  ((¬ r_2 = 0) →
    post 1) ∧ ((r_2 = 0) →
    vp_in 1 2 ∧
    wp_X6_isLonger (u.2.1 1 (1 : Int32).toNatClampNeg) x1 (fun (r_5 : Int32) =>
    ((r_5 = 0) →
      post 0) ∧ ((¬ r_5 = 0) →
      post 1))))
def wp_X2_add (u : Ob) (x1 : Int32) (x2 : Int32) (x3 : Int32) (x4 : Int32) (x5 : Int32) (post : Ob → Prop) : Prop :=
  vp_in (u.1 0) 80 ∧ ∀ u_2 : Ob, u_2 = fs_a u 3 (upd (u.2.1 3) (u.1 0).toNatClampNeg x1) →
  vp_in (u_2.1 0) 80 ∧ ∀ u_4 : Ob, u_4 = fs_a u_2 4 (upd (u_2.2.1 4) (u_2.1 0).toNatClampNeg x2) →
  vp_in (u_4.1 0) 80 ∧ ∀ u_6 : Ob, u_6 = fs_a u_4 5 (upd (u_4.2.1 5) (u_4.1 0).toNatClampNeg x3) →
  vp_in (u_6.1 0) 80 ∧ ∀ u_8 : Ob, u_8 = fs_a u_6 6 (upd (u_6.2.1 6) (u_6.1 0).toNatClampNeg x4) →
  vp_in (u_8.1 0) 80 ∧ ∀ u_10 : Ob, u_10 = fs_a u_8 7 (upd (u_8.2.1 7) (u_8.1 0).toNatClampNeg x5) →
  jn (fun (w_12 : Int32) =>
    vp_in (u_10.1 0) 80 ∧ ∀ u_14 : Ob, u_14 = fs_a u_10 2 (upd (u_10.2.1 2) (u_10.1 0).toNatClampNeg w_12) →
    ∀ u_15 : Ob, u_15 = fs_i u_14 0 ((u_14.1 0) + 1) →
    post u_15) (fun (JJ_11 : Int32 → Prop) =>
    (((0 : Int32) ≤ x5) →
      vp_in x5 80 ∧
      JJ_11 ((u_10.2.1 2 x5.toNatClampNeg) + 1)) ∧ ((¬ (0 : Int32) ≤ x5) →
      JJ_11 0))
def wp_X6_isIn (x1 : Int32) (x2 : Int32) (post : Int32 → Prop) : Prop :=
  ∃ n : Nat, lq3 (fun (LL_1 : Int32 → Int32 → Int32 → Prop) (v4_2 : Int32) (v3_3 : Int32) (v2_4 : Int32) =>
    jn (  ((¬ v2_4 = 0) →
        post 0) ∧ ((v2_4 = 0) →
        post 1)) (fun (JJ_5 : Prop) =>
      (((15 : Int32) ≤ v4_2) →
        JJ_5) ∧ ((¬ (15 : Int32) ≤ v4_2) →
        ((v2_4 = 0) →
          JJ_5) ∧ ((¬ v2_4 = 0) →
          ((v3_3 = 0) →
            JJ_5) ∧ ((¬ v3_3 = 0) →
            jn (fun (v2_11 : Int32) =>
              LL_1 (v4_2 + 1) (j_ushr v3_3 2) v2_11) (fun (JJ_10 : Int32 → Prop) =>
              ((¬ (v2_4 &&& 3) = (v3_3 &&& 3)) →
                JJ_10 v2_4) ∧ (((v2_4 &&& 3) = (v3_3 &&& 3)) →
                JJ_10 (j_ushr v2_4 2)))))))) n 0 x2 x1
def wp_X2_isBelowPlace (u : Ob) (x1 : Int32) (x2 : Int32) (x3 : Int32) (x4 : Int32) (post : Int32 → Prop) : Prop :=
  vp_in x1 80 ∧
  ((¬ (u.2.1 3 x1.toNatClampNeg) = x2) →
    post 0) ∧ (((u.2.1 3 x1.toNatClampNeg) = x2) →
    vp_in x1 80 ∧
    wp_X6_isIn (u.2.1 4 x1.toNatClampNeg) x3 (fun (r_4 : Int32) =>
    ((r_4 = 0) →
      post 0) ∧ ((¬ r_4 = 0) →
      vp_in x1 80 ∧
      wp_X6_isIn (u.2.1 5 x1.toNatClampNeg) x4 (fun (r_7 : Int32) =>
      ((r_7 = 0) →
        post 0) ∧ ((¬ r_7 = 0) →
        post 1)))))
def wp_X2_firstBelow (u : Ob) (x1 : Int32) (x2 : Int32) (x3 : Int32) (post : Int32 → Prop) : Prop :=
  ∃ n : Nat, lq1 (fun (LL_1 : Int32 → Prop) (v4_2 : Int32) =>
    (((u.1 0) ≤ v4_2) →
      post (-1)) ∧ ((¬ (u.1 0) ≤ v4_2) →
      wp_X2_isBelowPlace u v4_2 x1 x2 x3 (fun (r_4 : Int32) =>
      ((r_4 = 0) →
        LL_1 (v4_2 + 1)) ∧ ((¬ r_4 = 0) →
        post v4_2)))) n 0
def wp_X2_lookAhead (u : Ob) (u1 : Ob) (x2 : Int32) (x3 : Int32) (post : Ob → Prop) : Prop :=
  wp_X0_part u1 x2 0 (fun (r_1 : Int32) =>
  wp_X0_part u1 x2 2 (fun (r_2 : Int32) =>
  jn (fun (w_4 : Int32) =>
    jn (fun (w_6 : Int32) =>
      wp_X2_firstBelow u r_1 w_4 w_6 (fun (r_7 : Int32) =>
      ((r_7 < 0) →
        jn (  ∀ u_10 : Ob, u_10 = fs_i u 1 1 →
          post u_10) (fun (JJ_9 : Prop) =>
          (((80 : Int32) ≤ (u.1 0)) →
            JJ_9) ∧ ((¬ (80 : Int32) ≤ (u.1 0)) →
            wp_X6_isLonger w_4 10 (fun (r_12 : Int32) =>
            ((¬ r_12 = 0) →
              JJ_9) ∧ ((r_12 = 0) →
              wp_X6_isLonger w_6 10 (fun (r_14 : Int32) =>
              ((r_14 = 0) →
                wp_X2_add u r_1 w_4 w_6 x2 x3 (fun (u_16 : Ob) =>
                post u_16)) ∧ ((¬ r_14 = 0) →
                JJ_9))))))) ∧ ((¬ r_7 < 0) →
        post u))) (fun (JJ_5 : Int32 → Prop) =>
      ((¬ r_2 = 1) →
        vp_in x3 80 ∧
        JJ_5 (u.2.1 5 x3.toNatClampNeg)) ∧ ((r_2 = 1) →
        vp_in x3 80 ∧
        wp_X0_wordAhead u1 x2 (u.2.1 5 x3.toNatClampNeg) (fun (r_20 : Int32) =>
        JJ_5 r_20)))) (fun (JJ_3 : Int32 → Prop) =>
    ((¬ r_2 = 0) →
      vp_in x3 80 ∧
      JJ_3 (u.2.1 4 x3.toNatClampNeg)) ∧ ((r_2 = 0) →
      vp_in x3 80 ∧
      wp_X0_wordAhead u1 x2 (u.2.1 4 x3.toNatClampNeg) (fun (r_24 : Int32) =>
      JJ_3 r_24)))))
def wp_X2_run (u : Ob) (u1 : Ob) (u2 : Ob) (post : Ob → Prop) : Prop :=
  ∀ u_1 : Ob, u_1 = fs_i u 0 0 →
  ∀ u_2 : Ob, u_2 = fs_i u_1 1 0 →
  vp_in 0 2 ∧
  vp_in 1 2 ∧
  wp_X2_add u_2 (u2.1 0) (u2.2.1 1 (0 : Int32).toNatClampNeg) (u2.2.1 1 (1 : Int32).toNatClampNeg) (-2) (-2) (fun (u_5 : Ob) =>
  ∃ n : Nat, lq2 (fun (LL_6 : Int32 → Ob → Prop) (v3_7 : Int32) (u_8 : Ob) =>
    (((80 : Int32) ≤ v3_7) →
      post u_8) ∧ ((¬ (80 : Int32) ≤ v3_7) →
      (((u_8.1 0) ≤ v3_7) →
        post u_8) ∧ ((¬ (u_8.1 0) ≤ v3_7) →
        ((¬ (u_8.1 1) = 0) →
          post u_8) ∧ (((u_8.1 1) = 0) →
          ∃ n : Nat, lq2 (fun (LL_12 : Int32 → Ob → Prop) (v4_13 : Int32) (u_14 : Ob) =>
            (((u1.1 1) ≤ v4_13) →
              LL_6 (v3_7 + 1) u_14) ∧ ((¬ (u1.1 1) ≤ v4_13) →
              ((¬ (u_14.1 1) = 0) →
                LL_6 (v3_7 + 1) u_14) ∧ (((u_14.1 1) = 0) →
                wp_X0_part u1 v4_13 4 (fun (r_17 : Int32) =>
                vp_in v3_7 80 ∧
                ((¬ r_17 = (u_14.2.1 3 v3_7.toNatClampNeg)) →
                  LL_12 (v4_13 + 1) u_14) ∧ ((r_17 = (u_14.2.1 3 v3_7.toNatClampNeg)) →
                  wp_X2_lookAhead u_14 u1 v4_13 v3_7 (fun (u_20 : Ob) =>
                  LL_12 (v4_13 + 1) u_20)))))) n 0 u_8)))) n 0 u_5)
def wp_X2_isLeast (u : Ob) (x1 : Int32) (post : Int32 → Prop) : Prop :=
  ∃ n : Nat, lq1 (fun (LL_1 : Int32 → Prop) (v2_2 : Int32) =>
    (((u.1 0) ≤ v2_2) →
      post 1) ∧ ((¬ (u.1 0) ≤ v2_2) →
      ((v2_2 = x1) →
        LL_1 (v2_2 + 1)) ∧ ((¬ v2_2 = x1) →
        vp_in x1 80 ∧
        vp_in x1 80 ∧
        vp_in x1 80 ∧
        wp_X2_isBelowPlace u v2_2 (u.2.1 3 x1.toNatClampNeg) (u.2.1 4 x1.toNatClampNeg) (u.2.1 5 x1.toNatClampNeg) (fun (r_8 : Int32) =>
        ((r_8 = 0) →
          LL_1 (v2_2 + 1)) ∧ ((¬ r_8 = 0) →
          post 0))))) n 0
def wp_X2_countLeast (u : Ob) (post : Int32 → Prop) : Prop :=
  ∃ n : Nat, lq2 (fun (LL_1 : Int32 → Int32 → Prop) (v2_2 : Int32) (v1_3 : Int32) =>
    (((u.1 0) ≤ v2_2) →
      post v1_3) ∧ ((¬ (u.1 0) ≤ v2_2) →
      wp_X2_isLeast u v2_2 (fun (r_5 : Int32) =>
      ((r_5 = 0) →
        LL_1 (v2_2 + 1) v1_3) ∧ ((¬ r_5 = 0) →
        LL_1 (v2_2 + 1) (v1_3 + 1))))) n 0 0
def wp_X2_wordOf (u : Ob) (x1 : Int32) (x2 : Int32) (post : Int32 → Prop) : Prop :=
  ((¬ x2 = 0) →
    vp_in x1 80 ∧
    post (u.2.1 5 x1.toNatClampNeg)) ∧ ((x2 = 0) →
    vp_in x1 80 ∧
    post (u.2.1 4 x1.toNatClampNeg))
def wp_X2_fact (u : Ob) (x1 : Int32) (x2 : Int32) (post : Int32 → Prop) : Prop :=
  (x2 = 0 →
    vp_in x1 80 ∧
    post (u.2.1 3 x1.toNatClampNeg)) ∧ (¬ x2 = 0 →
    (x2 = 1 →
      vp_in x1 80 ∧
      post (u.2.1 2 x1.toNatClampNeg)) ∧ (¬ x2 = 1 →
      (x2 = 2 →
        vp_in x1 80 ∧
        wp_X6_size (u.2.1 4 x1.toNatClampNeg) (fun (r_7 : Int32) =>
        post r_7)) ∧ (¬ x2 = 2 →
        (x2 = 3 →
          vp_in x1 80 ∧
          wp_X6_size (u.2.1 5 x1.toNatClampNeg) (fun (r_10 : Int32) =>
          post r_10)) ∧ (¬ x2 = 3 →
          (x2 = 4 →
            vp_in x1 80 ∧
            post (u.2.1 6 x1.toNatClampNeg)) ∧ (¬ x2 = 4 →
            (x2 = 5 →
              vp_in x1 80 ∧
              post (u.2.1 7 x1.toNatClampNeg)) ∧ (¬ x2 = 5 →
              wp_X2_isLeast u x1 (fun (r_15 : Int32) =>
              ((r_15 = 0) →
                post 0) ∧ ((¬ r_15 = 0) →
                post 1))))))))
def wp_X2_arcOfWay (u : Ob) (x1 : Int32) (x2 : Int32) (post : Int32 → Prop) : Prop :=
  ∃ n : Nat, lq2 (fun (LL_1 : Int32 → Int32 → Prop) (v4_2 : Int32) (v3_3 : Int32) =>
    jn (  vp_in v3_3 80 ∧
      post (u.2.1 6 v3_3.toNatClampNeg)) (fun (JJ_4 : Prop) =>
      ((x2 ≤ v4_2) →
        JJ_4) ∧ ((¬ x2 ≤ v4_2) →
        vp_in v3_3 80 ∧
        (((u.2.1 7 v3_3.toNatClampNeg) < 0) →
          JJ_4) ∧ ((¬ (u.2.1 7 v3_3.toNatClampNeg) < 0) →
          vp_in v3_3 80 ∧
          LL_1 (v4_2 + 1) (u.2.1 7 v3_3.toNatClampNeg))))) n 0 x1
def wp_J7_fill_53178 (n1 : Nat) (u1 : Nat → Int32) (x2 : Int32) (post : (Nat → Int32) → Prop) : Prop :=
  ∃ n : Nat, lq2 (fun (LL_1 : Int32 → (Nat → Int32) → Prop) (v2_2 : Int32) (u1_3 : Nat → Int32) =>
    (((Int32.ofNat n1) ≤ v2_2) →
      post u1_3) ∧ ((¬ (Int32.ofNat n1) ≤ v2_2) →
      vp_in v2_2 n1 ∧ ∀ u1_6 : Nat → Int32, u1_6 = (upd u1_3 v2_2.toNatClampNeg x2) →
      LL_1 (v2_2 + 1) u1_6)) n 0 u1
def wp_X3_hold (u : Ob) (x1 : Int32) (x2 : Int32) (post : Ob → Prop) : Prop :=
  ∀ u_1 : Ob, u_1 = fs_i u 0 1 →
  ∀ u_2 : Ob, u_2 = fs_i u_1 3 x1 →
  ∀ u_3 : Ob, u_3 = fs_i u_2 1 x2 →
  wp_J7_fill_53178 60 (u_3.2.1 2) 0 (fun (f_4 : Nat → Int32) =>
  ∀ u_5 : Ob, u_5 = fs_a u_3 2 f_4 →
  post u_5)
def wp_X3_faultAs (u : Ob) (x1 : Int32) (post : Int32 → Prop) : Prop :=
  ((¬ (u.1 0) = 0) →
    ((¬ x1 = (u.1 3)) →
      post (-12)) ∧ ((x1 = (u.1 3)) →
      post 0)) ∧ (((u.1 0) = 0) →
    post (-11))
def wp_X3_put (u : Ob) (x1 : Int32) (x2 : Int32) (post : Ob → Prop) : Prop :=
  jn (fun (w_2 : Int32) =>
    vp_in x1 60 ∧ ∀ u_4 : Ob, u_4 = fs_a u 2 (upd (u.2.1 2) x1.toNatClampNeg w_2) →
    post u_4) (fun (JJ_1 : Int32 → Prop) =>
    ((¬ (u.1 3) = 0) →
      JJ_1 x2) ∧ (((u.1 3) = 0) →
      JJ_1 (Int8.toInt32 (Int32.toInt8 x2))))
def wp_X4_byteOf (x1 : Int64) (x2 : Int32) (post : Int32 → Prop) : Prop :=
  post ((Int64.toInt32 (j_lushr x1 (8 * x2))) &&& 255)
def wp_X4_canHave (x1 : Int64) (x2 : Int32) (post : Int32 → Prop) : Prop :=
  ∃ n : Nat, lq1 (fun (LL_1 : Int32 → Prop) (v3_2 : Int32) =>
    ((x2 ≤ v3_2) →
      post 1) ∧ ((¬ x2 ≤ v3_2) →
      wp_X4_byteOf x1 v3_2 (fun (r_4 : Int32) =>
      ((r_4 < 32) →
        post 0) ∧ ((¬ r_4 < 32) →
        ((r_4 ≤ 126) →
          LL_1 (v3_2 + 1)) ∧ ((¬ r_4 ≤ 126) →
          post 0))))) n 0
def wp_X4_add (u : Ob) (x1 : Int64) (x2 : Int32) (post : Ob → Prop) : Prop :=
  ∃ n : Nat, lq2 (fun (LL_1 : Int32 → Ob → Prop) (v4_2 : Int32) (u_3 : Ob) =>
    ((v4_2 < 0) →
      post u_3) ∧ ((¬ v4_2 < 0) →
      wp_X4_byteOf x1 v4_2 (fun (r_5 : Int32) =>
      vp_in (u_3.1 0) 130 ∧ ∀ u_7 : Ob, u_7 = fs_a u_3 2 (upd (u_3.2.1 2) (u_3.1 0).toNatClampNeg (vp_nar .byte (Int8.toInt32 (Int32.toInt8 r_5)))) →
      ∀ u_8 : Ob, u_8 = fs_i u_7 0 ((u_7.1 0) + 1) →
      LL_1 (v4_2 + (-1)) u_8))) n (x2 - 1) u
def wp_X4_skipBlanks (u : Ob) (post : Ob → Prop) : Prop :=
  ∃ n : Nat, lq1 (fun (LL_1 : Ob → Prop) (u_2 : Ob) =>
    (((u_2.1 0) ≤ (u_2.1 3)) →
      post u_2) ∧ ((¬ (u_2.1 0) ≤ (u_2.1 3)) →
      vp_in (u_2.1 3) 130 ∧
      ((¬ (u_2.2.1 2 (u_2.1 3).toNatClampNeg) = 32) →
        post u_2) ∧ (((u_2.2.1 2 (u_2.1 3).toNatClampNeg) = 32) →
        ∀ u_6 : Ob, u_6 = fs_i u_2 3 ((u_2.1 3) + 1) →
        LL_1 u_6))) n u
def wp_X4_oneOf (u : Ob) (x1 : Int32) (x2 : Int32) (post : Int32 → Ob → Prop) : Prop :=
  wp_X4_skipBlanks u (fun (u_1 : Ob) =>
  (((u_1.1 0) ≤ (u_1.1 3)) →
    post (-1) u_1) ∧ ((¬ (u_1.1 0) ≤ (u_1.1 3)) →
    vp_in (u_1.1 3) 130 ∧
    wp_X7_isAmong ((u_1.2.1 2 (u_1.1 3).toNatClampNeg) - x1) x2 (fun (r_4 : Int32) =>
    ((¬ r_4 = 0) →
      ∀ u_6 : Ob, u_6 = fs_i u_1 3 ((u_1.1 3) + 1) →
      vp_in ((u_6.1 3) - 1) 130 ∧
      post ((u_6.2.1 2 ((u_6.1 3) - 1).toNatClampNeg) - x1) u_6) ∧ ((r_4 = 0) →
      post (-1) u_1))))
def wp_X4_parseAct (u : Ob) (post : Int32 → Ob → Prop) : Prop :=
  wp_X4_oneOf u 45 1 (fun (r_1 : Int32) (u_2 : Ob) =>
  ((¬ r_1 = 0) →
    wp_X4_oneOf u_2 33 1 (fun (r_4 : Int32) (u_5 : Ob) =>
    ((¬ r_4 = 0) →
      wp_X4_oneOf u_5 63 1 (fun (r_7 : Int32) (u_8 : Ob) =>
      ((¬ r_7 = 0) →
        post (-1) u_8) ∧ ((r_7 = 0) →
        post 2 u_8))) ∧ ((r_4 = 0) →
      post 1 u_5))) ∧ ((r_1 = 0) →
    post 0 u_2))
def wp_X4_parseLetterAndLine (u : Ob) (x1 : Int32) (post : Int32 → Ob → Prop) : Prop :=
  wp_X4_oneOf u 97 3 (fun (r_1 : Int32) (u_2 : Ob) =>
  vp_in (x1 + 3) 100 ∧ ∀ u_4 : Ob, u_4 = fs_a u_2 1 (upd (u_2.2.1 1) (x1 + 3).toNatClampNeg r_1) →
  vp_in (x1 + 3) 100 ∧
  (((0 : Int32) ≤ (u_4.2.1 1 (x1 + 3).toNatClampNeg)) →
    wp_X4_oneOf u_4 48 2 (fun (r_7 : Int32) (u_8 : Ob) =>
    vp_in (x1 + 2) 100 ∧ ∀ u_10 : Ob, u_10 = fs_a u_8 1 (upd (u_8.2.1 1) (x1 + 2).toNatClampNeg r_7) →
    vp_in (x1 + 2) 100 ∧
    (((u_10.2.1 1 (x1 + 2).toNatClampNeg) < 0) →
      post 0 u_10) ∧ ((¬ (u_10.2.1 1 (x1 + 2).toNatClampNeg) < 0) →
      post 1 u_10))) ∧ ((¬ (0 : Int32) ≤ (u_4.2.1 1 (x1 + 3).toNatClampNeg)) →
    post 0 u_4))
def wp_X4_parseArc (u : Ob) (x1 : Int32) (x2 : Int32) (post : Int32 → Ob → Prop) : Prop :=
  wp_X4_oneOf u 48 x2 (fun (r_1 : Int32) (u_2 : Ob) =>
  vp_in (x1 + 0) 100 ∧ ∀ u_4 : Ob, u_4 = fs_a u_2 1 (upd (u_2.2.1 1) (x1 + 0).toNatClampNeg r_1) →
  vp_in (x1 + 0) 100 ∧
  (((0 : Int32) ≤ (u_4.2.1 1 (x1 + 0).toNatClampNeg)) →
    wp_X4_parseAct u_4 (fun (r_7 : Int32) (u_8 : Ob) =>
    vp_in (x1 + 1) 100 ∧ ∀ u_10 : Ob, u_10 = fs_a u_8 1 (upd (u_8.2.1 1) (x1 + 1).toNatClampNeg r_7) →
    ((r_7 < 0) →
      post 0 u_10) ∧ ((¬ r_7 < 0) →
      jn (fun (u_13 : Ob) =>
        wp_X4_oneOf u_13 48 x2 (fun (r_14 : Int32) (u_15 : Ob) =>
        vp_in (x1 + 4) 100 ∧ ∀ u_17 : Ob, u_17 = fs_a u_15 1 (upd (u_15.2.1 1) (x1 + 4).toNatClampNeg r_14) →
        vp_in (x1 + 4) 100 ∧
        (((u_17.2.1 1 (x1 + 4).toNatClampNeg) < 0) →
          post 0 u_17) ∧ ((¬ (u_17.2.1 1 (x1 + 4).toNatClampNeg) < 0) →
          post 1 u_17))) (fun (JJ_12 : Ob → Prop) =>
        ((r_7 = 0) →
          JJ_12 u_10) ∧ ((¬ r_7 = 0) →
          wp_X4_parseLetterAndLine u_10 x1 (fun (r_21 : Int32) (u_22 : Ob) =>
          ((¬ r_21 = 0) →
            JJ_12 u_22) ∧ ((r_21 = 0) →
            post 0 u_22))))))) ∧ ((¬ (0 : Int32) ≤ (u_4.2.1 1 (x1 + 0).toNatClampNeg)) →
    post 0 u_4))
def wp_X4_parse (u : Ob) (x1 : Int32) (post : Int32 → Ob → Prop) : Prop :=
  ∀ u_1 : Ob, u_1 = fs_i u 3 0 →
  ∃ n : Nat, lq2 (fun (LL_2 : Int32 → Ob → Prop) (v2_3 : Int32) (u_4 : Ob) =>
    (((20 : Int32) ≤ v2_3) →
      post ((-20) - (u_4.1 3)) u_4) ∧ ((¬ (20 : Int32) ≤ v2_3) →
      wp_X4_parseArc u_4 (v2_3 * 5) x1 (fun (r_6 : Int32) (u_7 : Ob) =>
      ((¬ r_6 = 0) →
        wp_X4_skipBlanks u_7 (fun (u_9 : Ob) =>
        (((u_9.1 3) < (u_9.1 0)) →
          vp_in (u_9.1 3) 130 ∧
          jn (  post ((-20) - (u_9.1 3)) u_9) (fun (JJ_12 : Prop) =>
            ((¬ (u_9.2.1 2 (u_9.1 3).toNatClampNeg) = 59) →
              JJ_12) ∧ (((u_9.2.1 2 (u_9.1 3).toNatClampNeg) = 59) →
              ((¬ (v2_3 + 1) = 20) →
                ∀ u_15 : Ob, u_15 = fs_i u_9 3 ((u_9.1 3) + 1) →
                LL_2 (v2_3 + 1) u_15) ∧ (((v2_3 + 1) = 20) →
                JJ_12)))) ∧ ((¬ (u_9.1 3) < (u_9.1 0)) →
          post (v2_3 + 1) u_9))) ∧ ((r_6 = 0) →
        post ((-20) - (u_7.1 3)) u_7)))) n 0 u_1
def wp_J7_fill_d0a16 (n1 : Nat) (u1 : Nat → Int64) (x2 : Int64) (post : (Nat → Int64) → Prop) : Prop :=
  ∃ n : Nat, lq2 (fun (LL_1 : Int32 → (Nat → Int64) → Prop) (v3_2 : Int32) (u1_3 : Nat → Int64) =>
    (((Int32.ofNat n1) ≤ v3_2) →
      post u1_3) ∧ ((¬ (Int32.ofNat n1) ≤ v3_2) →
      vp_in v3_2 n1 ∧ ∀ u1_6 : Nat → Int64, u1_6 = (vp_updL u1_3 v3_2.toNatClampNeg x2) →
      LL_1 (v3_2 + 1) u1_6)) n 0 u1
def wp_X5_add (u : Ob) (x1 : Int32) (x2 : Int32) (x3 : Int32) (post : Ob → Prop) : Prop :=
  vp_in (((((x1 <<< ((6 : Int32) &&& 31)) ||| x2) <<< ((6 : Int32) &&& 31)) ||| x3) >>> ((6 : Int32) &&& 31)) 512 ∧
  ((¬ (lg_cmp ((u.2.2 0 (((((x1 <<< ((6 : Int32) &&& 31)) ||| x2) <<< ((6 : Int32) &&& 31)) ||| x3) >>> ((6 : Int32) &&& 31)).toNatClampNeg) &&& (j_lshl 1 (((((x1 <<< ((6 : Int32) &&& 31)) ||| x2) <<< ((6 : Int32) &&& 31)) ||| x3) &&& 63))) 0) = 0) →
    post u) ∧ (((lg_cmp ((u.2.2 0 (((((x1 <<< ((6 : Int32) &&& 31)) ||| x2) <<< ((6 : Int32) &&& 31)) ||| x3) >>> ((6 : Int32) &&& 31)).toNatClampNeg) &&& (j_lshl 1 (((((x1 <<< ((6 : Int32) &&& 31)) ||| x2) <<< ((6 : Int32) &&& 31)) ||| x3) &&& 63))) 0) = 0) →
    (((12800 : Int32) ≤ (u.1 2)) →
      post u) ∧ ((¬ (12800 : Int32) ≤ (u.1 2)) →
      vp_in (((((x1 <<< ((6 : Int32) &&& 31)) ||| x2) <<< ((6 : Int32) &&& 31)) ||| x3) >>> ((6 : Int32) &&& 31)) 512 ∧
      vp_in (((((x1 <<< ((6 : Int32) &&& 31)) ||| x2) <<< ((6 : Int32) &&& 31)) ||| x3) >>> ((6 : Int32) &&& 31)) 512 ∧ ∀ u_6 : Ob, u_6 = fs_l u 0 (vp_updL (u.2.2 0) (((((x1 <<< ((6 : Int32) &&& 31)) ||| x2) <<< ((6 : Int32) &&& 31)) ||| x3) >>> ((6 : Int32) &&& 31)).toNatClampNeg ((u.2.2 0 (((((x1 <<< ((6 : Int32) &&& 31)) ||| x2) <<< ((6 : Int32) &&& 31)) ||| x3) >>> ((6 : Int32) &&& 31)).toNatClampNeg) ||| (j_lshl 1 (((((x1 <<< ((6 : Int32) &&& 31)) ||| x2) <<< ((6 : Int32) &&& 31)) ||| x3) &&& 63)))) →
      vp_in (u_6.1 2) 12800 ∧ ∀ u_8 : Ob, u_8 = fs_a u_6 1 (upd (u_6.2.1 1) (u_6.1 2).toNatClampNeg ((((x1 <<< ((6 : Int32) &&& 31)) ||| x2) <<< ((6 : Int32) &&& 31)) ||| x3)) →
      ∀ u_9 : Ob, u_9 = fs_i u_8 2 ((u_8.1 2) + 1) →
      post u_9))
def wp_X5_stateOf (x1 : Int32) (post : Int32 → Prop) : Prop :=
  post (x1 >>> ((12 : Int32) &&& 31))
def wp_X5_wordOf (x1 : Int32) (x2 : Int32) (post : Int32 → Prop) : Prop :=
  ((¬ x2 = 0) →
    post (x1 &&& 63)) ∧ ((x2 = 0) →
    post ((x1 >>> ((6 : Int32) &&& 31)) &&& 63))
def wp_X5_isAimed (u1 : Ob) (x1 : Int32) (post : Int32 → Prop) : Prop :=
  wp_X5_stateOf x1 (fun (r_1 : Int32) =>
  ((¬ r_1 = (u1.1 0)) →
    post 0) ∧ ((r_1 = (u1.1 0)) →
    vp_in 0 2 ∧
    wp_X5_wordOf x1 0 (fun (r_4 : Int32) =>
    wp_X6_isIn (u1.2.1 1 (0 : Int32).toNatClampNeg) r_4 (fun (r_5 : Int32) =>
    ((r_5 = 0) →
      post 0) ∧ ((¬ r_5 = 0) →
      vp_in 1 2 ∧
      wp_X5_wordOf x1 1 (fun (r_8 : Int32) =>
      wp_X6_isIn (u1.2.1 1 (1 : Int32).toNatClampNeg) r_8 (fun (r_9 : Int32) =>
      ((r_9 = 0) →
        post 0) ∧ ((¬ r_9 = 0) →
        post 1))))))))
def wp_X5_goBy (u : Ob) (u1 : Ob) (x2 : Int32) (x3 : Int32) (x4 : Int32) (post : Ob → Prop) : Prop :=
  wp_X0_part u1 x2 2 (fun (r_1 : Int32) =>
  wp_X5_wordOf x3 r_1 (fun (r_2 : Int32) =>
  wp_X0_wordBehind u1 x2 r_2 (fun (r_3 : Int32) =>
  ((r_3 = (-1)) →
    post u) ∧ ((¬ r_3 = (-1)) →
    wp_X6_isLonger r_3 x4 (fun (r_5 : Int32) =>
    ((r_5 = 0) →
      wp_X0_part u1 x2 4 (fun (r_7 : Int32) =>
      jn (fun (w_9 : Int32) =>
        jn (fun (w_11 : Int32) =>
          wp_X5_add u r_7 w_9 w_11 (fun (u_12 : Ob) =>
          post u_12)) (fun (JJ_10 : Int32 → Prop) =>
          ((¬ r_1 = 1) →
            wp_X5_wordOf x3 1 (fun (r_14 : Int32) =>
            JJ_10 r_14)) ∧ ((r_1 = 1) →
            JJ_10 r_3))) (fun (JJ_8 : Int32 → Prop) =>
        ((¬ r_1 = 0) →
          wp_X5_wordOf x3 0 (fun (r_16 : Int32) =>
          JJ_8 r_16)) ∧ ((r_1 = 0) →
          JJ_8 r_3)))) ∧ ((¬ r_5 = 0) →
      post u))))))
def wp_X5_goOn (u : Ob) (u1 : Ob) (x2 : Int32) (x3 : Int32) (post : Ob → Prop) : Prop :=
  ∃ n : Nat, lq2 (fun (LL_1 : Int32 → Ob → Prop) (v4_2 : Int32) (u_3 : Ob) =>
    (((u1.1 1) ≤ v4_2) →
      post u_3) ∧ ((¬ (u1.1 1) ≤ v4_2) →
      wp_X0_part u1 v4_2 0 (fun (r_5 : Int32) =>
      wp_X5_stateOf x2 (fun (r_6 : Int32) =>
      ((¬ r_5 = r_6) →
        LL_1 (v4_2 + 1) u_3) ∧ ((r_5 = r_6) →
        wp_X5_goBy u_3 u1 v4_2 x2 x3 (fun (u_8 : Ob) =>
        LL_1 (v4_2 + 1) u_8)))))) n 0 u
def wp_X5_fewest (u : Ob) (u1 : Ob) (u2 : Ob) (u3 : Ob) (x4 : Int32) (post : Int32 → Ob → Prop) : Prop :=
  wp_J7_fill_d0a16 512 (u.2.2 0) 0 (fun (f_1 : Nat → Int64) =>
  ∀ u_2 : Ob, u_2 = fs_l u 0 f_1 →
  ∀ u_3 : Ob, u_3 = fs_i u_2 2 0 →
  vp_in 0 2 ∧
  vp_in 1 2 ∧
  wp_X5_add u_3 (u2.1 0) (u2.2.1 1 (0 : Int32).toNatClampNeg) (u2.2.1 1 (1 : Int32).toNatClampNeg) (fun (u_6 : Ob) =>
  ∃ n : Nat, lq3 (fun (LL_7 : Int32 → Int32 → Ob → Prop) (v6_8 : Int32) (v5_9 : Int32) (u_10 : Ob) =>
    (((12800 : Int32) ≤ v6_8) →
      post (-4) u_10) ∧ ((¬ (12800 : Int32) ≤ v6_8) →
      (((u_10.1 2) ≤ v5_9) →
        post (-4) u_10) ∧ ((¬ (u_10.1 2) ≤ v5_9) →
        ∃ n : Nat, lq2 (fun (LL_13 : Int32 → Ob → Prop) (v5_14 : Int32) (u_15 : Ob) =>
          (((u_10.1 2) ≤ v5_14) →
            LL_7 (v6_8 + 1) v5_14 u_15) ∧ ((¬ (u_10.1 2) ≤ v5_14) →
            vp_in v5_14 12800 ∧
            wp_X5_isAimed u3 (u_15.2.1 1 v5_14.toNatClampNeg) (fun (r_18 : Int32) =>
            ((r_18 = 0) →
              vp_in v5_14 12800 ∧
              wp_X5_goOn u_15 u1 (u_15.2.1 1 v5_14.toNatClampNeg) x4 (fun (u_21 : Ob) =>
              LL_13 (v5_14 + 1) u_21)) ∧ ((¬ r_18 = 0) →
              post v6_8 u_15)))) n v5_9 u_10))) n 0 0 u_6))
def wp_X7_startAgain (uf : Ob) (uh : Ob) (post : Ob → Ob → Prop) : Prop :=
  wp_X1_clear uh 0 (fun (uh_1 : Ob) =>
  ∀ uf_2 : Ob, uf_2 = fs_i uf 7 0 →
  post uf_2 uh_1)
def wp_X7_states (uf : Ob) (um : Ob) (uh : Ob) (ug : Ob) (x1 : Int32) (post : Int32 → Ob → Ob → Ob → Ob → Prop) : Prop :=
  ((x1 < 1) →
    post (-1) uf um uh ug) ∧ ((¬ x1 < 1) →
    ((x1 ≤ 8) →
      ∀ um_3 : Ob, um_3 = fs_i um 0 x1 →
      ∀ um_4 : Ob, um_4 = fs_i um_3 1 0 →
      wp_X1_clear ug 0 (fun (ug_5 : Ob) =>
      wp_X7_startAgain uf uh (fun (uf_6 : Ob) (uh_7 : Ob) =>
      post (um.1 0) uf_6 um_4 uh_7 ug_5))) ∧ ((¬ x1 ≤ 8) →
      post (-1) uf um uh ug))
def wp_X7_bag (uf : Ob) (um : Ob) (uh : Ob) (ug : Ob) (x1 : Int32) (x2 : Int32) (post : Int32 → Ob → Ob → Ob → Ob → Prop) : Prop :=
  wp_X7_isAmong x1 2 (fun (r_1 : Int32) =>
  ((¬ r_1 = 0) →
    vp_in x1 2 ∧
    jn (fun (w_5 : Int32) =>
      vp_in x1 2 ∧ ∀ um_7 : Ob, um_7 = fs_a um 2 (upd (um.2.1 2) x1.toNatClampNeg (vp_nar .boolean x2)) →
      wp_X1_clear ug 0 (fun (ug_8 : Ob) =>
      wp_X7_startAgain uf uh (fun (uf_9 : Ob) (uh_10 : Ob) =>
      post w_5 uf_9 um_7 uh_10 ug_8))) (fun (JJ_4 : Int32 → Prop) =>
      (((um.2.1 2 x1.toNatClampNeg) = 0) →
        JJ_4 0) ∧ ((¬ (um.2.1 2 x1.toNatClampNeg) = 0) →
        JJ_4 1))) ∧ ((r_1 = 0) →
    post (-1) uf um uh ug))
def wp_X7_arc (uf : Ob) (um : Ob) (uh : Ob) (x1 : Int32) (x2 : Int32) (x3 : Int32) (x4 : Int32) (x5 : Int32) (post : Int32 → Ob → Ob → Ob → Prop) : Prop :=
  wp_X0_canHave um x1 x2 x3 x4 x5 (fun (r_1 : Int32) =>
  ((¬ r_1 = 0) →
    (((um.1 1) < 20) →
      wp_X0_add um x1 x2 x3 x4 x5 (fun (um_4 : Ob) =>
      wp_X7_startAgain uf uh (fun (uf_5 : Ob) (uh_6 : Ob) =>
      post ((um_4.1 1) - 1) uf_5 um_4 uh_6))) ∧ ((¬ (um.1 1) < 20) →
      post (-3) uf um uh)) ∧ ((r_1 = 0) →
    post (-1) uf um uh))
def wp_X7_unarc (uf : Ob) (um : Ob) (uh : Ob) (post : Int32 → Ob → Ob → Ob → Prop) : Prop :=
  ((¬ (um.1 1) = 0) →
    ∀ um_2 : Ob, um_2 = fs_i um 1 ((um.1 1) - 1) →
    wp_X7_startAgain uf uh (fun (uf_3 : Ob) (uh_4 : Ob) =>
    post (um_2.1 1) uf_3 um_2 uh_4)) ∧ (((um.1 1) = 0) →
    post (-2) uf um uh)
def wp_X7_told (uf : Ob) (um : Ob) (x1 : Int32) (x2 : Int32) (post : Int32 → Prop) : Prop :=
  wp_X7_isAmong x1 (um.1 1) (fun (r_1 : Int32) =>
  ((r_1 = 0) →
    post (-1)) ∧ ((¬ r_1 = 0) →
    wp_X7_isAmong x2 5 (fun (r_3 : Int32) =>
    ((¬ r_3 = 0) →
      wp_X0_part um x1 x2 (fun (r_5 : Int32) =>
      post r_5)) ∧ ((r_3 = 0) →
      post (-1)))))
def wp_X7_type (uf : Ob) (ut : Ob) (x1 : Int64) (x2 : Int32) (post : Int32 → Ob → Prop) : Prop :=
  ((x2 < 1) →
    post (-1) ut) ∧ ((¬ x2 < 1) →
    (((8 : Int32) < x2) →
      post (-1) ut) ∧ ((¬ (8 : Int32) < x2) →
      wp_X4_canHave x1 x2 (fun (r_3 : Int32) =>
      ((¬ r_3 = 0) →
        ((((ut.1 0) + x2) ≤ 130) →
          wp_X4_add ut x1 x2 (fun (ut_6 : Ob) =>
          post (ut_6.1 0) ut_6)) ∧ ((¬ ((ut.1 0) + x2) ≤ 130) →
          post (-3) ut)) ∧ ((r_3 = 0) →
        post (-1) ut))))
def wp_X7_read (uf : Ob) (um : Ob) (ut : Ob) (uh : Ob) (post : Int32 → Ob → Ob → Ob → Ob → Prop) : Prop :=
  wp_X4_parse ut (um.1 0) (fun (r_1 : Int32) (ut_2 : Ob) =>
  ∀ ut_3 : Ob, ut_3 = fs_i ut_2 0 0 →
  ((r_1 ≤ 0) →
    post r_1 uf um ut_3 uh) ∧ ((¬ r_1 ≤ 0) →
    wp_X0_replace um 100 (ut_3.2.1 1) r_1 (fun (um_5 : Ob) =>
    wp_X7_startAgain uf uh (fun (uf_6 : Ob) (uh_7 : Ob) =>
    post r_1 uf_6 um_5 ut_3 uh_7))))
def wp_X7_arcs (uf : Ob) (um : Ob) (uh : Ob) (ux : Ob) (uy : Ob) (x1 : Int32) (x2 : Int32) (x3 : Int32) (x4 : Int32) (post : Int32 → Ob → Ob → Ob → Prop) : Prop :=
  wp_X7_isAmong x1 2 (fun (r_1 : Int32) =>
  ((r_1 = 0) →
    post (-1) uf um uh) ∧ ((¬ r_1 = 0) →
    wp_X7_isAmong x2 2 (fun (r_3 : Int32) =>
    ((r_3 = 0) →
      post (-1) uf um uh) ∧ ((¬ r_3 = 0) →
      ((x4 < 0) →
        post (-1) uf um uh) ∧ ((¬ x4 < 0) →
        ((x4 ≤ 12) →
          vp_in x1 2 ∧ (x1 = 0 →
            wp_X3_faultAs ux x2 (fun (r_8 : Int32) =>
            ((r_8 = 0) →
              ((x3 < 0) →
                post (-13) uf um uh) ∧ ((¬ x3 < 0) →
                ((x3 ≤ ((ux.1 1) - (x4 * 5))) →
                  wp_X0_canHaveAll um 60 (ux.2.1 2) x3 x4 (fun (r_12 : Int32) =>
                  ((¬ r_12 = 0) →
                    ((((um.1 1) + x4) ≤ 20) →
                      wp_X0_addAll um 60 (ux.2.1 2) x3 x4 (fun (um_15 : Ob) =>
                      wp_X7_startAgain uf uh (fun (uf_16 : Ob) (uh_17 : Ob) =>
                      post (um_15.1 1) uf_16 um_15 uh_17))) ∧ ((¬ ((um.1 1) + x4) ≤ 20) →
                      post (-3) uf um uh)) ∧ ((r_12 = 0) →
                    post (-2) uf um uh))) ∧ ((¬ x3 ≤ ((ux.1 1) - (x4 * 5))) →
                  post (-13) uf um uh))) ∧ ((¬ r_8 = 0) →
              post r_8 uf um uh))) ∧ (x1 = 1 →
            wp_X3_faultAs uy x2 (fun (r_18 : Int32) =>
            ((r_18 = 0) →
              ((x3 < 0) →
                post (-13) uf um uh) ∧ ((¬ x3 < 0) →
                ((x3 ≤ ((uy.1 1) - (x4 * 5))) →
                  wp_X0_canHaveAll um 60 (uy.2.1 2) x3 x4 (fun (r_22 : Int32) =>
                  ((¬ r_22 = 0) →
                    ((((um.1 1) + x4) ≤ 20) →
                      wp_X0_addAll um 60 (uy.2.1 2) x3 x4 (fun (um_25 : Ob) =>
                      wp_X7_startAgain uf uh (fun (uf_26 : Ob) (uh_27 : Ob) =>
                      post (um_25.1 1) uf_26 um_25 uh_27))) ∧ ((¬ ((um.1 1) + x4) ≤ 20) →
                      post (-3) uf um uh)) ∧ ((r_22 = 0) →
                    post (-2) uf um uh))) ∧ ((¬ x3 ≤ ((uy.1 1) - (x4 * 5))) →
                  post (-13) uf um uh))) ∧ ((¬ r_18 = 0) →
              post r_18 uf um uh)))) ∧ ((¬ x4 ≤ 12) →
          post (-1) uf um uh))))))
def wp_X7_go (uf : Ob) (um : Ob) (uh : Ob) (x1 : Int32) (post : Int32 → Ob → Prop) : Prop :=
  wp_X7_isAmong x1 (um.1 1) (fun (r_1 : Int32) =>
  ((¬ r_1 = 0) →
    wp_X0_part um x1 0 (fun (r_3 : Int32) =>
    ((r_3 = (uh.1 0)) →
      wp_X0_part um x1 2 (fun (r_5 : Int32) =>
      vp_in r_5 2 ∧
      wp_X0_wordBehind um x1 (uh.2.1 1 r_5.toNatClampNeg) (fun (r_7 : Int32) =>
      ((¬ r_7 = (-1)) →
        wp_X6_isLonger r_7 10 (fun (r_9 : Int32) =>
        ((r_9 = 0) →
          vp_in r_5 2 ∧ ∀ uh_12 : Ob, uh_12 = fs_a uh 1 (upd (uh.2.1 1) r_5.toNatClampNeg r_7) →
          wp_X0_part um x1 4 (fun (r_13 : Int32) =>
          ∀ uh_14 : Ob, uh_14 = fs_i uh_12 0 r_13 →
          post (uh_14.1 0) uh_14)) ∧ ((¬ r_9 = 0) →
          post (-3) uh))) ∧ ((r_7 = (-1)) →
        post (-2) uh)))) ∧ ((¬ r_3 = (uh.1 0)) →
      post (-2) uh))) ∧ ((r_1 = 0) →
    post (-1) uh))
def wp_X7_lose (uf : Ob) (uh : Ob) (x1 : Int32) (x2 : Int32) (post : Int32 → Ob → Prop) : Prop :=
  wp_X7_isAmong x1 2 (fun (r_1 : Int32) =>
  ((r_1 = 0) →
    post (-1) uh) ∧ ((¬ r_1 = 0) →
    vp_in x1 2 ∧
    wp_X6_size (uh.2.1 1 x1.toNatClampNeg) (fun (r_4 : Int32) =>
    wp_X7_isAmong x2 r_4 (fun (r_5 : Int32) =>
    ((¬ r_5 = 0) →
      vp_in x1 2 ∧
      wp_X6_at (uh.2.1 1 x1.toNatClampNeg) x2 (fun (r_8 : Int32) =>
      vp_in x1 2 ∧
      wp_X6_without (uh.2.1 1 x1.toNatClampNeg) x2 (fun (r_10 : Int32) =>
      vp_in x1 2 ∧ ∀ uh_12 : Ob, uh_12 = fs_a uh 1 (upd (uh.2.1 1) x1.toNatClampNeg r_10) →
      post r_8 uh_12))) ∧ ((r_5 = 0) →
      post (-1) uh)))))
def wp_X7_now (uf : Ob) (uh : Ob) (x1 : Int32) (x2 : Int32) (post : Int32 → Prop) : Prop :=
  ((¬ x2 = (-2)) →
    wp_X7_isAmong x1 2 (fun (r_2 : Int32) =>
    ((¬ r_2 = 0) →
      vp_in x1 2 ∧
      wp_X6_size (uh.2.1 1 x1.toNatClampNeg) (fun (r_5 : Int32) =>
      ((¬ x2 = (-1)) →
        wp_X7_isAmong x2 r_5 (fun (r_7 : Int32) =>
        ((r_7 = 0) →
          post (-1)) ∧ ((¬ r_7 = 0) →
          vp_in x1 2 ∧
          wp_X6_at (uh.2.1 1 x1.toNatClampNeg) x2 (fun (r_10 : Int32) =>
          post r_10)))) ∧ ((x2 = (-1)) →
        post r_5))) ∧ ((r_2 = 0) →
      post (-1)))) ∧ ((x2 = (-2)) →
    post (uh.1 0))
def wp_X7_reset (uf : Ob) (uh : Ob) (post : Int32 → Ob → Prop) : Prop :=
  wp_X1_clear uh 0 (fun (uh_1 : Ob) =>
  post 1 uh_1)
def wp_X7_aim (uf : Ob) (um : Ob) (ug : Ob) (x1 : Int32) (post : Int32 → Ob → Ob → Prop) : Prop :=
  wp_X7_isAmong x1 (um.1 0) (fun (r_1 : Int32) =>
  ((¬ r_1 = 0) →
    wp_X1_clear ug x1 (fun (ug_3 : Ob) =>
    ∀ uf_4 : Ob, uf_4 = fs_i uf 7 0 →
    post 1 uf_4 ug_3)) ∧ ((r_1 = 0) →
    post (-1) uf ug))
def wp_X7_want (uf : Ob) (um : Ob) (ug : Ob) (x1 : Int32) (x2 : Int32) (post : Int32 → Ob → Ob → Prop) : Prop :=
  wp_X7_isAmong x1 2 (fun (r_1 : Int32) =>
  ((r_1 = 0) →
    post (-1) uf ug) ∧ ((¬ r_1 = 0) →
    wp_X7_isAmong x2 3 (fun (r_3 : Int32) =>
    ((¬ r_3 = 0) →
      vp_in x1 2 ∧
      wp_X6_size (ug.2.1 1 x1.toNatClampNeg) (fun (r_6 : Int32) =>
      ((r_6 < 10) →
        vp_in x1 2 ∧
        wp_X0_wordWith um x1 (ug.2.1 1 x1.toNatClampNeg) x2 (fun (r_9 : Int32) =>
        vp_in x1 2 ∧ ∀ ug_11 : Ob, ug_11 = fs_a ug 1 (upd (ug.2.1 1) x1.toNatClampNeg r_9) →
        ∀ uf_12 : Ob, uf_12 = fs_i uf 7 0 →
        post (r_6 + 1) uf_12 ug_11)) ∧ ((¬ r_6 < 10) →
        post (-3) uf ug))) ∧ ((r_3 = 0) →
      post (-1) uf ug))))
def wp_X7_searchOnce (uf : Ob) (um : Ob) (ug : Ob) (ur : Ob) (post : Ob → Ob → Prop) : Prop :=
  ((¬ (uf.1 7) = 0) →
    post uf ur) ∧ (((uf.1 7) = 0) →
    wp_X2_run ur um ug (fun (ur_2 : Ob) =>
    ∀ uf_3 : Ob, uf_3 = fs_i uf 7 1 →
    post uf_3 ur_2))
def wp_X7_found (uf : Ob) (um : Ob) (ug : Ob) (ur : Ob) (post : Int32 → Ob → Ob → Prop) : Prop :=
  wp_X7_searchOnce uf um ug ur (fun (uf_1 : Ob) (ur_2 : Ob) =>
  (((ur_2.1 1) = 0) →
    post (ur_2.1 0) uf_1 ur_2) ∧ ((¬ (ur_2.1 1) = 0) →
    post (-3) uf_1 ur_2))
def wp_X7_about (uf : Ob) (um : Ob) (ug : Ob) (ur : Ob) (x1 : Int32) (x2 : Int32) (post : Int32 → Ob → Ob → Prop) : Prop :=
  ((x1 < 0) →
    post (-1) uf ur) ∧ ((¬ x1 < 0) →
    ((x2 < 0) →
      post (-1) uf ur) ∧ ((¬ x2 < 0) →
      ((x2 ≤ 6) →
        wp_X7_searchOnce uf um ug ur (fun (uf_4 : Ob) (ur_5 : Ob) =>
        (((ur_5.1 1) = 0) →
          (((ur_5.1 0) ≤ x1) →
            post (-1) uf_4 ur_5) ∧ ((¬ (ur_5.1 0) ≤ x1) →
            wp_X2_fact ur_5 x1 x2 (fun (r_8 : Int32) =>
            post r_8 uf_4 ur_5))) ∧ ((¬ (ur_5.1 1) = 0) →
          post (-3) uf_4 ur_5))) ∧ ((¬ x2 ≤ 6) →
        post (-1) uf ur)))
def wp_X7_letter (uf : Ob) (um : Ob) (ug : Ob) (ur : Ob) (x1 : Int32) (x2 : Int32) (x3 : Int32) (post : Int32 → Ob → Ob → Prop) : Prop :=
  ((x1 < 0) →
    post (-1) uf ur) ∧ ((¬ x1 < 0) →
    ((x3 < 0) →
      post (-1) uf ur) ∧ ((¬ x3 < 0) →
      wp_X7_isAmong x2 2 (fun (r_3 : Int32) =>
      ((¬ r_3 = 0) →
        wp_X7_searchOnce uf um ug ur (fun (uf_5 : Ob) (ur_6 : Ob) =>
        (((ur_6.1 1) = 0) →
          ((x1 < (ur_6.1 0)) →
            wp_X2_wordOf ur_6 x1 x2 (fun (r_9 : Int32) =>
            wp_X6_size r_9 (fun (r_10 : Int32) =>
            ((r_10 ≤ x3) →
              post (-1) uf_5 ur_6) ∧ ((¬ r_10 ≤ x3) →
              wp_X6_at r_9 x3 (fun (r_12 : Int32) =>
              post r_12 uf_5 ur_6))))) ∧ ((¬ x1 < (ur_6.1 0)) →
            post (-1) uf_5 ur_6)) ∧ ((¬ (ur_6.1 1) = 0) →
          post (-3) uf_5 ur_6))) ∧ ((r_3 = 0) →
        post (-1) uf ur))))
def wp_X7_least (uf : Ob) (um : Ob) (ug : Ob) (ur : Ob) (post : Int32 → Ob → Ob → Prop) : Prop :=
  wp_X7_searchOnce uf um ug ur (fun (uf_1 : Ob) (ur_2 : Ob) =>
  (((ur_2.1 1) = 0) →
    wp_X2_countLeast ur_2 (fun (r_4 : Int32) =>
    post r_4 uf_1 ur_2)) ∧ ((¬ (ur_2.1 1) = 0) →
    post (-3) uf_1 ur_2))
def wp_X7_far (uf : Ob) (um : Ob) (uh : Ob) (ug : Ob) (ur : Ob) (post : Int32 → Ob → Ob → Prop) : Prop :=
  wp_X7_searchOnce uf um ug ur (fun (uf_1 : Ob) (ur_2 : Ob) =>
  (((ur_2.1 1) = 0) →
    vp_in 0 2 ∧
    vp_in 1 2 ∧
    wp_X2_firstBelow ur_2 (uh.1 0) (uh.2.1 1 (0 : Int32).toNatClampNeg) (uh.2.1 1 (1 : Int32).toNatClampNeg) (fun (r_6 : Int32) =>
    (((0 : Int32) ≤ r_6) →
      vp_in r_6 80 ∧
      post (ur_2.2.1 2 r_6.toNatClampNeg) uf_1 ur_2) ∧ ((¬ (0 : Int32) ≤ r_6) →
      post (-4) uf_1 ur_2))) ∧ ((¬ (ur_2.1 1) = 0) →
    post (-3) uf_1 ur_2))
def wp_X7_way (uf : Ob) (um : Ob) (uh : Ob) (ug : Ob) (ur : Ob) (x1 : Int32) (post : Int32 → Ob → Ob → Prop) : Prop :=
  (((0 : Int32) ≤ x1) →
    wp_X7_searchOnce uf um ug ur (fun (uf_2 : Ob) (ur_3 : Ob) =>
    (((ur_3.1 1) = 0) →
      vp_in 0 2 ∧
      vp_in 1 2 ∧
      wp_X2_firstBelow ur_3 (uh.1 0) (uh.2.1 1 (0 : Int32).toNatClampNeg) (uh.2.1 1 (1 : Int32).toNatClampNeg) (fun (r_7 : Int32) =>
      (((0 : Int32) ≤ r_7) →
        vp_in r_7 80 ∧
        (((ur_3.2.1 2 r_7.toNatClampNeg) ≤ x1) →
          post (-1) uf_2 ur_3) ∧ ((¬ (ur_3.2.1 2 r_7.toNatClampNeg) ≤ x1) →
          wp_X2_arcOfWay ur_3 r_7 x1 (fun (r_11 : Int32) =>
          post r_11 uf_2 ur_3))) ∧ ((¬ (0 : Int32) ≤ r_7) →
        post (-4) uf_2 ur_3))) ∧ ((¬ (ur_3.1 1) = 0) →
      post (-3) uf_2 ur_3))) ∧ ((¬ (0 : Int32) ≤ x1) →
    post (-1) uf ur)
def wp_X7_strict (uf : Ob) (um : Ob) (uh : Ob) (ug : Ob) (uw : Ob) (x1 : Int32) (post : Int32 → Ob → Prop) : Prop :=
  ((x1 < 0) →
    post (-1) uw) ∧ ((¬ x1 < 0) →
    ((x1 ≤ 3) →
      wp_X1_isLonger uh x1 (fun (r_3 : Int32) =>
      ((¬ r_3 = 0) →
        post (-2) uw) ∧ ((r_3 = 0) →
        wp_X1_isLonger ug x1 (fun (r_5 : Int32) =>
        ((r_5 = 0) →
          wp_X5_fewest uw um uh ug x1 (fun (r_7 : Int32) (uw_8 : Ob) =>
          post r_7 uw_8)) ∧ ((¬ r_5 = 0) →
          post (-2) uw))))) ∧ ((¬ x1 ≤ 3) →
      post (-1) uw))
def wp_X7_sheet (uf : Ob) (ux : Ob) (uy : Ob) (x1 : Int32) (x2 : Int32) (x3 : Int32) (post : Int32 → Ob → Ob → Prop) : Prop :=
  wp_X7_isAmong x1 2 (fun (r_1 : Int32) =>
  ((r_1 = 0) →
    post (-1) ux uy) ∧ ((¬ r_1 = 0) →
    wp_X7_isAmong x2 2 (fun (r_3 : Int32) =>
    ((r_3 = 0) →
      post (-1) ux uy) ∧ ((¬ r_3 = 0) →
      ((x3 ≤ 60) →
        (((0 : Int32) ≤ x3) →
          vp_in x1 2 ∧ (x1 = 0 →
            wp_X3_hold ux x2 x3 (fun (ux_8 : Ob) =>
            post x3 ux_8 uy)) ∧ (x1 = 1 →
            wp_X3_hold uy x2 x3 (fun (uy_9 : Ob) =>
            post x3 ux uy_9))) ∧ ((¬ (0 : Int32) ≤ x3) →
          post (-14) ux uy)) ∧ ((¬ x3 ≤ 60) →
        post (-1) ux uy)))))
def wp_X7_drop (uf : Ob) (ux : Ob) (uy : Ob) (x1 : Int32) (post : Int32 → Ob → Ob → Prop) : Prop :=
  wp_X7_isAmong x1 2 (fun (r_1 : Int32) =>
  ((¬ r_1 = 0) →
    vp_in x1 2 ∧ (x1 = 0 →
      ((¬ (ux.1 0) = 0) →
        vp_in x1 2 ∧
        ∀ ux_6 : Ob, ux_6 = fs_i ux 0 0 →
        vp_in x1 2 ∧
        post (ux_6.1 1) ux_6 uy) ∧ (((ux.1 0) = 0) →
        post (-11) ux uy)) ∧ (x1 = 1 →
      ((¬ (uy.1 0) = 0) →
        vp_in x1 2 ∧
        ∀ uy_10 : Ob, uy_10 = fs_i uy 0 0 →
        vp_in x1 2 ∧
        post (uy_10.1 1) ux uy_10) ∧ (((uy.1 0) = 0) →
        post (-11) ux uy))) ∧ ((r_1 = 0) →
    post (-1) ux uy))
def wp_X7_item (uf : Ob) (ux : Ob) (uy : Ob) (x1 : Int32) (x2 : Int32) (x3 : Int32) (x4 : Int32) (post : Int32 → Ob → Ob → Prop) : Prop :=
  wp_X7_isAmong x1 2 (fun (r_1 : Int32) =>
  ((r_1 = 0) →
    post (-1) ux uy) ∧ ((¬ r_1 = 0) →
    wp_X7_isAmong x2 2 (fun (r_3 : Int32) =>
    ((¬ r_3 = 0) →
      vp_in x1 2 ∧ (x1 = 0 →
        wp_X3_faultAs ux x2 (fun (r_6 : Int32) =>
        ((r_6 = 0) →
          wp_X7_isAmong x3 (ux.1 1) (fun (r_8 : Int32) =>
          ((¬ r_8 = 0) →
            wp_X3_put ux x3 x4 (fun (ux_10 : Ob) =>
            post 1 ux_10 uy)) ∧ ((r_8 = 0) →
            post (-13) ux uy))) ∧ ((¬ r_6 = 0) →
          post r_6 ux uy))) ∧ (x1 = 1 →
        wp_X3_faultAs uy x2 (fun (r_11 : Int32) =>
        ((r_11 = 0) →
          wp_X7_isAmong x3 (uy.1 1) (fun (r_13 : Int32) =>
          ((¬ r_13 = 0) →
            wp_X3_put uy x3 x4 (fun (uy_15 : Ob) =>
            post 1 ux uy_15)) ∧ ((r_13 = 0) →
            post (-13) ux uy))) ∧ ((¬ r_11 = 0) →
          post r_11 ux uy)))) ∧ ((r_3 = 0) →
      post (-1) ux uy))))
def wp_X8_in (x1 : Int32) (x2 : Int32) (x3 : Int32) (post : Int32 → Prop) : Prop :=
  ((x1 < x2) →
    post 0) ∧ ((¬ x1 < x2) →
    ((x3 < x1) →
      post 0) ∧ ((¬ x3 < x1) →
      post 1))
def wp_X8_empty (u : Ob) (x1 : Int32) (x2 : Int32) (post : Ob → Prop) : Prop :=
  vp_in x1 83 ∧ ∀ u_2 : Ob, u_2 = fs_a u 13 (upd (u.2.1 13) x1.toNatClampNeg x2) →
  vp_in (2 * x1) 166 ∧ ∀ u_4 : Ob, u_4 = fs_a u_2 14 (upd (u_2.2.1 14) (2 * x1).toNatClampNeg 0) →
  vp_in ((2 * x1) + 1) 166 ∧ ∀ u_6 : Ob, u_6 = fs_a u_4 14 (upd (u_4.2.1 14) ((2 * x1) + 1).toNatClampNeg 0) →
  post u_6
def wp_X8_states (u : Ob) (x1 : Int32) (post : Int32 → Ob → Prop) : Prop :=
  wp_X8_in x1 1 8 (fun (r_1 : Int32) =>
  ((¬ r_1 = 0) →
    ∀ u_3 : Ob, u_3 = fs_i u 0 x1 →
    ∀ u_4 : Ob, u_4 = fs_i u_3 2 0 →
    wp_X8_empty u_4 81 0 (fun (u_5 : Ob) =>
    wp_X8_empty u_5 82 0 (fun (u_6 : Ob) =>
    post (u.1 0) u_6))) ∧ ((r_1 = 0) →
    post (-1) u))
def wp_X8_bag (u : Ob) (x1 : Int32) (x2 : Int32) (post : Int32 → Ob → Prop) : Prop :=
  wp_X8_in x1 0 1 (fun (r_1 : Int32) =>
  ((¬ r_1 = 0) →
    vp_in x1 2 ∧
    vp_in x1 2 ∧ ∀ u_5 : Ob, u_5 = fs_a u 1 (upd (u.2.1 1) x1.toNatClampNeg (vp_nar .boolean x2)) →
    wp_X8_empty u_5 81 0 (fun (u_6 : Ob) =>
    wp_X8_empty u_6 82 0 (fun (u_7 : Ob) =>
    (((u.2.1 1 x1.toNatClampNeg) = 0) →
      post 0 u_7) ∧ ((¬ (u.2.1 1 x1.toNatClampNeg) = 0) →
      post 1 u_7)))) ∧ ((r_1 = 0) →
    post (-1) u))
def wp_X8_isState (u : Ob) (x1 : Int32) (post : Int32 → Prop) : Prop :=
  wp_X8_in x1 0 ((u.1 0) - 1) (fun (r_1 : Int32) =>
  zb r_1 ∧ post r_1)
def wp_X8_isGood (u : Ob) (x1 : Int32) (x2 : Int32) (x3 : Int32) (x4 : Int32) (x5 : Int32) (post : Int32 → Prop) : Prop :=
  wp_X8_isState u x1 (fun (r_1 : Int32) =>
  jn (fun (w_3 : Int32) =>
    ((w_3 = 0) →
      post 0) ∧ ((¬ w_3 = 0) →
      ((x2 = 0) →
        post 1) ∧ ((¬ x2 = 0) →
        wp_X8_in x3 0 1 (fun (r_6 : Int32) =>
        ((r_6 = 0) →
          post 0) ∧ ((¬ r_6 = 0) →
          wp_X8_in x4 0 2 (fun (r_8 : Int32) =>
          ((r_8 = 0) →
            post 0) ∧ ((¬ r_8 = 0) →
            post 1))))))) (fun (JJ_2 : Int32 → Prop) =>
    ((r_1 = 0) →
      JJ_2 0) ∧ ((¬ r_1 = 0) →
      wp_X8_isState u x5 (fun (r_11 : Int32) =>
      ((r_11 = 0) →
        JJ_2 0) ∧ ((¬ r_11 = 0) →
        wp_X8_in x2 0 2 (fun (r_13 : Int32) =>
        ((r_13 = 0) →
          JJ_2 0) ∧ ((¬ r_13 = 0) →
          JJ_2 1)))))))
def wp_X8_put (u : Ob) (x1 : Int32) (x2 : Int32) (x3 : Int32) (x4 : Int32) (x5 : Int32) (post : Ob → Prop) : Prop :=
  vp_in (u.1 2) 20 ∧ ∀ u_2 : Ob, u_2 = fs_a u 3 (upd (u.2.1 3) (u.1 2).toNatClampNeg x1) →
  vp_in (u_2.1 2) 20 ∧ ∀ u_4 : Ob, u_4 = fs_a u_2 4 (upd (u_2.2.1 4) (u_2.1 2).toNatClampNeg x2) →
  jn (fun (w_6 : Int32) =>
    vp_in (u_4.1 2) 20 ∧ ∀ u_8 : Ob, u_8 = fs_a u_4 5 (upd (u_4.2.1 5) (u_4.1 2).toNatClampNeg w_6) →
    jn (fun (w_10 : Int32) =>
      vp_in (u_8.1 2) 20 ∧ ∀ u_12 : Ob, u_12 = fs_a u_8 6 (upd (u_8.2.1 6) (u_8.1 2).toNatClampNeg w_10) →
      vp_in (u_12.1 2) 20 ∧ ∀ u_14 : Ob, u_14 = fs_a u_12 7 (upd (u_12.2.1 7) (u_12.1 2).toNatClampNeg x5) →
      ∀ u_15 : Ob, u_15 = fs_i u_14 2 ((u_14.1 2) + 1) →
      wp_X8_empty u_15 82 0 (fun (u_16 : Ob) =>
      post u_16)) (fun (JJ_9 : Int32 → Prop) =>
      ((¬ x2 = 0) →
        JJ_9 x4) ∧ ((x2 = 0) →
        JJ_9 0))) (fun (JJ_5 : Int32 → Prop) =>
    ((¬ x2 = 0) →
      JJ_5 x3) ∧ ((x2 = 0) →
      JJ_5 0))
def wp_X8_arc (u : Ob) (x1 : Int32) (x2 : Int32) (x3 : Int32) (x4 : Int32) (x5 : Int32) (post : Int32 → Ob → Prop) : Prop :=
  wp_X8_isGood u x1 x2 x3 x4 x5 (fun (r_1 : Int32) =>
  ((¬ r_1 = 0) →
    ((¬ (u.1 2) = 20) →
      wp_X8_put u x1 x2 x3 x4 x5 (fun (u_4 : Ob) =>
      post ((u_4.1 2) - 1) u_4)) ∧ (((u.1 2) = 20) →
      post (-3) u)) ∧ ((r_1 = 0) →
    post (-1) u))
def wp_X8_unarc (u : Ob) (post : Int32 → Ob → Prop) : Prop :=
  ((¬ (u.1 2) = 0) →
    ∀ u_2 : Ob, u_2 = fs_i u 2 ((u.1 2) - 1) →
    wp_X8_empty u_2 82 0 (fun (u_3 : Ob) =>
    post (u_3.1 2) u_3)) ∧ (((u.1 2) = 0) →
    post (-2) u)
def wp_X8_isArc (u : Ob) (x1 : Int32) (post : Int32 → Prop) : Prop :=
  wp_X8_in x1 0 ((u.1 2) - 1) (fun (r_1 : Int32) =>
  zb r_1 ∧ post r_1)
def wp_X8_told (u : Ob) (x1 : Int32) (x2 : Int32) (post : Int32 → Prop) : Prop :=
  wp_X8_isArc u x1 (fun (r_1 : Int32) =>
  ((r_1 = 0) →
    post (-1)) ∧ ((¬ r_1 = 0) →
    wp_X8_in x2 0 4 (fun (r_3 : Int32) =>
    ((¬ r_3 = 0) →
      ((¬ x2 = 0) →
        ((¬ x2 = 1) →
          ((¬ x2 = 2) →
            ((¬ x2 = 3) →
              vp_in x1 20 ∧
              post (u.2.1 7 x1.toNatClampNeg)) ∧ ((x2 = 3) →
              vp_in x1 20 ∧
              post (u.2.1 6 x1.toNatClampNeg))) ∧ ((x2 = 2) →
            vp_in x1 20 ∧
            post (u.2.1 5 x1.toNatClampNeg))) ∧ ((x2 = 1) →
          vp_in x1 20 ∧
          post (u.2.1 4 x1.toNatClampNeg))) ∧ ((x2 = 0) →
        vp_in x1 20 ∧
        post (u.2.1 3 x1.toNatClampNeg))) ∧ ((r_3 = 0) →
      post (-1)))))
def wp_X8_type (u : Ob) (x1 : Int64) (x2 : Int32) (post : Int32 → Ob → Prop) : Prop :=
  wp_X8_in x2 1 8 (fun (r_1 : Int32) =>
  ((¬ r_1 = 0) →
    ∃ n : Nat, lq1 (fun (LL_3 : Int32 → Prop) (v4_4 : Int32) =>
      ((x2 ≤ v4_4) →
        ((((u.1 9) + x2) ≤ 130) →
          ∃ n : Nat, lq2 (fun (LL_7 : Int32 → Ob → Prop) (v4_8 : Int32) (u_9 : Ob) =>
            ((v4_8 < 0) →
              post (u_9.1 9) u_9) ∧ ((¬ v4_8 < 0) →
              vp_in (u_9.1 9) 130 ∧ ∀ u_12 : Ob, u_12 = fs_a u_9 8 (upd (u_9.2.1 8) (u_9.1 9).toNatClampNeg (Int64.toInt32 ((j_lshr x1 (8 * v4_8)) &&& 255))) →
              ∀ u_13 : Ob, u_13 = fs_i u_12 9 ((u_12.1 9) + 1) →
              LL_7 (v4_8 + (-1)) u_13)) n (x2 - 1) u) ∧ ((¬ ((u.1 9) + x2) ≤ 130) →
          post (-3) u)) ∧ ((¬ x2 ≤ v4_4) →
        wp_X8_in (Int64.toInt32 ((j_lshr x1 (8 * v4_4)) &&& 255)) 32 126 (fun (r_15 : Int32) =>
        ((¬ r_15 = 0) →
          LL_3 (v4_4 + 1)) ∧ ((r_15 = 0) →
          post (-1) u)))) n 0) ∧ ((r_1 = 0) →
    post (-1) u))
def wp_X8_next (u : Ob) (post : Int32 → Ob → Prop) : Prop :=
  ∃ n : Nat, lq1 (fun (LL_1 : Ob → Prop) (u_2 : Ob) =>
    jn (  (((u_2.1 9) ≤ (u_2.1 10)) →
        post 0 u_2) ∧ ((¬ (u_2.1 9) ≤ (u_2.1 10)) →
        vp_in (u_2.1 10) 130 ∧
        post (u_2.2.1 8 (u_2.1 10).toNatClampNeg) u_2)) (fun (JJ_3 : Prop) =>
      (((u_2.1 9) ≤ (u_2.1 10)) →
        JJ_3) ∧ ((¬ (u_2.1 9) ≤ (u_2.1 10)) →
        vp_in (u_2.1 10) 130 ∧
        ((¬ (u_2.2.1 8 (u_2.1 10).toNatClampNeg) = 32) →
          JJ_3) ∧ (((u_2.2.1 8 (u_2.1 10).toNatClampNeg) = 32) →
          ∀ u_9 : Ob, u_9 = fs_i u_2 10 ((u_2.1 10) + 1) →
          LL_1 u_9)))) n u
def wp_X8_passed (u : Ob) (x1 : Int32) (x2 : Int32) (post : Int32 → Ob → Prop) : Prop :=
  wp_X8_next u (fun (r_1 : Int32) (u_2 : Ob) =>
  jn (  ∀ u_4 : Ob, u_4 = fs_i u_2 11 1 →
    post 0 u_4) (fun (JJ_3 : Prop) =>
    ((¬ (u_2.1 11) = 0) →
      JJ_3) ∧ (((u_2.1 11) = 0) →
      wp_X8_in (r_1 - x1) 0 (x2 - 1) (fun (r_6 : Int32) =>
      ((¬ r_6 = 0) →
        ∀ u_8 : Ob, u_8 = fs_i u_2 10 ((u_2.1 10) + 1) →
        post (r_1 - x1) u_8) ∧ ((r_6 = 0) →
        JJ_3)))))
def wp_X8_act (u : Ob) (post : Int32 → Ob → Prop) : Prop :=
  wp_X8_next u (fun (r_1 : Int32) (u_2 : Ob) =>
  jn (fun (w_4 : Int32) =>
    jn (  ∀ u_6 : Ob, u_6 = fs_i u_2 11 1 →
      post 0 u_6) (fun (JJ_5 : Prop) =>
      ((¬ (u_2.1 11) = 0) →
        JJ_5) ∧ (((u_2.1 11) = 0) →
        (((0 : Int32) ≤ w_4) →
          ∀ u_9 : Ob, u_9 = fs_i u_2 10 ((u_2.1 10) + 1) →
          post w_4 u_9) ∧ ((¬ (0 : Int32) ≤ w_4) →
          JJ_5)))) (fun (JJ_3 : Int32 → Prop) =>
    ((¬ r_1 = 45) →
      ((¬ r_1 = 33) →
        ((¬ r_1 = 63) →
          JJ_3 (-1)) ∧ ((r_1 = 63) →
          JJ_3 2)) ∧ ((r_1 = 33) →
        JJ_3 1)) ∧ ((r_1 = 45) →
      JJ_3 0)))
def wp_X8_read (u : Ob) (post : Int32 → Ob → Prop) : Prop :=
  ∀ u_1 : Ob, u_1 = fs_i u 10 0 →
  ∀ u_2 : Ob, u_2 = fs_i u_1 11 0 →
  ∃ n : Nat, lq3 (fun (LL_3 : Int32 → Int32 → Ob → Prop) (v2_4 : Int32) (v1_5 : Int32) (u_6 : Ob) =>
    ((v2_4 = 0) →
      jn (fun (w_9 : Int32) (u_10 : Ob) =>
        ∀ u_11 : Ob, u_11 = fs_i u_10 9 0 →
        ((w_9 = 0) →
          ∀ u_13 : Ob, u_13 = fs_i u_11 2 0 →
          ∃ n : Nat, lq2 (fun (LL_14 : Int32 → Ob → Prop) (v5_15 : Int32) (u_16 : Ob) =>
            ((v1_5 ≤ v5_15) →
              post v1_5 u_16) ∧ ((¬ v1_5 ≤ v5_15) →
              vp_in (5 * v5_15) 100 ∧
              vp_in ((5 * v5_15) + 1) 100 ∧
              vp_in ((5 * v5_15) + 2) 100 ∧
              vp_in ((5 * v5_15) + 3) 100 ∧
              vp_in ((5 * v5_15) + 4) 100 ∧
              wp_X8_put u_16 (u_16.2.1 12 (5 * v5_15).toNatClampNeg) (u_16.2.1 12 ((5 * v5_15) + 1).toNatClampNeg) (u_16.2.1 12 ((5 * v5_15) + 2).toNatClampNeg) (u_16.2.1 12 ((5 * v5_15) + 3).toNatClampNeg) (u_16.2.1 12 ((5 * v5_15) + 4).toNatClampNeg) (fun (u_23 : Ob) =>
              LL_14 (v5_15 + 1) u_23))) n 0 u_13) ∧ ((¬ w_9 = 0) →
          post ((-20) - (u_10.1 10)) u_11)) (fun (JJ_8 : Int32 → Ob → Prop) =>
        (((u_6.1 11) = 0) →
          wp_X8_next u_6 (fun (r_26 : Int32) (u_27 : Ob) =>
          JJ_8 r_26 u_27)) ∧ ((¬ (u_6.1 11) = 0) →
          JJ_8 1 u_6))) ∧ ((¬ v2_4 = 0) →
      wp_X8_passed u_6 48 (u_6.1 0) (fun (r_28 : Int32) (u_29 : Ob) =>
      vp_in (5 * v1_5) 100 ∧ ∀ u_31 : Ob, u_31 = fs_a u_29 12 (upd (u_29.2.1 12) (5 * v1_5).toNatClampNeg r_28) →
      wp_X8_act u_31 (fun (r_32 : Int32) (u_33 : Ob) =>
      vp_in ((5 * v1_5) + 1) 100 ∧ ∀ u_35 : Ob, u_35 = fs_a u_33 12 (upd (u_33.2.1 12) ((5 * v1_5) + 1).toNatClampNeg r_32) →
      jn (fun (w_37 : Int32) (u_38 : Ob) =>
        vp_in ((5 * v1_5) + 3) 100 ∧ ∀ u_40 : Ob, u_40 = fs_a u_38 12 (upd (u_38.2.1 12) ((5 * v1_5) + 3).toNatClampNeg w_37) →
        jn (fun (w_42 : Int32) (u_43 : Ob) =>
          vp_in ((5 * v1_5) + 2) 100 ∧ ∀ u_45 : Ob, u_45 = fs_a u_43 12 (upd (u_43.2.1 12) ((5 * v1_5) + 2).toNatClampNeg w_42) →
          wp_X8_passed u_45 48 (u_45.1 0) (fun (r_46 : Int32) (u_47 : Ob) =>
          vp_in ((5 * v1_5) + 4) 100 ∧ ∀ u_49 : Ob, u_49 = fs_a u_47 12 (upd (u_47.2.1 12) ((5 * v1_5) + 4).toNatClampNeg r_46) →
          jn (fun (w_51 : Int32) (u_52 : Ob) =>
            jn (fun (w_54 : Int32) =>
              ∀ u_55 : Ob, u_55 = fs_i u_52 10 ((u_52.1 10) + w_54) →
              LL_3 w_51 (v1_5 + 1) u_55) (fun (JJ_53 : Int32 → Prop) =>
              ((w_51 = 0) →
                JJ_53 0) ∧ ((¬ w_51 = 0) →
                JJ_53 1))) (fun (JJ_50 : Int32 → Ob → Prop) =>
            ((¬ (u_49.1 11) = 0) →
              JJ_50 0 u_49) ∧ (((u_49.1 11) = 0) →
              wp_X8_next u_49 (fun (r_58 : Int32) (u_59 : Ob) =>
              ((¬ r_58 = 59) →
                JJ_50 0 u_59) ∧ ((r_58 = 59) →
                (((20 : Int32) ≤ (v1_5 + 1)) →
                  JJ_50 0 u_59) ∧ ((¬ (20 : Int32) ≤ (v1_5 + 1)) →
                  JJ_50 1 u_59))))))) (fun (JJ_41 : Int32 → Ob → Prop) =>
          ((¬ r_32 = 0) →
            wp_X8_passed u_40 48 2 (fun (r_63 : Int32) (u_64 : Ob) =>
            JJ_41 r_63 u_64)) ∧ ((r_32 = 0) →
            JJ_41 0 u_40))) (fun (JJ_36 : Int32 → Ob → Prop) =>
        ((¬ r_32 = 0) →
          wp_X8_passed u_35 97 3 (fun (r_66 : Int32) (u_67 : Ob) =>
          JJ_36 r_66 u_67)) ∧ ((r_32 = 0) →
          JJ_36 0 u_35)))))) n 1 0 u_2
def wp_X8_spot (x1 : Int32) (x2 : Int32) (x3 : Int32) (post : Int32 → Prop) : Prop :=
  post (((22 * x1) + (11 * x2)) + x3)
def wp_X8_copy (u : Ob) (x1 : Int32) (x2 : Int32) (post : Ob → Prop) : Prop :=
  vp_in x1 83 ∧
  vp_in x2 83 ∧ ∀ u_3 : Ob, u_3 = fs_a u 13 (upd (u.2.1 13) x2.toNatClampNeg (u.2.1 13 x1.toNatClampNeg)) →
  ∃ n : Nat, lq2 (fun (LL_4 : Int32 → Ob → Prop) (v3_5 : Int32) (u_6 : Ob) =>
    (((2 : Int32) ≤ v3_5) →
      post u_6) ∧ ((¬ (2 : Int32) ≤ v3_5) →
      vp_in ((2 * x1) + v3_5) 166 ∧
      vp_in ((2 * x2) + v3_5) 166 ∧ ∀ u_10 : Ob, u_10 = fs_a u_6 14 (upd (u_6.2.1 14) ((2 * x2) + v3_5).toNatClampNeg (u_6.2.1 14 ((2 * x1) + v3_5).toNatClampNeg)) →
      ∃ n : Nat, lq2 (fun (LL_11 : Int32 → Ob → Prop) (v4_12 : Int32) (u_13 : Ob) =>
        vp_in ((2 * x1) + v3_5) 166 ∧
        (((u_13.2.1 14 ((2 * x1) + v3_5).toNatClampNeg) ≤ v4_12) →
          LL_4 (v3_5 + 1) u_13) ∧ ((¬ (u_13.2.1 14 ((2 * x1) + v3_5).toNatClampNeg) ≤ v4_12) →
          wp_X8_spot x2 v3_5 v4_12 (fun (r_16 : Int32) =>
          wp_X8_spot x1 v3_5 v4_12 (fun (r_17 : Int32) =>
          vp_in r_17 1826 ∧
          vp_in r_16 1826 ∧ ∀ u_20 : Ob, u_20 = fs_a u_13 15 (upd (u_13.2.1 15) r_16.toNatClampNeg (u_13.2.1 15 r_17.toNatClampNeg)) →
          LL_11 (v4_12 + 1) u_20)))) n 0 u_10)) n 0 u_3
def wp_X8_takeOut (u : Ob) (x1 : Int32) (x2 : Int32) (x3 : Int32) (post : Ob → Prop) : Prop :=
  vp_in ((2 * x1) + x2) 166 ∧
  vp_in ((2 * x1) + x2) 166 ∧ ∀ u_3 : Ob, u_3 = fs_a u 14 (upd (u.2.1 14) ((2 * x1) + x2).toNatClampNeg ((u.2.1 14 ((2 * x1) + x2).toNatClampNeg) - 1)) →
  ∃ n : Nat, lq2 (fun (LL_4 : Int32 → Ob → Prop) (v4_5 : Int32) (u_6 : Ob) =>
    vp_in ((2 * x1) + x2) 166 ∧
    (((u_6.2.1 14 ((2 * x1) + x2).toNatClampNeg) ≤ v4_5) →
      post u_6) ∧ ((¬ (u_6.2.1 14 ((2 * x1) + x2).toNatClampNeg) ≤ v4_5) →
      wp_X8_spot x1 x2 v4_5 (fun (r_9 : Int32) =>
      wp_X8_spot x1 x2 (v4_5 + 1) (fun (r_10 : Int32) =>
      vp_in r_10 1826 ∧
      vp_in r_9 1826 ∧ ∀ u_13 : Ob, u_13 = fs_a u_6 15 (upd (u_6.2.1 15) r_9.toNatClampNeg (u_6.2.1 15 r_10.toNatClampNeg)) →
      LL_4 (v4_5 + 1) u_13)))) n x3 u_3
def wp_X8_putIn (u : Ob) (x1 : Int32) (x2 : Int32) (x3 : Int32) (x4 : Int32) (post : Ob → Prop) : Prop :=
  vp_in ((2 * x1) + x2) 166 ∧
  ∃ n : Nat, lq2 (fun (LL_2 : Int32 → Ob → Prop) (v5_3 : Int32) (u_4 : Ob) =>
    ((v5_3 ≤ x3) →
      wp_X8_spot x1 x2 x3 (fun (r_6 : Int32) =>
      vp_in r_6 1826 ∧ ∀ u_8 : Ob, u_8 = fs_a u_4 15 (upd (u_4.2.1 15) r_6.toNatClampNeg x4) →
      vp_in ((2 * x1) + x2) 166 ∧
      vp_in ((2 * x1) + x2) 166 ∧ ∀ u_11 : Ob, u_11 = fs_a u_8 14 (upd (u_8.2.1 14) ((2 * x1) + x2).toNatClampNeg ((u_8.2.1 14 ((2 * x1) + x2).toNatClampNeg) + 1)) →
      post u_11)) ∧ ((¬ v5_3 ≤ x3) →
      wp_X8_spot x1 x2 v5_3 (fun (r_12 : Int32) =>
      wp_X8_spot x1 x2 (v5_3 - 1) (fun (r_13 : Int32) =>
      vp_in r_13 1826 ∧
      vp_in r_12 1826 ∧ ∀ u_16 : Ob, u_16 = fs_a u_4 15 (upd (u_4.2.1 15) r_12.toNatClampNeg (u_4.2.1 15 r_13.toNatClampNeg)) →
      LL_2 (v5_3 + (-1)) u_16)))) n (u.2.1 14 ((2 * x1) + x2).toNatClampNeg) u
def wp_X8_inOrder (u : Ob) (x1 : Int32) (x2 : Int32) (x3 : Int32) (post : Int32 → Prop) : Prop :=
  ∃ n : Nat, lq1 (fun (LL_1 : Int32 → Prop) (v4_2 : Int32) =>
    vp_in ((2 * x1) + x2) 166 ∧
    (((u.2.1 14 ((2 * x1) + x2).toNatClampNeg) ≤ v4_2) →
      post v4_2) ∧ ((¬ (u.2.1 14 ((2 * x1) + x2).toNatClampNeg) ≤ v4_2) →
      wp_X8_spot x1 x2 v4_2 (fun (r_5 : Int32) =>
      vp_in r_5 1826 ∧
      ((x3 < (u.2.1 15 r_5.toNatClampNeg)) →
        post v4_2) ∧ ((¬ x3 < (u.2.1 15 r_5.toNatClampNeg)) →
        LL_1 (v4_2 + 1))))) n 0
def wp_X8_firstOf (u : Ob) (x1 : Int32) (x2 : Int32) (x3 : Int32) (post : Int32 → Prop) : Prop :=
  ∃ n : Nat, lq1 (fun (LL_1 : Int32 → Prop) (v4_2 : Int32) =>
    vp_in ((2 * x1) + x2) 166 ∧
    (((u.2.1 14 ((2 * x1) + x2).toNatClampNeg) ≤ v4_2) →
      post (-1)) ∧ ((¬ (u.2.1 14 ((2 * x1) + x2).toNatClampNeg) ≤ v4_2) →
      wp_X8_spot x1 x2 v4_2 (fun (r_5 : Int32) =>
      vp_in r_5 1826 ∧
      ((¬ (u.2.1 15 r_5.toNatClampNeg) = x3) →
        LL_1 (v4_2 + 1)) ∧ (((u.2.1 15 r_5.toNatClampNeg) = x3) →
        post v4_2)))) n 0
def wp_X8_isBelow (u : Ob) (x1 : Int32) (x2 : Int32) (post : Int32 → Prop) : Prop :=
  vp_in x1 83 ∧
  vp_in x2 83 ∧
  jn (fun (w_4 : Int32) =>
    ∃ n : Nat, lq2 (fun (LL_5 : Int32 → Int32 → Prop) (v4_6 : Int32) (v3_7 : Int32) =>
      (((2 : Int32) ≤ v4_6) →
        zb v3_7 ∧ post v3_7) ∧ ((¬ (2 : Int32) ≤ v4_6) →
        ((v3_7 = 0) →
          zb v3_7 ∧ post v3_7) ∧ ((¬ v3_7 = 0) →
          ∃ n : Nat, lq2 (fun (LL_10 : Int32 → Int32 → Prop) (v6_11 : Int32) (v5_12 : Int32) =>
            vp_in ((2 * x2) + v4_6) 166 ∧
            jn (  vp_in ((2 * x1) + v4_6) 166 ∧
              jn (fun (w_17 : Int32) =>
                LL_5 (v4_6 + 1) w_17) (fun (JJ_16 : Int32 → Prop) =>
                ((¬ v5_12 = (u.2.1 14 ((2 * x1) + v4_6).toNatClampNeg)) →
                  JJ_16 0) ∧ ((v5_12 = (u.2.1 14 ((2 * x1) + v4_6).toNatClampNeg)) →
                  JJ_16 1))) (fun (JJ_14 : Prop) =>
              (((u.2.1 14 ((2 * x2) + v4_6).toNatClampNeg) ≤ v6_11) →
                JJ_14) ∧ ((¬ (u.2.1 14 ((2 * x2) + v4_6).toNatClampNeg) ≤ v6_11) →
                vp_in ((2 * x1) + v4_6) 166 ∧
                (((u.2.1 14 ((2 * x1) + v4_6).toNatClampNeg) ≤ v5_12) →
                  JJ_14) ∧ ((¬ (u.2.1 14 ((2 * x1) + v4_6).toNatClampNeg) ≤ v5_12) →
                  wp_X8_spot x2 v4_6 v6_11 (fun (r_22 : Int32) =>
                  vp_in r_22 1826 ∧
                  wp_X8_spot x1 v4_6 v5_12 (fun (r_24 : Int32) =>
                  vp_in r_24 1826 ∧
                  jn (fun (w_27 : Int32) =>
                    LL_10 (v6_11 + 1) (v5_12 + w_27)) (fun (JJ_26 : Int32 → Prop) =>
                    ((¬ (u.2.1 15 r_22.toNatClampNeg) = (u.2.1 15 r_24.toNatClampNeg)) →
                      JJ_26 0) ∧ (((u.2.1 15 r_22.toNatClampNeg) = (u.2.1 15 r_24.toNatClampNeg)) →
                      JJ_26 1)))))))) n 0 0))) n 0 w_4) (fun (JJ_3 : Int32 → Prop) =>
    ((¬ (u.2.1 13 x1.toNatClampNeg) = (u.2.1 13 x2.toNatClampNeg)) →
      JJ_3 0) ∧ (((u.2.1 13 x1.toNatClampNeg) = (u.2.1 13 x2.toNatClampNeg)) →
      JJ_3 1))
def wp_X8_go (u : Ob) (x1 : Int32) (post : Int32 → Ob → Prop) : Prop :=
  wp_X8_isArc u x1 (fun (r_1 : Int32) =>
  ((¬ r_1 = 0) →
    vp_in x1 20 ∧
    vp_in x1 20 ∧
    vp_in x1 20 ∧
    vp_in 82 83 ∧
    (((u.2.1 3 x1.toNatClampNeg) = (u.2.1 13 (82 : Int32).toNatClampNeg)) →
      vp_in x1 20 ∧
      jn (fun (u_10 : Ob) =>
        vp_in x1 20 ∧
        vp_in 82 83 ∧ ∀ u_13 : Ob, u_13 = fs_a u_10 13 (upd (u_10.2.1 13) (82 : Int32).toNatClampNeg (u_10.2.1 7 x1.toNatClampNeg)) →
        vp_in 82 83 ∧
        post (u_13.2.1 13 (82 : Int32).toNatClampNeg) u_13) (fun (JJ_9 : Ob → Prop) =>
        ((¬ (u.2.1 4 x1.toNatClampNeg) = 2) →
          vp_in x1 20 ∧
          ((¬ (u.2.1 4 x1.toNatClampNeg) = 1) →
            JJ_9 u) ∧ (((u.2.1 4 x1.toNatClampNeg) = 1) →
            vp_in (164 + (u.2.1 5 x1.toNatClampNeg)) 166 ∧
            ((¬ (u.2.1 14 (164 + (u.2.1 5 x1.toNatClampNeg)).toNatClampNeg) = 10) →
              vp_in (u.2.1 5 x1.toNatClampNeg) 2 ∧
              jn (fun (w_22 : Int32) =>
                wp_X8_putIn u 82 (u.2.1 5 x1.toNatClampNeg) w_22 (u.2.1 6 x1.toNatClampNeg) (fun (u_23 : Ob) =>
                JJ_9 u_23)) (fun (JJ_21 : Int32 → Prop) =>
                (((u.2.1 1 (u.2.1 5 x1.toNatClampNeg).toNatClampNeg) = 0) →
                  vp_in (164 + (u.2.1 5 x1.toNatClampNeg)) 166 ∧
                  JJ_21 (u.2.1 14 (164 + (u.2.1 5 x1.toNatClampNeg)).toNatClampNeg)) ∧ ((¬ (u.2.1 1 (u.2.1 5 x1.toNatClampNeg).toNatClampNeg) = 0) →
                  wp_X8_inOrder u 82 (u.2.1 5 x1.toNatClampNeg) (u.2.1 6 x1.toNatClampNeg) (fun (r_26 : Int32) =>
                  JJ_21 r_26)))) ∧ (((u.2.1 14 (164 + (u.2.1 5 x1.toNatClampNeg)).toNatClampNeg) = 10) →
              post (-3) u))) ∧ (((u.2.1 4 x1.toNatClampNeg) = 2) →
          wp_X8_firstOf u 82 (u.2.1 5 x1.toNatClampNeg) (u.2.1 6 x1.toNatClampNeg) (fun (r_27 : Int32) =>
          ((r_27 < 0) →
            post (-2) u) ∧ ((¬ r_27 < 0) →
            jn (  wp_X8_takeOut u 82 (u.2.1 5 x1.toNatClampNeg) r_27 (fun (u_30 : Ob) =>
              JJ_9 u_30)) (fun (JJ_29 : Prop) =>
              ((r_27 ≤ 0) →
                JJ_29) ∧ ((¬ r_27 ≤ 0) →
                vp_in (u.2.1 5 x1.toNatClampNeg) 2 ∧
                ((¬ (u.2.1 1 (u.2.1 5 x1.toNatClampNeg).toNatClampNeg) = 0) →
                  JJ_29) ∧ (((u.2.1 1 (u.2.1 5 x1.toNatClampNeg).toNatClampNeg) = 0) →
                  post (-2) u)))))))) ∧ ((¬ (u.2.1 3 x1.toNatClampNeg) = (u.2.1 13 (82 : Int32).toNatClampNeg)) →
      post (-2) u)) ∧ ((r_1 = 0) →
    post (-1) u))
def wp_X8_lose (u : Ob) (x1 : Int32) (x2 : Int32) (post : Int32 → Ob → Prop) : Prop :=
  wp_X8_in x1 0 1 (fun (r_1 : Int32) =>
  ((r_1 = 0) →
    post (-1) u) ∧ ((¬ r_1 = 0) →
    vp_in (164 + x1) 166 ∧
    wp_X8_in x2 0 ((u.2.1 14 (164 + x1).toNatClampNeg) - 1) (fun (r_4 : Int32) =>
    ((¬ r_4 = 0) →
      wp_X8_spot 82 x1 x2 (fun (r_6 : Int32) =>
      vp_in r_6 1826 ∧
      wp_X8_takeOut u 82 x1 x2 (fun (u_8 : Ob) =>
      post (u.2.1 15 r_6.toNatClampNeg) u_8))) ∧ ((r_4 = 0) →
      post (-1) u))))
def wp_X8_now (u : Ob) (x1 : Int32) (x2 : Int32) (post : Int32 → Prop) : Prop :=
  ((¬ x2 = (-2)) →
    wp_X8_in x1 0 1 (fun (r_2 : Int32) =>
    ((r_2 = 0) →
      post (-1)) ∧ ((¬ r_2 = 0) →
      vp_in (164 + x1) 166 ∧
      wp_X8_in x2 (-1) ((u.2.1 14 (164 + x1).toNatClampNeg) - 1) (fun (r_5 : Int32) =>
      ((¬ r_5 = 0) →
        ((¬ x2 = (-1)) →
          wp_X8_spot 82 x1 x2 (fun (r_8 : Int32) =>
          vp_in r_8 1826 ∧
          post (u.2.1 15 r_8.toNatClampNeg))) ∧ ((x2 = (-1)) →
          vp_in (164 + x1) 166 ∧
          post (u.2.1 14 (164 + x1).toNatClampNeg))) ∧ ((r_5 = 0) →
        post (-1)))))) ∧ ((x2 = (-2)) →
    vp_in 82 83 ∧
    post (u.2.1 13 (82 : Int32).toNatClampNeg))
def wp_X8_reset (u : Ob) (post : Int32 → Ob → Prop) : Prop :=
  wp_X8_empty u 82 0 (fun (u_1 : Ob) =>
  post 1 u_1)
def wp_X8_aim (u : Ob) (x1 : Int32) (post : Int32 → Ob → Prop) : Prop :=
  wp_X8_isState u x1 (fun (r_1 : Int32) =>
  ((¬ r_1 = 0) →
    wp_X8_empty u 81 x1 (fun (u_3 : Ob) =>
    post 1 u_3)) ∧ ((r_1 = 0) →
    post (-1) u))
def wp_X8_want (u : Ob) (x1 : Int32) (x2 : Int32) (post : Int32 → Ob → Prop) : Prop :=
  wp_X8_in x1 0 1 (fun (r_1 : Int32) =>
  ((r_1 = 0) →
    post (-1) u) ∧ ((¬ r_1 = 0) →
    wp_X8_in x2 0 2 (fun (r_3 : Int32) =>
    ((¬ r_3 = 0) →
      vp_in (162 + x1) 166 ∧
      ((¬ (u.2.1 14 (162 + x1).toNatClampNeg) = 10) →
        vp_in x1 2 ∧
        jn (fun (w_9 : Int32) =>
          wp_X8_putIn u 81 x1 w_9 x2 (fun (u_10 : Ob) =>
          vp_in (162 + x1) 166 ∧
          post (u_10.2.1 14 (162 + x1).toNatClampNeg) u_10)) (fun (JJ_8 : Int32 → Prop) =>
          (((u.2.1 1 x1.toNatClampNeg) = 0) →
            vp_in (162 + x1) 166 ∧
            JJ_8 (u.2.1 14 (162 + x1).toNatClampNeg)) ∧ ((¬ (u.2.1 1 x1.toNatClampNeg) = 0) →
            wp_X8_inOrder u 81 x1 x2 (fun (r_14 : Int32) =>
            JJ_8 r_14)))) ∧ (((u.2.1 14 (162 + x1).toNatClampNeg) = 10) →
        post (-3) u)) ∧ ((r_3 = 0) →
      post (-1) u))))
def wp_X8_ahead (u : Ob) (x1 : Int32) (x2 : Int32) (post : Ob → Prop) : Prop :=
  wp_X8_copy u x1 80 (fun (u_1 : Ob) =>
  vp_in x2 20 ∧
  vp_in 80 83 ∧ ∀ u_4 : Ob, u_4 = fs_a u_1 13 (upd (u_1.2.1 13) (80 : Int32).toNatClampNeg (u_1.2.1 3 x2.toNatClampNeg)) →
  vp_in x2 20 ∧
  vp_in x2 20 ∧
  vp_in (160 + (u_4.2.1 5 x2.toNatClampNeg)) 166 ∧
  vp_in x2 20 ∧
  ((¬ (u_4.2.1 4 x2.toNatClampNeg) = 2) →
    vp_in x2 20 ∧
    ((¬ (u_4.2.1 4 x2.toNatClampNeg) = 1) →
      post u_4) ∧ (((u_4.2.1 4 x2.toNatClampNeg) = 1) →
      vp_in (u_4.2.1 5 x2.toNatClampNeg) 2 ∧
      jn (fun (w_14 : Int32) =>
        ((w_14 < 0) →
          post u_4) ∧ ((¬ w_14 < 0) →
          wp_X8_takeOut u_4 80 (u_4.2.1 5 x2.toNatClampNeg) w_14 (fun (u_16 : Ob) =>
          post u_16))) (fun (JJ_13 : Int32 → Prop) =>
        (((u_4.2.1 1 (u_4.2.1 5 x2.toNatClampNeg).toNatClampNeg) = 0) →
          (((u_4.2.1 14 (160 + (u_4.2.1 5 x2.toNatClampNeg)).toNatClampNeg) ≤ 0) →
            JJ_13 (-1)) ∧ ((¬ (u_4.2.1 14 (160 + (u_4.2.1 5 x2.toNatClampNeg)).toNatClampNeg) ≤ 0) →
            wp_X8_spot 80 (u_4.2.1 5 x2.toNatClampNeg) ((u_4.2.1 14 (160 + (u_4.2.1 5 x2.toNatClampNeg)).toNatClampNeg) - 1) (fun (r_19 : Int32) =>
            vp_in r_19 1826 ∧
            ((¬ (u_4.2.1 15 r_19.toNatClampNeg) = (u_4.2.1 6 x2.toNatClampNeg)) →
              JJ_13 (-1)) ∧ (((u_4.2.1 15 r_19.toNatClampNeg) = (u_4.2.1 6 x2.toNatClampNeg)) →
              JJ_13 ((u_4.2.1 14 (160 + (u_4.2.1 5 x2.toNatClampNeg)).toNatClampNeg) - 1))))) ∧ ((¬ (u_4.2.1 1 (u_4.2.1 5 x2.toNatClampNeg).toNatClampNeg) = 0) →
          wp_X8_firstOf u_4 80 (u_4.2.1 5 x2.toNatClampNeg) (u_4.2.1 6 x2.toNatClampNeg) (fun (r_22 : Int32) =>
          JJ_13 r_22))))) ∧ (((u_4.2.1 4 x2.toNatClampNeg) = 2) →
    vp_in (u_4.2.1 5 x2.toNatClampNeg) 2 ∧
    jn (fun (w_25 : Int32) =>
      wp_X8_putIn u_4 80 (u_4.2.1 5 x2.toNatClampNeg) w_25 (u_4.2.1 6 x2.toNatClampNeg) (fun (u_26 : Ob) =>
      post u_26)) (fun (JJ_24 : Int32 → Prop) =>
      (((u_4.2.1 1 (u_4.2.1 5 x2.toNatClampNeg).toNatClampNeg) = 0) →
        JJ_24 0) ∧ ((¬ (u_4.2.1 1 (u_4.2.1 5 x2.toNatClampNeg).toNatClampNeg) = 0) →
        wp_X8_inOrder u_4 80 (u_4.2.1 5 x2.toNatClampNeg) (u_4.2.1 6 x2.toNatClampNeg) (fun (r_28 : Int32) =>
        JJ_24 r_28)))))
def wp_X8_isNew (u : Ob) (post : Int32 → Prop) : Prop :=
  ∃ n : Nat, lq2 (fun (LL_1 : Int32 → Int32 → Prop) (v2_2 : Int32) (v1_3 : Int32) =>
    (((u.1 16) ≤ v2_2) →
      zb v1_3 ∧ post v1_3) ∧ ((¬ (u.1 16) ≤ v2_2) →
      ((v1_3 = 0) →
        zb v1_3 ∧ post v1_3) ∧ ((¬ v1_3 = 0) →
        wp_X8_isBelow u v2_2 80 (fun (r_6 : Int32) =>
        jn (fun (w_8 : Int32) =>
          LL_1 (v2_2 + 1) w_8) (fun (JJ_7 : Int32 → Prop) =>
          ((¬ r_6 = 0) →
            JJ_7 0) ∧ ((r_6 = 0) →
            JJ_7 1)))))) n 0 1
def wp_X8_find (u : Ob) (x1 : Int32) (x2 : Int32) (x3 : Int32) (post : Ob → Prop) : Prop :=
  wp_X8_copy u 80 (u.1 16) (fun (u_1 : Ob) =>
  vp_in (u_1.1 16) 80 ∧ ∀ u_3 : Ob, u_3 = fs_a u_1 17 (upd (u_1.2.1 17) (u_1.1 16).toNatClampNeg x1) →
  vp_in (u_3.1 16) 80 ∧ ∀ u_5 : Ob, u_5 = fs_a u_3 18 (upd (u_3.2.1 18) (u_3.1 16).toNatClampNeg x2) →
  vp_in (u_5.1 16) 80 ∧ ∀ u_7 : Ob, u_7 = fs_a u_5 19 (upd (u_5.2.1 19) (u_5.1 16).toNatClampNeg x3) →
  ∀ u_8 : Ob, u_8 = fs_i u_7 16 ((u_7.1 16) + 1) →
  post u_8)
def wp_X8_search (u : Ob) (post : Int32 → Ob → Prop) : Prop :=
  ∀ u_1 : Ob, u_1 = fs_i u 16 0 →
  wp_X8_copy u_1 81 80 (fun (u_2 : Ob) =>
  wp_X8_find u_2 0 (-2) (-2) (fun (u_3 : Ob) =>
  ∃ n : Nat, lq2 (fun (LL_4 : Int32 → Ob → Prop) (v1_5 : Int32) (u_6 : Ob) =>
    (((u_6.1 16) ≤ v1_5) →
      post 1 u_6) ∧ ((¬ (u_6.1 16) ≤ v1_5) →
      ∃ n : Nat, lq2 (fun (LL_8 : Int32 → Ob → Prop) (v2_9 : Int32) (u_10 : Ob) =>
        (((u_10.1 2) ≤ v2_9) →
          LL_4 (v1_5 + 1) u_10) ∧ ((¬ (u_10.1 2) ≤ v2_9) →
          vp_in v2_9 20 ∧
          vp_in v1_5 83 ∧
          ((¬ (u_10.2.1 7 v2_9.toNatClampNeg) = (u_10.2.1 13 v1_5.toNatClampNeg)) →
            LL_8 (v2_9 + 1) u_10) ∧ (((u_10.2.1 7 v2_9.toNatClampNeg) = (u_10.2.1 13 v1_5.toNatClampNeg)) →
            wp_X8_ahead u_10 v1_5 v2_9 (fun (u_15 : Ob) =>
            wp_X8_isNew u_15 (fun (r_16 : Int32) =>
            ((r_16 = 0) →
              LL_8 (v2_9 + 1) u_15) ∧ ((¬ r_16 = 0) →
              vp_in 160 166 ∧
              (((10 : Int32) < (u_15.2.1 14 (160 : Int32).toNatClampNeg)) →
                post 0 u_15) ∧ ((¬ (10 : Int32) < (u_15.2.1 14 (160 : Int32).toNatClampNeg)) →
                vp_in 161 166 ∧
                (((10 : Int32) < (u_15.2.1 14 (161 : Int32).toNatClampNeg)) →
                  post 0 u_15) ∧ ((¬ (10 : Int32) < (u_15.2.1 14 (161 : Int32).toNatClampNeg)) →
                  ((¬ (u_15.1 16) = 80) →
                    vp_in v1_5 80 ∧
                    wp_X8_find u_15 ((u_15.2.1 17 v1_5.toNatClampNeg) + 1) v2_9 v1_5 (fun (u_24 : Ob) =>
                    LL_8 (v2_9 + 1) u_24)) ∧ (((u_15.1 16) = 80) →
                    post 0 u_15))))))))) n 0 u_6)) n 0 u_3))
def wp_X8_isLeast (u : Ob) (x1 : Int32) (post : Int32 → Prop) : Prop :=
  ∃ n : Nat, lq2 (fun (LL_1 : Int32 → Int32 → Prop) (v3_2 : Int32) (v2_3 : Int32) =>
    (((u.1 16) ≤ v3_2) →
      zb v2_3 ∧ post v2_3) ∧ ((¬ (u.1 16) ≤ v3_2) →
      ((v2_3 = 0) →
        zb v2_3 ∧ post v2_3) ∧ ((¬ v2_3 = 0) →
        jn (fun (w_7 : Int32) =>
          LL_1 (v3_2 + 1) w_7) (fun (JJ_6 : Int32 → Prop) =>
          ((v3_2 = x1) →
            JJ_6 1) ∧ ((¬ v3_2 = x1) →
            wp_X8_isBelow u v3_2 x1 (fun (r_9 : Int32) =>
            ((¬ r_9 = 0) →
              JJ_6 0) ∧ ((r_9 = 0) →
              JJ_6 1))))))) n 0 1
def wp_X8_found (u : Ob) (post : Int32 → Ob → Prop) : Prop :=
  wp_X8_search u (fun (r_1 : Int32) (u_2 : Ob) =>
  ((r_1 = 0) →
    post (-3) u_2) ∧ ((¬ r_1 = 0) →
    post (u_2.1 16) u_2))
def wp_X8_about (u : Ob) (x1 : Int32) (x2 : Int32) (post : Int32 → Ob → Prop) : Prop :=
  ((x1 < 0) →
    post (-1) u) ∧ ((¬ x1 < 0) →
    wp_X8_in x2 0 6 (fun (r_2 : Int32) =>
    ((¬ r_2 = 0) →
      wp_X8_search u (fun (r_4 : Int32) (u_5 : Ob) =>
      ((¬ r_4 = 0) →
        ((x1 < (u_5.1 16)) →
          (x2 = 0 →
            vp_in x1 83 ∧
            post (u_5.2.1 13 x1.toNatClampNeg) u_5) ∧ (¬ x2 = 0 →
            (x2 = 1 →
              vp_in x1 80 ∧
              post (u_5.2.1 17 x1.toNatClampNeg) u_5) ∧ (¬ x2 = 1 →
              (x2 = 2 →
                vp_in (((2 * x1) + x2) - 2) 166 ∧
                post (u_5.2.1 14 (((2 * x1) + x2) - 2).toNatClampNeg) u_5) ∧ (¬ x2 = 2 →
                (x2 = 3 →
                  vp_in (((2 * x1) + x2) - 2) 166 ∧
                  post (u_5.2.1 14 (((2 * x1) + x2) - 2).toNatClampNeg) u_5) ∧ (¬ x2 = 3 →
                  (x2 = 4 →
                    vp_in x1 80 ∧
                    post (u_5.2.1 18 x1.toNatClampNeg) u_5) ∧ (¬ x2 = 4 →
                    (x2 = 5 →
                      vp_in x1 80 ∧
                      post (u_5.2.1 19 x1.toNatClampNeg) u_5) ∧ (¬ x2 = 5 →
                      wp_X8_isLeast u_5 x1 (fun (r_20 : Int32) =>
                      ((r_20 = 0) →
                        post 0 u_5) ∧ ((¬ r_20 = 0) →
                        post 1 u_5))))))))) ∧ ((¬ x1 < (u_5.1 16)) →
          post (-1) u_5)) ∧ ((r_4 = 0) →
        post (-3) u_5))) ∧ ((r_2 = 0) →
      post (-1) u)))
def wp_X8_letter (u : Ob) (x1 : Int32) (x2 : Int32) (x3 : Int32) (post : Int32 → Ob → Prop) : Prop :=
  ((x1 < 0) →
    post (-1) u) ∧ ((¬ x1 < 0) →
    ((x3 < 0) →
      post (-1) u) ∧ ((¬ x3 < 0) →
      wp_X8_in x2 0 1 (fun (r_3 : Int32) =>
      ((¬ r_3 = 0) →
        wp_X8_search u (fun (r_5 : Int32) (u_6 : Ob) =>
        ((¬ r_5 = 0) →
          (((u_6.1 16) ≤ x1) →
            post (-1) u_6) ∧ ((¬ (u_6.1 16) ≤ x1) →
            vp_in ((2 * x1) + x2) 166 ∧
            (((u_6.2.1 14 ((2 * x1) + x2).toNatClampNeg) ≤ x3) →
              post (-1) u_6) ∧ ((¬ (u_6.2.1 14 ((2 * x1) + x2).toNatClampNeg) ≤ x3) →
              wp_X8_spot x1 x2 x3 (fun (r_11 : Int32) =>
              vp_in r_11 1826 ∧
              post (u_6.2.1 15 r_11.toNatClampNeg) u_6)))) ∧ ((r_5 = 0) →
          post (-3) u_6))) ∧ ((r_3 = 0) →
        post (-1) u))))
def wp_X8_least (u : Ob) (post : Int32 → Ob → Prop) : Prop :=
  wp_X8_search u (fun (r_1 : Int32) (u_2 : Ob) =>
  ((¬ r_1 = 0) →
    ∃ n : Nat, lq2 (fun (LL_4 : Int32 → Int32 → Prop) (v2_5 : Int32) (v1_6 : Int32) =>
      (((u_2.1 16) ≤ v2_5) →
        post v1_6 u_2) ∧ ((¬ (u_2.1 16) ≤ v2_5) →
        wp_X8_isLeast u_2 v2_5 (fun (r_8 : Int32) =>
        jn (fun (w_10 : Int32) =>
          LL_4 (v2_5 + 1) (v1_6 + w_10)) (fun (JJ_9 : Int32 → Prop) =>
          ((r_8 = 0) →
            JJ_9 0) ∧ ((¬ r_8 = 0) →
            JJ_9 1))))) n 0 0) ∧ ((r_1 = 0) →
    post (-3) u_2))
def wp_X8_nearest (u : Ob) (post : Int32 → Prop) : Prop :=
  ∃ n : Nat, lq1 (fun (LL_1 : Int32 → Prop) (v1_2 : Int32) =>
    (((u.1 16) ≤ v1_2) →
      post (-1)) ∧ ((¬ (u.1 16) ≤ v1_2) →
      wp_X8_isBelow u v1_2 82 (fun (r_4 : Int32) =>
      ((r_4 = 0) →
        LL_1 (v1_2 + 1)) ∧ ((¬ r_4 = 0) →
        post v1_2)))) n 0
def wp_X8_far (u : Ob) (post : Int32 → Ob → Prop) : Prop :=
  wp_X8_search u (fun (r_1 : Int32) (u_2 : Ob) =>
  ((¬ r_1 = 0) →
    wp_X8_nearest u_2 (fun (r_4 : Int32) =>
    (((0 : Int32) ≤ r_4) →
      vp_in r_4 80 ∧
      post (u_2.2.1 17 r_4.toNatClampNeg) u_2) ∧ ((¬ (0 : Int32) ≤ r_4) →
      post (-4) u_2))) ∧ ((r_1 = 0) →
    post (-3) u_2))
def wp_X8_way (u : Ob) (x1 : Int32) (post : Int32 → Ob → Prop) : Prop :=
  (((0 : Int32) ≤ x1) →
    wp_X8_search u (fun (r_2 : Int32) (u_3 : Ob) =>
    ((¬ r_2 = 0) →
      wp_X8_nearest u_3 (fun (r_5 : Int32) =>
      (((0 : Int32) ≤ r_5) →
        vp_in r_5 80 ∧
        ((x1 < (u_3.2.1 17 r_5.toNatClampNeg)) →
          ∃ n : Nat, lq2 (fun (LL_9 : Int32 → Int32 → Prop) (v3_10 : Int32) (v2_11 : Int32) =>
            ((x1 ≤ v3_10) →
              vp_in v2_11 80 ∧
              post (u_3.2.1 18 v2_11.toNatClampNeg) u_3) ∧ ((¬ x1 ≤ v3_10) →
              vp_in v2_11 80 ∧
              LL_9 (v3_10 + 1) (u_3.2.1 19 v2_11.toNatClampNeg))) n 0 r_5) ∧ ((¬ x1 < (u_3.2.1 17 r_5.toNatClampNeg)) →
          post (-1) u_3)) ∧ ((¬ (0 : Int32) ≤ r_5) →
        post (-4) u_3))) ∧ ((r_2 = 0) →
      post (-3) u_3))) ∧ ((¬ (0 : Int32) ≤ x1) →
    post (-1) u)
def wp_X8_codeOf (u : Ob) (x1 : Int32) (x2 : Int32) (post : Int32 → Prop) : Prop :=
  vp_in ((2 * x1) + x2) 166 ∧
  ∃ n : Nat, lq2 (fun (LL_2 : Int32 → Int32 → Prop) (v4_3 : Int32) (v3_4 : Int32) =>
    ((v4_3 < 0) →
      post v3_4) ∧ ((¬ v4_3 < 0) →
      wp_X8_spot x1 x2 v4_3 (fun (r_6 : Int32) =>
      vp_in r_6 1826 ∧
      LL_2 (v4_3 + (-1)) (((4 * v3_4) + (u.2.1 15 r_6.toNatClampNeg)) + 1)))) n ((u.2.1 14 ((2 * x1) + x2).toNatClampNeg) - 1) 0
def wp_X8_decode (u : Ob) (x1 : Int32) (x2 : Int32) (x3 : Int32) (post : Ob → Prop) : Prop :=
  vp_in ((2 * x2) + x3) 166 ∧ ∀ u_2 : Ob, u_2 = fs_a u 14 (upd (u.2.1 14) ((2 * x2) + x3).toNatClampNeg 0) →
  ∃ n : Nat, lq2 (fun (LL_3 : Int32 → Ob → Prop) (v4_4 : Int32) (u_5 : Ob) =>
    ((v4_4 ≤ 0) →
      post u_5) ∧ ((¬ v4_4 ≤ 0) →
      vp_in ((2 * x2) + x3) 166 ∧
      wp_X8_spot x2 x3 (u_5.2.1 14 ((2 * x2) + x3).toNatClampNeg) (fun (r_8 : Int32) =>
      vp_in r_8 1826 ∧ ∀ u_10 : Ob, u_10 = fs_a u_5 15 (upd (u_5.2.1 15) r_8.toNatClampNeg ((j_rem v4_4 4) - 1)) →
      vp_in ((2 * x2) + x3) 166 ∧
      vp_in ((2 * x2) + x3) 166 ∧ ∀ u_13 : Ob, u_13 = fs_a u_10 14 (upd (u_10.2.1 14) ((2 * x2) + x3).toNatClampNeg ((u_10.2.1 14 ((2 * x2) + x3).toNatClampNeg) + 1)) →
      LL_3 (v4_4 / 4) u_13))) n x1 u_2
def wp_X8_wholeCode (u : Ob) (x1 : Int32) (post : Int32 → Prop) : Prop :=
  vp_in x1 83 ∧
  wp_X8_codeOf u x1 0 (fun (r_2 : Int32) =>
  wp_X8_codeOf u x1 1 (fun (r_3 : Int32) =>
  post (((4096 * (u.2.1 13 x1.toNatClampNeg)) + (64 * r_2)) + r_3)))
def wp_X8_goes (u : Ob) (x1 : Int32) (x2 : Int32) (post : Int32 → Ob → Prop) : Prop :=
  vp_in x1 20 ∧
  vp_in x1 20 ∧
  vp_in x1 20 ∧
  vp_in 80 83 ∧
  (((u.2.1 3 x1.toNatClampNeg) = (u.2.1 13 (80 : Int32).toNatClampNeg)) →
    vp_in x1 20 ∧
    jn (fun (u_8 : Ob) =>
      vp_in x1 20 ∧
      vp_in 80 83 ∧ ∀ u_11 : Ob, u_11 = fs_a u_8 13 (upd (u_8.2.1 13) (80 : Int32).toNatClampNeg (u_8.2.1 7 x1.toNatClampNeg)) →
      post 1 u_11) (fun (JJ_7 : Ob → Prop) =>
      ((¬ (u.2.1 4 x1.toNatClampNeg) = 2) →
        vp_in x1 20 ∧
        ((¬ (u.2.1 4 x1.toNatClampNeg) = 1) →
          JJ_7 u) ∧ (((u.2.1 4 x1.toNatClampNeg) = 1) →
          vp_in (160 + (u.2.1 5 x1.toNatClampNeg)) 166 ∧
          (((u.2.1 14 (160 + (u.2.1 5 x1.toNatClampNeg)).toNatClampNeg) < x2) →
            vp_in (u.2.1 5 x1.toNatClampNeg) 2 ∧
            jn (fun (w_19 : Int32) =>
              wp_X8_putIn u 80 (u.2.1 5 x1.toNatClampNeg) w_19 (u.2.1 6 x1.toNatClampNeg) (fun (u_20 : Ob) =>
              JJ_7 u_20)) (fun (JJ_18 : Int32 → Prop) =>
              (((u.2.1 1 (u.2.1 5 x1.toNatClampNeg).toNatClampNeg) = 0) →
                vp_in (160 + (u.2.1 5 x1.toNatClampNeg)) 166 ∧
                JJ_18 (u.2.1 14 (160 + (u.2.1 5 x1.toNatClampNeg)).toNatClampNeg)) ∧ ((¬ (u.2.1 1 (u.2.1 5 x1.toNatClampNeg).toNatClampNeg) = 0) →
                wp_X8_inOrder u 80 (u.2.1 5 x1.toNatClampNeg) (u.2.1 6 x1.toNatClampNeg) (fun (r_23 : Int32) =>
                JJ_18 r_23)))) ∧ ((¬ (u.2.1 14 (160 + (u.2.1 5 x1.toNatClampNeg)).toNatClampNeg) < x2) →
            post 0 u))) ∧ (((u.2.1 4 x1.toNatClampNeg) = 2) →
        wp_X8_firstOf u 80 (u.2.1 5 x1.toNatClampNeg) (u.2.1 6 x1.toNatClampNeg) (fun (r_24 : Int32) =>
        ((r_24 < 0) →
          post 0 u) ∧ ((¬ r_24 < 0) →
          jn (  wp_X8_takeOut u 80 (u.2.1 5 x1.toNatClampNeg) r_24 (fun (u_27 : Ob) =>
            JJ_7 u_27)) (fun (JJ_26 : Prop) =>
            ((r_24 ≤ 0) →
              JJ_26) ∧ ((¬ r_24 ≤ 0) →
              vp_in (u.2.1 5 x1.toNatClampNeg) 2 ∧
              ((¬ (u.2.1 1 (u.2.1 5 x1.toNatClampNeg).toNatClampNeg) = 0) →
                JJ_26) ∧ (((u.2.1 1 (u.2.1 5 x1.toNatClampNeg).toNatClampNeg) = 0) →
                post 0 u)))))))) ∧ ((¬ (u.2.1 3 x1.toNatClampNeg) = (u.2.1 13 (80 : Int32).toNatClampNeg)) →
    post 0 u)
def wp_X8_isLong (u : Ob) (x1 : Int32) (x2 : Int32) (post : Int32 → Prop) : Prop :=
  vp_in (2 * x1) 166 ∧
  ((x2 < (u.2.1 14 (2 * x1).toNatClampNeg)) →
    post 1) ∧ ((¬ x2 < (u.2.1 14 (2 * x1).toNatClampNeg)) →
    vp_in ((2 * x1) + 1) 166 ∧
    (((u.2.1 14 ((2 * x1) + 1).toNatClampNeg) ≤ x2) →
      post 0) ∧ ((¬ (u.2.1 14 ((2 * x1) + 1).toNatClampNeg) ≤ x2) →
      post 1))
def wp_X8_lay (u : Ob) (x1 : Int32) (post : Ob → Prop) : Prop :=
  vp_in 80 83 ∧ ∀ u_2 : Ob, u_2 = fs_a u 13 (upd (u.2.1 13) (80 : Int32).toNatClampNeg (x1 / 4096)) →
  wp_X8_decode u_2 (j_rem (x1 / 64) 64) 80 0 (fun (u_3 : Ob) =>
  wp_X8_decode u_3 (j_rem x1 64) 80 1 (fun (u_4 : Ob) =>
  post u_4))
def wp_X8_strict (u : Ob) (x1 : Int32) (post : Int32 → Ob → Prop) : Prop :=
  wp_X8_in x1 0 3 (fun (r_1 : Int32) =>
  ((¬ r_1 = 0) →
    wp_X8_isLong u 82 x1 (fun (r_3 : Int32) =>
    ((¬ r_3 = 0) →
      post (-2) u) ∧ ((r_3 = 0) →
      wp_X8_isLong u 81 x1 (fun (r_5 : Int32) =>
      ((r_5 = 0) →
        ∃ n : Nat, lq2 (fun (LL_7 : Int32 → Ob → Prop) (v2_8 : Int32) (u_9 : Ob) =>
          (((32768 : Int32) ≤ v2_8) →
            wp_X8_wholeCode u_9 82 (fun (r_11 : Int32) =>
            vp_in 0 32768 ∧ ∀ u_13 : Ob, u_13 = fs_a u_9 20 (upd (u_9.2.1 20) (0 : Int32).toNatClampNeg r_11) →
            vp_in 0 32768 ∧
            vp_in (u_13.2.1 20 (0 : Int32).toNatClampNeg) 32768 ∧ ∀ u_16 : Ob, u_16 = fs_a u_13 21 (upd (u_13.2.1 21) (u_13.2.1 20 (0 : Int32).toNatClampNeg).toNatClampNeg 0) →
            ∃ n : Nat, lq3 (fun (LL_17 : Int32 → Int32 → Ob → Prop) (v3_18 : Int32) (v2_19 : Int32) (u_20 : Ob) =>
              ((v2_19 ≤ v3_18) →
                post (-4) u_20) ∧ ((¬ v2_19 ≤ v3_18) →
                vp_in v3_18 32768 ∧
                wp_X8_lay u_20 (u_20.2.1 20 v3_18.toNatClampNeg) (fun (u_23 : Ob) =>
                wp_X8_isBelow u_23 81 80 (fun (r_24 : Int32) =>
                ((r_24 = 0) →
                  ∃ n : Nat, lq3 (fun (LL_26 : Int32 → Int32 → Ob → Prop) (v4_27 : Int32) (v2_28 : Int32) (u_29 : Ob) =>
                    (((u_29.1 2) ≤ v4_27) →
                      LL_17 (v3_18 + 1) v2_28 u_29) ∧ ((¬ (u_29.1 2) ≤ v4_27) →
                      vp_in v3_18 32768 ∧
                      wp_X8_lay u_29 (u_29.2.1 20 v3_18.toNatClampNeg) (fun (u_32 : Ob) =>
                      wp_X8_goes u_32 v4_27 x1 (fun (r_33 : Int32) (u_34 : Ob) =>
                      jn (fun (w_36 : Int32) =>
                        vp_in w_36 32768 ∧
                        (((0 : Int32) ≤ (u_34.2.1 21 w_36.toNatClampNeg)) →
                          LL_26 (v4_27 + 1) v2_28 u_34) ∧ ((¬ (0 : Int32) ≤ (u_34.2.1 21 w_36.toNatClampNeg)) →
                          vp_in v3_18 32768 ∧
                          vp_in (u_34.2.1 20 v3_18.toNatClampNeg) 32768 ∧
                          vp_in w_36 32768 ∧ ∀ u_42 : Ob, u_42 = fs_a u_34 21 (upd (u_34.2.1 21) w_36.toNatClampNeg ((u_34.2.1 21 (u_34.2.1 20 v3_18.toNatClampNeg).toNatClampNeg) + 1)) →
                          vp_in v2_28 32768 ∧ ∀ u_44 : Ob, u_44 = fs_a u_42 20 (upd (u_42.2.1 20) v2_28.toNatClampNeg w_36) →
                          LL_26 (v4_27 + 1) (v2_28 + 1) u_44)) (fun (JJ_35 : Int32 → Prop) =>
                        ((r_33 = 0) →
                          vp_in v3_18 32768 ∧
                          JJ_35 (u_34.2.1 20 v3_18.toNatClampNeg)) ∧ ((¬ r_33 = 0) →
                          wp_X8_wholeCode u_34 80 (fun (r_47 : Int32) =>
                          JJ_35 r_47))))))) n 0 v2_19 u_23) ∧ ((¬ r_24 = 0) →
                  vp_in v3_18 32768 ∧
                  vp_in (u_23.2.1 20 v3_18.toNatClampNeg) 32768 ∧
                  post (u_23.2.1 21 (u_23.2.1 20 v3_18.toNatClampNeg).toNatClampNeg) u_23))))) n 0 1 u_16)) ∧ ((¬ (32768 : Int32) ≤ v2_8) →
            vp_in v2_8 32768 ∧ ∀ u_53 : Ob, u_53 = fs_a u_9 21 (upd (u_9.2.1 21) v2_8.toNatClampNeg (-1)) →
            LL_7 (v2_8 + 1) u_53)) n 0 u) ∧ ((¬ r_5 = 0) →
        post (-2) u))))) ∧ ((r_1 = 0) →
    post (-1) u))
def wp_X8_isSheet (x1 : Int32) (post : Int32 → Prop) : Prop :=
  wp_X8_in x1 0 1 (fun (r_1 : Int32) =>
  zb r_1 ∧ post r_1)
def wp_X8_sheet (u : Ob) (x1 : Int32) (x2 : Int32) (x3 : Int32) (post : Int32 → Ob → Prop) : Prop :=
  wp_X8_isSheet x1 (fun (r_1 : Int32) =>
  ((r_1 = 0) →
    post (-1) u) ∧ ((¬ r_1 = 0) →
    wp_X8_in x2 0 1 (fun (r_3 : Int32) =>
    ((r_3 = 0) →
      post (-1) u) ∧ ((¬ r_3 = 0) →
      ((x3 ≤ 60) →
        (((0 : Int32) ≤ x3) →
          vp_in x1 2 ∧ ∀ u_8 : Ob, u_8 = fs_a u 22 (upd (u.2.1 22) x1.toNatClampNeg x2) →
          vp_in x1 2 ∧ ∀ u_10 : Ob, u_10 = fs_a u_8 23 (upd (u_8.2.1 23) x1.toNatClampNeg x3) →
          ∃ n : Nat, lq2 (fun (LL_11 : Int32 → Ob → Prop) (v4_12 : Int32) (u_13 : Ob) =>
            (((60 : Int32) ≤ v4_12) →
              post x3 u_13) ∧ ((¬ (60 : Int32) ≤ v4_12) →
              vp_in ((60 * x1) + v4_12) 120 ∧ ∀ u_16 : Ob, u_16 = fs_a u_13 24 (upd (u_13.2.1 24) ((60 * x1) + v4_12).toNatClampNeg 0) →
              LL_11 (v4_12 + 1) u_16)) n 0 u_10) ∧ ((¬ (0 : Int32) ≤ x3) →
          post (-14) u)) ∧ ((¬ x3 ≤ 60) →
        post (-1) u)))))
def wp_X8_drop (u : Ob) (x1 : Int32) (post : Int32 → Ob → Prop) : Prop :=
  wp_X8_isSheet x1 (fun (r_1 : Int32) =>
  ((¬ r_1 = 0) →
    vp_in x1 2 ∧
    (((0 : Int32) ≤ (u.2.1 22 x1.toNatClampNeg)) →
      vp_in x1 2 ∧ ∀ u_6 : Ob, u_6 = fs_a u 22 (upd (u.2.1 22) x1.toNatClampNeg (-1)) →
      vp_in x1 2 ∧
      post (u_6.2.1 23 x1.toNatClampNeg) u_6) ∧ ((¬ (0 : Int32) ≤ (u.2.1 22 x1.toNatClampNeg)) →
      post (-11) u)) ∧ ((r_1 = 0) →
    post (-1) u))
def wp_X8_item (u : Ob) (x1 : Int32) (x2 : Int32) (x3 : Int32) (x4 : Int32) (post : Int32 → Ob → Prop) : Prop :=
  wp_X8_isSheet x1 (fun (r_1 : Int32) =>
  ((r_1 = 0) →
    post (-1) u) ∧ ((¬ r_1 = 0) →
    wp_X8_in x2 0 1 (fun (r_3 : Int32) =>
    ((¬ r_3 = 0) →
      vp_in x1 2 ∧
      (((0 : Int32) ≤ (u.2.1 22 x1.toNatClampNeg)) →
        vp_in x1 2 ∧
        (((u.2.1 22 x1.toNatClampNeg) = x2) →
          vp_in x1 2 ∧
          wp_X8_in x3 0 ((u.2.1 23 x1.toNatClampNeg) - 1) (fun (r_10 : Int32) =>
          ((¬ r_10 = 0) →
            jn (fun (w_13 : Int32) =>
              vp_in ((60 * x1) + x3) 120 ∧ ∀ u_15 : Ob, u_15 = fs_a u 24 (upd (u.2.1 24) ((60 * x1) + x3).toNatClampNeg w_13) →
              post 1 u_15) (fun (JJ_12 : Int32 → Prop) =>
              ((¬ x2 = 0) →
                JJ_12 x4) ∧ ((x2 = 0) →
                JJ_12 (Int8.toInt32 (Int32.toInt8 x4))))) ∧ ((r_10 = 0) →
            post (-13) u))) ∧ ((¬ (u.2.1 22 x1.toNatClampNeg) = x2) →
          post (-12) u)) ∧ ((¬ (0 : Int32) ≤ (u.2.1 22 x1.toNatClampNeg)) →
        post (-11) u)) ∧ ((r_3 = 0) →
      post (-1) u))))
def wp_X8_arcs (u : Ob) (x1 : Int32) (x2 : Int32) (x3 : Int32) (x4 : Int32) (post : Int32 → Ob → Prop) : Prop :=
  wp_X8_isSheet x1 (fun (r_1 : Int32) =>
  ((r_1 = 0) →
    post (-1) u) ∧ ((¬ r_1 = 0) →
    wp_X8_in x2 0 1 (fun (r_3 : Int32) =>
    ((r_3 = 0) →
      post (-1) u) ∧ ((¬ r_3 = 0) →
      wp_X8_in x4 0 12 (fun (r_5 : Int32) =>
      ((¬ r_5 = 0) →
        vp_in x1 2 ∧
        (((0 : Int32) ≤ (u.2.1 22 x1.toNatClampNeg)) →
          vp_in x1 2 ∧
          (((u.2.1 22 x1.toNatClampNeg) = x2) →
            ((x3 < 0) →
              post (-13) u) ∧ ((¬ x3 < 0) →
              vp_in x1 2 ∧
              (((lg_cmp ((Int32.toInt64 x3) + (Int32.toInt64 (5 * x4))) (Int32.toInt64 (u.2.1 23 x1.toNatClampNeg))) ≤ 0) →
                ∃ n : Nat, lq1 (fun (LL_14 : Int32 → Prop) (v6_15 : Int32) =>
                  ((x4 ≤ v6_15) →
                    ((((u.1 2) + x4) ≤ 20) →
                      ∃ n : Nat, lq2 (fun (LL_18 : Int32 → Ob → Prop) (v6_19 : Int32) (u_20 : Ob) =>
                        ((x4 ≤ v6_19) →
                          wp_X8_empty u_20 82 0 (fun (u_22 : Ob) =>
                          post (u_22.1 2) u_22)) ∧ ((¬ x4 ≤ v6_19) →
                          vp_in (((60 * x1) + x3) + (5 * v6_19)) 120 ∧
                          vp_in ((((60 * x1) + x3) + (5 * v6_19)) + 1) 120 ∧
                          vp_in ((((60 * x1) + x3) + (5 * v6_19)) + 2) 120 ∧
                          vp_in ((((60 * x1) + x3) + (5 * v6_19)) + 3) 120 ∧
                          vp_in ((((60 * x1) + x3) + (5 * v6_19)) + 4) 120 ∧
                          wp_X8_put u_20 (u_20.2.1 24 (((60 * x1) + x3) + (5 * v6_19)).toNatClampNeg) (u_20.2.1 24 ((((60 * x1) + x3) + (5 * v6_19)) + 1).toNatClampNeg) (u_20.2.1 24 ((((60 * x1) + x3) + (5 * v6_19)) + 2).toNatClampNeg) (u_20.2.1 24 ((((60 * x1) + x3) + (5 * v6_19)) + 3).toNatClampNeg) (u_20.2.1 24 ((((60 * x1) + x3) + (5 * v6_19)) + 4).toNatClampNeg) (fun (u_28 : Ob) =>
                          LL_18 (v6_19 + 1) u_28))) n 0 u) ∧ ((¬ ((u.1 2) + x4) ≤ 20) →
                      post (-3) u)) ∧ ((¬ x4 ≤ v6_15) →
                    vp_in (((60 * x1) + x3) + (5 * v6_15)) 120 ∧
                    vp_in ((((60 * x1) + x3) + (5 * v6_15)) + 1) 120 ∧
                    vp_in ((((60 * x1) + x3) + (5 * v6_15)) + 2) 120 ∧
                    vp_in ((((60 * x1) + x3) + (5 * v6_15)) + 3) 120 ∧
                    vp_in ((((60 * x1) + x3) + (5 * v6_15)) + 4) 120 ∧
                    wp_X8_isGood u (u.2.1 24 (((60 * x1) + x3) + (5 * v6_15)).toNatClampNeg) (u.2.1 24 ((((60 * x1) + x3) + (5 * v6_15)) + 1).toNatClampNeg) (u.2.1 24 ((((60 * x1) + x3) + (5 * v6_15)) + 2).toNatClampNeg) (u.2.1 24 ((((60 * x1) + x3) + (5 * v6_15)) + 3).toNatClampNeg) (u.2.1 24 ((((60 * x1) + x3) + (5 * v6_15)) + 4).toNatClampNeg) (fun (r_35 : Int32) =>
                    ((¬ r_35 = 0) →
                      LL_14 (v6_15 + 1)) ∧ ((r_35 = 0) →
                      post (-2) u)))) n 0) ∧ ((¬ (lg_cmp ((Int32.toInt64 x3) + (Int32.toInt64 (5 * x4))) (Int32.toInt64 (u.2.1 23 x1.toNatClampNeg))) ≤ 0) →
                post (-13) u))) ∧ ((¬ (u.2.1 22 x1.toNatClampNeg) = x2) →
            post (-12) u)) ∧ ((¬ (0 : Int32) ≤ (u.2.1 22 x1.toNatClampNeg)) →
          post (-11) u)) ∧ ((r_5 = 0) →
        post (-1) u))))))
end
section
abbrev rm_X7_isAmong : Room := { frames := 0, cells := 0, slots := 0, locals := 0 }
set_option maxHeartbeats 4000000 in
set_option maxRecDepth 100000 in
theorem c_X7_isAmong (l : Launch) (sz : Nat) (x1 : Int32) (x2 : Int32) (post : Int32 → Prop) (h : wp_X7_isAmong x1 x2 post) : Met l yX7_isAmong wsX7_isAmong rm_X7_isAmong (va_Pc [.int x1, .int x2] (fun U => U.heap.size = sz)) (va_Qi (fun (rr : Int32) (_ : Unit) => post rr) (fun (_ : Unit) (_ : State) => True) (va_A [] sz)) 0 0 (va_A [] sz) := by
  refine fl_ofW (cc := cX7_isAmong) (maxL := 2) (ret := (some .boolean)) (by decide) rfl ?_
  intro p e s m args below meth c s₁ Q B hml hv hQ
  obtain ⟨hargs, hsz⟩ := hv
  have hx := B.exec
  have hb := B.bytes
  have hr := B.returns
  have hts := atoms_spec (ws := wsX7_isAmong) B.pre
  have hown : s.vm.findClass RX7 = some m.cls := findClass_of_methodNamed B.named
  subst hsz
  generalize hAe : va_A [] s.heap.size = A at hQ
  have hA : ∀ q : Nat, s.heap.size ≤ q → A q := fun q h => by rw [← hAe]; exact Or.inr h
  have hS : va_S A s.heap s.heap [] := va_S.rf
  have hl := lv_entry ([.int x1, .int x2]) (n := 2) (Nat.le_of_ble_eq_true rfl)
  refine W.eq (g2 := F0 m 0 ((lg_sl ([.int x1, .int x2]) ++ List.replicate (2 - (lg_sl ([.int x1, .int x2])).length) Slot.unset).toArray) []) (by rw [hargs]; exact lg_entry_eq m _ 2) ?_
  generalize (lg_sl ([.int x1, .int x2]) ++ List.replicate (2 - (lg_sl ([.int x1, .int x2])).length) Slot.unset).toArray = ls at hl ⊢
  have hl : lv_has ls 2 [(0, .int x1), (1, .int x2)] := hl
  unfold wp_X7_isAmong at h
  refine lv_iload_n hx hb dX7_isAmong_0 rfl (lv_at hl 0 rfl) ?_
  refine lv_if_lt (tgt := 13) hx hb dX7_isAmong_1 (by decide) (fun hc_1 => ?_) (fun hc_1 => ?_)
  · replace h := h.1 hc_1
    refine lv_iconst (v := 0) hx hb dX7_isAmong_13 (by decide) ?_
    subst hQ
    exact W.zret (v := 0) hx hb hr (by rfl) (fun t ht hW => ⟨⟨_, (), rfl, h, trivial⟩, hS.F ht⟩) hS.2.2 dX7_isAmong_14
  · replace h := h.2 hc_1
    refine lv_iload_n hx hb dX7_isAmong_4 rfl (lv_at hl 0 rfl) ?_
    refine lv_iload_n hx hb dX7_isAmong_5 rfl (lv_at hl 1 rfl) ?_
    refine lv_icmp_ge (tgt := 13) hx hb dX7_isAmong_6 (by decide) (fun hc_2 => ?_) (fun hc_2 => ?_)
    · replace h := h.1 hc_2
      refine lv_iconst (v := 0) hx hb dX7_isAmong_13 (by decide) ?_
      subst hQ
      exact W.zret (v := 0) hx hb hr (by rfl) (fun t ht hW => ⟨⟨_, (), rfl, h, trivial⟩, hS.F ht⟩) hS.2.2 dX7_isAmong_14
    · replace h := h.2 hc_2
      refine lv_iconst (v := 1) hx hb dX7_isAmong_9 (by decide) ?_
      refine lv_goto (tgt := 14) hx hb dX7_isAmong_10 (by decide) ?_
      subst hQ
      exact W.zret (v := 1) hx hb hr (by rfl) (fun t ht hW => ⟨⟨_, (), rfl, h, trivial⟩, hS.F ht⟩) hS.2.2 dX7_isAmong_14
abbrev rm_X6_placeInOrder : Room := { frames := 0, cells := 0, slots := 0, locals := 0 }
set_option maxHeartbeats 4000000 in
set_option maxRecDepth 100000 in
theorem c_X6_placeInOrder (l : Launch) (sz : Nat) (x1 : Int32) (x2 : Int32) (post : Int32 → Prop) (h : wp_X6_placeInOrder x1 x2 post) : Met l yX6_placeInOrder wsX6_placeInOrder rm_X6_placeInOrder (va_Pc [.int x1, .int x2] (fun U => U.heap.size = sz)) (va_Qi (fun (rr : Int32) (_ : Unit) => post rr) (fun (_ : Unit) (_ : State) => True) (va_A [] sz)) 0 0 (va_A [] sz) := by
  refine fl_ofW (cc := cX6_placeInOrder) (maxL := 4) (ret := (some .int)) (by decide) rfl ?_
  intro p e s m args below meth c s₁ Q B hml hv hQ
  obtain ⟨hargs, hsz⟩ := hv
  have hx := B.exec
  have hb := B.bytes
  have hr := B.returns
  have hts := atoms_spec (ws := wsX6_placeInOrder) B.pre
  have hown : s.vm.findClass RX6 = some m.cls := findClass_of_methodNamed B.named
  subst hsz
  generalize hAe : va_A [] s.heap.size = A at hQ
  have hA : ∀ q : Nat, s.heap.size ≤ q → A q := fun q h => by rw [← hAe]; exact Or.inr h
  have hS : va_S A s.heap s.heap [] := va_S.rf
  have hl := lv_entry ([.int x1, .int x2]) (n := 4) (Nat.le_of_ble_eq_true rfl)
  refine W.eq (g2 := F0 m 0 ((lg_sl ([.int x1, .int x2]) ++ List.replicate (4 - (lg_sl ([.int x1, .int x2])).length) Slot.unset).toArray) []) (by rw [hargs]; exact lg_entry_eq m _ 4) ?_
  generalize (lg_sl ([.int x1, .int x2]) ++ List.replicate (4 - (lg_sl ([.int x1, .int x2])).length) Slot.unset).toArray = ls at hl ⊢
  have hl : lv_has ls 4 [(0, .int x1), (1, .int x2)] := hl
  unfold wp_X6_placeInOrder at h
  refine lv_iload_n hx hb dX6_placeInOrder_0 rfl (lv_at hl 0 rfl) ?_
  refine lv_istore_n (lv' := [(2, .int x1), (0, .int x1), (1, .int x2)]) hx hb dX6_placeInOrder_1 rfl hl (by decide) rfl (fun ls hl => ?_)
  refine lv_iconst (v := 0) hx hb dX6_placeInOrder_2 (by decide) ?_
  refine lv_istore_n (lv' := [(3, .int 0), (2, .int x1), (0, .int x1), (1, .int x2)]) hx hb dX6_placeInOrder_3 rfl hl (by decide) rfl (fun ls hl => ?_)
  obtain ⟨n_7, h⟩ := h
  refine lq2_ind (GG := (fun (v3_2 : Int32) (v2_3 : Int32) => ∀ (H : Heap) (locs : List Loc) (ls : Array Slot), va_S A s.heap H locs → lv_has ls 4 [(3, .int v3_2), (2, .int v2_3), (1, .int x2)] → W p l e (headSpec wsX6_placeInOrder rm_X6_placeInOrder).room s m args below meth c H locs 0 0 Q (F0 m 4 ls []))) (fun LL_1 ih_LL_1 v3_2 v2_3 h H locs ls hS hl => ?_) n_7 _ _ h _ _ _ hS (lv_sub hl [0, 1, 3] rfl)
  refine lv_iload_n hx hb dX6_placeInOrder_4 rfl (lv_at hl 0 rfl) ?_
  refine lv_bipush (v := 15) hx hb dX6_placeInOrder_5 (by decide) ?_
  refine lv_icmp_ge (tgt := 33) hx hb dX6_placeInOrder_7 (by decide) (fun hc_4 => ?_) (fun hc_4 => ?_)
  · replace h := h.1 hc_4
    refine lv_iload_n hx hb dX6_placeInOrder_33 rfl (lv_at hl 0 rfl) ?_
    subst hQ
    exact W.iret (v := v3_2) hx hb hr (fun t ht hW => ⟨⟨_, (), rfl, h, trivial⟩, hS.F ht⟩) hS.2.2 dX6_placeInOrder_34
  · replace h := h.2 hc_4
    refine lv_iload_n hx hb dX6_placeInOrder_10 rfl (lv_at hl 1 rfl) ?_
    refine lv_if_eq (tgt := 33) hx hb dX6_placeInOrder_11 (by decide) (fun hc_5 => ?_) (fun hc_5 => ?_)
    · replace h := h.1 hc_5
      refine lv_iload_n hx hb dX6_placeInOrder_33 rfl (lv_at hl 0 rfl) ?_
      subst hQ
      exact W.iret (v := v3_2) hx hb hr (fun t ht hW => ⟨⟨_, (), rfl, h, trivial⟩, hS.F ht⟩) hS.2.2 dX6_placeInOrder_34
    · replace h := h.2 hc_5
      refine lv_iload_n hx hb dX6_placeInOrder_14 rfl (lv_at hl 1 rfl) ?_
      refine lv_iconst (v := 3) hx hb dX6_placeInOrder_15 (by decide) ?_
      refine lv_iand hx hb dX6_placeInOrder_16 ?_
      refine lv_iload_n hx hb dX6_placeInOrder_17 rfl (lv_at hl 2 rfl) ?_
      refine lv_iconst (v := 1) hx hb dX6_placeInOrder_18 (by decide) ?_
      refine lv_iadd hx hb dX6_placeInOrder_19 ?_
      refine lv_icmp_gt (tgt := 33) hx hb dX6_placeInOrder_20 (by decide) (fun hc_6 => ?_) (fun hc_6 => ?_)
      · replace h := h.1 hc_6
        refine lv_iload_n hx hb dX6_placeInOrder_33 rfl (lv_at hl 0 rfl) ?_
        subst hQ
        exact W.iret (v := v3_2) hx hb hr (fun t ht hW => ⟨⟨_, (), rfl, h, trivial⟩, hS.F ht⟩) hS.2.2 dX6_placeInOrder_34
      · replace h := h.2 hc_6
        refine lv_iload_n hx hb dX6_placeInOrder_23 rfl (lv_at hl 1 rfl) ?_
        refine lv_iconst (v := 2) hx hb dX6_placeInOrder_24 (by decide) ?_
        refine lv_iushr (v := (j_ushr v2_3 2)) hx hb dX6_placeInOrder_25 rfl ?_
        refine lv_istore_n (lv' := [(2, .int (j_ushr v2_3 2)), (3, .int v3_2), (1, .int x2)]) hx hb dX6_placeInOrder_26 rfl hl (by decide) rfl (fun ls hl => ?_)
        refine lv_iinc (v := (v3_2 + 1)) (lv' := [(3, .int (v3_2 + 1)), (2, .int (j_ushr v2_3 2)), (1, .int x2)]) hx hb dX6_placeInOrder_27 hl (k := 1) rfl rfl (by decide) rfl (fun ls hl => ?_)
        refine lv_goto (tgt := 4) hx hb dX6_placeInOrder_30 (by decide) ?_
        exact ih_LL_1 _ _ h _ _ _ hS (lv_sub hl [0, 1, 2] rfl)
abbrev rm_X6_size : Room := { frames := 0, cells := 0, slots := 0, locals := 0 }
set_option maxHeartbeats 4000000 in
set_option maxRecDepth 100000 in
theorem c_X6_size (l : Launch) (sz : Nat) (x1 : Int32) (post : Int32 → Prop) (h : wp_X6_size x1 post) : Met l yX6_size wsX6_size rm_X6_size (va_Pc [.int x1] (fun U => U.heap.size = sz)) (va_Qi (fun (rr : Int32) (_ : Unit) => post rr) (fun (_ : Unit) (_ : State) => True) (va_A [] sz)) 0 0 (va_A [] sz) := by
  refine fl_ofW (cc := cX6_size) (maxL := 2) (ret := (some .int)) (by decide) rfl ?_
  intro p e s m args below meth c s₁ Q B hml hv hQ
  obtain ⟨hargs, hsz⟩ := hv
  have hx := B.exec
  have hb := B.bytes
  have hr := B.returns
  have hts := atoms_spec (ws := wsX6_size) B.pre
  have hown : s.vm.findClass RX6 = some m.cls := findClass_of_methodNamed B.named
  subst hsz
  generalize hAe : va_A [] s.heap.size = A at hQ
  have hA : ∀ q : Nat, s.heap.size ≤ q → A q := fun q h => by rw [← hAe]; exact Or.inr h
  have hS : va_S A s.heap s.heap [] := va_S.rf
  have hl := lv_entry ([.int x1]) (n := 2) (Nat.le_of_ble_eq_true rfl)
  refine W.eq (g2 := F0 m 0 ((lg_sl ([.int x1]) ++ List.replicate (2 - (lg_sl ([.int x1])).length) Slot.unset).toArray) []) (by rw [hargs]; exact lg_entry_eq m _ 2) ?_
  generalize (lg_sl ([.int x1]) ++ List.replicate (2 - (lg_sl ([.int x1])).length) Slot.unset).toArray = ls at hl ⊢
  have hl : lv_has ls 2 [(0, .int x1)] := hl
  unfold wp_X6_size at h
  refine lv_iconst (v := 0) hx hb dX6_size_0 (by decide) ?_
  refine lv_istore_n (lv' := [(1, .int 0), (0, .int x1)]) hx hb dX6_size_1 rfl hl (by decide) rfl (fun ls hl => ?_)
  obtain ⟨n_5, h⟩ := h
  refine lq1_ind (GG := (fun (v1_2 : Int32) => ∀ (H : Heap) (locs : List Loc) (ls : Array Slot), va_S A s.heap H locs → lv_has ls 2 [(1, .int v1_2), (0, .int x1)] → W p l e (headSpec wsX6_size rm_X6_size).room s m args below meth c H locs 0 0 Q (F0 m 2 ls []))) (fun LL_1 ih_LL_1 v1_2 h H locs ls hS hl => ?_) n_5 _ h _ _ _ hS (lv_sub hl [0, 1] rfl)
  refine lv_iload_n hx hb dX6_size_2 rfl (lv_at hl 0 rfl) ?_
  refine lv_bipush (v := 15) hx hb dX6_size_3 (by decide) ?_
  refine lv_icmp_ge (tgt := 22) hx hb dX6_size_5 (by decide) (fun hc_3 => ?_) (fun hc_3 => ?_)
  · replace h := h.1 hc_3
    refine lv_iload_n hx hb dX6_size_22 rfl (lv_at hl 0 rfl) ?_
    subst hQ
    exact W.iret (v := v1_2) hx hb hr (fun t ht hW => ⟨⟨_, (), rfl, h, trivial⟩, hS.F ht⟩) hS.2.2 dX6_size_23
  · replace h := h.2 hc_3
    refine lv_iload_n hx hb dX6_size_8 rfl (lv_at hl 1 rfl) ?_
    refine lv_iconst (v := 2) hx hb dX6_size_9 (by decide) ?_
    refine lv_iload_n hx hb dX6_size_10 rfl (lv_at hl 0 rfl) ?_
    refine lv_imul hx hb dX6_size_11 ?_
    refine lv_iushr (v := (j_ushr x1 (2 * v1_2))) hx hb dX6_size_12 rfl ?_
    refine lv_if_eq (tgt := 22) hx hb dX6_size_13 (by decide) (fun hc_4 => ?_) (fun hc_4 => ?_)
    · replace h := h.1 hc_4
      refine lv_iload_n hx hb dX6_size_22 rfl (lv_at hl 0 rfl) ?_
      subst hQ
      exact W.iret (v := v1_2) hx hb hr (fun t ht hW => ⟨⟨_, (), rfl, h, trivial⟩, hS.F ht⟩) hS.2.2 dX6_size_23
    · replace h := h.2 hc_4
      refine lv_iinc (v := (v1_2 + 1)) (lv' := [(1, .int (v1_2 + 1)), (0, .int x1)]) hx hb dX6_size_16 hl (k := 0) rfl rfl (by decide) rfl (fun ls hl => ?_)
      refine lv_goto (tgt := 2) hx hb dX6_size_19 (by decide) ?_
      exact ih_LL_1 _ h _ _ _ hS (lv_sub hl [0, 1] rfl)
abbrev rm_X6_with : Room := { frames := 0, cells := 0, slots := 0, locals := 0 }
set_option maxHeartbeats 4000000 in
set_option maxRecDepth 100000 in
theorem c_X6_with (l : Launch) (sz : Nat) (x1 : Int32) (x2 : Int32) (x3 : Int32) (post : Int32 → Prop) (h : wp_X6_with x1 x2 x3 post) : Met l yX6_with wsX6_with rm_X6_with (va_Pc [.int x1, .int x2, .int x3] (fun U => U.heap.size = sz)) (va_Qi (fun (rr : Int32) (_ : Unit) => post rr) (fun (_ : Unit) (_ : State) => True) (va_A [] sz)) 0 0 (va_A [] sz) := by
  refine fl_ofW (cc := cX6_with) (maxL := 5) (ret := (some .int)) (by decide) rfl ?_
  intro p e s m args below meth c s₁ Q B hml hv hQ
  obtain ⟨hargs, hsz⟩ := hv
  have hx := B.exec
  have hb := B.bytes
  have hr := B.returns
  have hts := atoms_spec (ws := wsX6_with) B.pre
  have hown : s.vm.findClass RX6 = some m.cls := findClass_of_methodNamed B.named
  subst hsz
  generalize hAe : va_A [] s.heap.size = A at hQ
  have hA : ∀ q : Nat, s.heap.size ≤ q → A q := fun q h => by rw [← hAe]; exact Or.inr h
  have hS : va_S A s.heap s.heap [] := va_S.rf
  have hl := lv_entry ([.int x1, .int x2, .int x3]) (n := 5) (Nat.le_of_ble_eq_true rfl)
  refine W.eq (g2 := F0 m 0 ((lg_sl ([.int x1, .int x2, .int x3]) ++ List.replicate (5 - (lg_sl ([.int x1, .int x2, .int x3])).length) Slot.unset).toArray) []) (by rw [hargs]; exact lg_entry_eq m _ 5) ?_
  generalize (lg_sl ([.int x1, .int x2, .int x3]) ++ List.replicate (5 - (lg_sl ([.int x1, .int x2, .int x3])).length) Slot.unset).toArray = ls at hl ⊢
  have hl : lv_has ls 5 [(0, .int x1), (1, .int x2), (2, .int x3)] := hl
  unfold wp_X6_with at h
  refine lv_iload_n hx hb dX6_with_0 rfl (lv_at hl 0 rfl) ?_
  refine lv_iconst (v := 1) hx hb dX6_with_1 (by decide) ?_
  refine lv_iconst (v := 2) hx hb dX6_with_2 (by decide) ?_
  refine lv_iload_n hx hb dX6_with_3 rfl (lv_at hl 1 rfl) ?_
  refine lv_imul hx hb dX6_with_4 ?_
  refine lv_ishl hx hb dX6_with_5 ?_
  refine lv_iconst (v := 1) hx hb dX6_with_6 (by decide) ?_
  refine lv_isub hx hb dX6_with_7 ?_
  refine lv_iand hx hb dX6_with_8 ?_
  refine lv_istore_n (lv' := [(3, .int (x1 &&& (((1 : Int32) <<< ((2 * x2) &&& 31)) - 1))), (0, .int x1), (1, .int x2), (2, .int x3)]) hx hb dX6_with_9 rfl hl (by decide) rfl (fun ls hl => ?_)
  refine lv_iload_n hx hb dX6_with_10 rfl (lv_at hl 1 rfl) ?_
  refine lv_iconst (v := 2) hx hb dX6_with_11 (by decide) ?_
  refine lv_iload_n hx hb dX6_with_12 rfl (lv_at hl 2 rfl) ?_
  refine lv_imul hx hb dX6_with_13 ?_
  refine lv_iushr (v := (j_ushr x1 (2 * x2))) hx hb dX6_with_14 rfl ?_
  refine lv_istore (lv' := [(4, .int (j_ushr x1 (2 * x2))), (3, .int (x1 &&& (((1 : Int32) <<< ((2 * x2) &&& 31)) - 1))), (0, .int x1), (1, .int x2), (2, .int x3)]) hx hb dX6_with_15 hl (by decide) rfl (fun ls hl => ?_)
  refine lv_iload_n hx hb dX6_with_17 rfl (lv_at hl 1 rfl) ?_
  refine lv_iload hx hb dX6_with_18 (lv_at hl 0 rfl) ?_
  refine lv_iconst (v := 2) hx hb dX6_with_20 (by decide) ?_
  refine lv_ishl hx hb dX6_with_21 ?_
  refine lv_iload_n hx hb dX6_with_22 rfl (lv_at hl 4 rfl) ?_
  refine lv_iconst (v := 1) hx hb dX6_with_23 (by decide) ?_
  refine lv_iadd hx hb dX6_with_24 ?_
  refine lv_ior hx hb dX6_with_25 ?_
  refine lv_iconst (v := 2) hx hb dX6_with_26 (by decide) ?_
  refine lv_iload_n hx hb dX6_with_27 rfl (lv_at hl 3 rfl) ?_
  refine lv_imul hx hb dX6_with_28 ?_
  refine lv_ishl hx hb dX6_with_29 ?_
  refine lv_ior hx hb dX6_with_30 ?_
  subst hQ
  exact W.iret (v := ((x1 &&& (((1 : Int32) <<< ((2 * x2) &&& 31)) - 1)) ||| ((((j_ushr x1 (2 * x2)) <<< ((2 : Int32) &&& 31)) ||| (x3 + 1)) <<< ((2 * x2) &&& 31)))) hx hb hr (fun t ht hW => ⟨⟨_, (), rfl, h, trivial⟩, hS.F ht⟩) hS.2.2 dX6_with_31
abbrev rm_X6_find : Room := { frames := 0, cells := 0, slots := 0, locals := 0 }
set_option maxHeartbeats 4000000 in
set_option maxRecDepth 100000 in
theorem c_X6_find (l : Launch) (sz : Nat) (x1 : Int32) (x2 : Int32) (post : Int32 → Prop) (h : wp_X6_find x1 x2 post) : Met l yX6_find wsX6_find rm_X6_find (va_Pc [.int x1, .int x2] (fun U => U.heap.size = sz)) (va_Qi (fun (rr : Int32) (_ : Unit) => post rr) (fun (_ : Unit) (_ : State) => True) (va_A [] sz)) 0 0 (va_A [] sz) := by
  refine fl_ofW (cc := cX6_find) (maxL := 3) (ret := (some .int)) (by decide) rfl ?_
  intro p e s m args below meth c s₁ Q B hml hv hQ
  obtain ⟨hargs, hsz⟩ := hv
  have hx := B.exec
  have hb := B.bytes
  have hr := B.returns
  have hts := atoms_spec (ws := wsX6_find) B.pre
  have hown : s.vm.findClass RX6 = some m.cls := findClass_of_methodNamed B.named
  subst hsz
  generalize hAe : va_A [] s.heap.size = A at hQ
  have hA : ∀ q : Nat, s.heap.size ≤ q → A q := fun q h => by rw [← hAe]; exact Or.inr h
  have hS : va_S A s.heap s.heap [] := va_S.rf
  have hl := lv_entry ([.int x1, .int x2]) (n := 3) (Nat.le_of_ble_eq_true rfl)
  refine W.eq (g2 := F0 m 0 ((lg_sl ([.int x1, .int x2]) ++ List.replicate (3 - (lg_sl ([.int x1, .int x2])).length) Slot.unset).toArray) []) (by rw [hargs]; exact lg_entry_eq m _ 3) ?_
  generalize (lg_sl ([.int x1, .int x2]) ++ List.replicate (3 - (lg_sl ([.int x1, .int x2])).length) Slot.unset).toArray = ls at hl ⊢
  have hl : lv_has ls 3 [(0, .int x1), (1, .int x2)] := hl
  unfold wp_X6_find at h
  refine lv_iconst (v := 0) hx hb dX6_find_0 (by decide) ?_
  refine lv_istore_n (lv' := [(2, .int 0), (0, .int x1), (1, .int x2)]) hx hb dX6_find_1 rfl hl (by decide) rfl (fun ls hl => ?_)
  obtain ⟨n_5, h⟩ := h
  refine lq1_ind (GG := (fun (v2_2 : Int32) => ∀ (H : Heap) (locs : List Loc) (ls : Array Slot), va_S A s.heap H locs → lv_has ls 3 [(2, .int v2_2), (0, .int x1), (1, .int x2)] → W p l e (headSpec wsX6_find rm_X6_find).room s m args below meth c H locs 0 0 Q (F0 m 2 ls []))) (fun LL_1 ih_LL_1 v2_2 h H locs ls hS hl => ?_) n_5 _ h _ _ _ hS (lv_sub hl [0, 1, 2] rfl)
  refine lv_iload_n hx hb dX6_find_2 rfl (lv_at hl 0 rfl) ?_
  refine lv_bipush (v := 15) hx hb dX6_find_3 (by decide) ?_
  refine lv_icmp_ge (tgt := 29) hx hb dX6_find_5 (by decide) (fun hc_3 => ?_) (fun hc_3 => ?_)
  · replace h := h.1 hc_3
    refine lv_iconst (v := (-1)) hx hb dX6_find_29 (by decide) ?_
    subst hQ
    exact W.iret (v := (-1)) hx hb hr (fun t ht hW => ⟨⟨_, (), rfl, h, trivial⟩, hS.F ht⟩) hS.2.2 dX6_find_30
  · replace h := h.2 hc_3
    refine lv_iload_n hx hb dX6_find_8 rfl (lv_at hl 1 rfl) ?_
    refine lv_iconst (v := 2) hx hb dX6_find_9 (by decide) ?_
    refine lv_iload_n hx hb dX6_find_10 rfl (lv_at hl 0 rfl) ?_
    refine lv_imul hx hb dX6_find_11 ?_
    refine lv_iushr (v := (j_ushr x1 (2 * v2_2))) hx hb dX6_find_12 rfl ?_
    refine lv_iconst (v := 3) hx hb dX6_find_13 (by decide) ?_
    refine lv_iand hx hb dX6_find_14 ?_
    refine lv_iload_n hx hb dX6_find_15 rfl (lv_at hl 2 rfl) ?_
    refine lv_iconst (v := 1) hx hb dX6_find_16 (by decide) ?_
    refine lv_iadd hx hb dX6_find_17 ?_
    refine lv_icmp_ne (tgt := 23) hx hb dX6_find_18 (by decide) (fun hc_4 => ?_) (fun hc_4 => ?_)
    · replace h := h.1 hc_4
      refine lv_iinc (v := (v2_2 + 1)) (lv' := [(2, .int (v2_2 + 1)), (0, .int x1), (1, .int x2)]) hx hb dX6_find_23 hl (k := 0) rfl rfl (by decide) rfl (fun ls hl => ?_)
      refine lv_goto (tgt := 2) hx hb dX6_find_26 (by decide) ?_
      exact ih_LL_1 _ h _ _ _ hS (lv_sub hl [0, 1, 2] rfl)
    · replace h := h.2 hc_4
      refine lv_iload_n hx hb dX6_find_21 rfl (lv_at hl 0 rfl) ?_
      subst hQ
      exact W.iret (v := v2_2) hx hb hr (fun t ht hW => ⟨⟨_, (), rfl, h, trivial⟩, hS.F ht⟩) hS.2.2 dX6_find_22
abbrev rm_X6_without : Room := { frames := 0, cells := 0, slots := 0, locals := 0 }
set_option maxHeartbeats 4000000 in
set_option maxRecDepth 100000 in
theorem c_X6_without (l : Launch) (sz : Nat) (x1 : Int32) (x2 : Int32) (post : Int32 → Prop) (h : wp_X6_without x1 x2 post) : Met l yX6_without wsX6_without rm_X6_without (va_Pc [.int x1, .int x2] (fun U => U.heap.size = sz)) (va_Qi (fun (rr : Int32) (_ : Unit) => post rr) (fun (_ : Unit) (_ : State) => True) (va_A [] sz)) 0 0 (va_A [] sz) := by
  refine fl_ofW (cc := cX6_without) (maxL := 4) (ret := (some .int)) (by decide) rfl ?_
  intro p e s m args below meth c s₁ Q B hml hv hQ
  obtain ⟨hargs, hsz⟩ := hv
  have hx := B.exec
  have hb := B.bytes
  have hr := B.returns
  have hts := atoms_spec (ws := wsX6_without) B.pre
  have hown : s.vm.findClass RX6 = some m.cls := findClass_of_methodNamed B.named
  subst hsz
  generalize hAe : va_A [] s.heap.size = A at hQ
  have hA : ∀ q : Nat, s.heap.size ≤ q → A q := fun q h => by rw [← hAe]; exact Or.inr h
  have hS : va_S A s.heap s.heap [] := va_S.rf
  have hl := lv_entry ([.int x1, .int x2]) (n := 4) (Nat.le_of_ble_eq_true rfl)
  refine W.eq (g2 := F0 m 0 ((lg_sl ([.int x1, .int x2]) ++ List.replicate (4 - (lg_sl ([.int x1, .int x2])).length) Slot.unset).toArray) []) (by rw [hargs]; exact lg_entry_eq m _ 4) ?_
  generalize (lg_sl ([.int x1, .int x2]) ++ List.replicate (4 - (lg_sl ([.int x1, .int x2])).length) Slot.unset).toArray = ls at hl ⊢
  have hl : lv_has ls 4 [(0, .int x1), (1, .int x2)] := hl
  unfold wp_X6_without at h
  refine lv_iload_n hx hb dX6_without_0 rfl (lv_at hl 0 rfl) ?_
  refine lv_iconst (v := 1) hx hb dX6_without_1 (by decide) ?_
  refine lv_iconst (v := 2) hx hb dX6_without_2 (by decide) ?_
  refine lv_iload_n hx hb dX6_without_3 rfl (lv_at hl 1 rfl) ?_
  refine lv_imul hx hb dX6_without_4 ?_
  refine lv_ishl hx hb dX6_without_5 ?_
  refine lv_iconst (v := 1) hx hb dX6_without_6 (by decide) ?_
  refine lv_isub hx hb dX6_without_7 ?_
  refine lv_iand hx hb dX6_without_8 ?_
  refine lv_istore_n (lv' := [(2, .int (x1 &&& (((1 : Int32) <<< ((2 * x2) &&& 31)) - 1))), (0, .int x1), (1, .int x2)]) hx hb dX6_without_9 rfl hl (by decide) rfl (fun ls hl => ?_)
  refine lv_iload_n hx hb dX6_without_10 rfl (lv_at hl 1 rfl) ?_
  refine lv_iconst (v := 2) hx hb dX6_without_11 (by decide) ?_
  refine lv_iload_n hx hb dX6_without_12 rfl (lv_at hl 2 rfl) ?_
  refine lv_imul hx hb dX6_without_13 ?_
  refine lv_iconst (v := 2) hx hb dX6_without_14 (by decide) ?_
  refine lv_iadd hx hb dX6_without_15 ?_
  refine lv_iushr (v := (j_ushr x1 ((2 * x2) + 2))) hx hb dX6_without_16 rfl ?_
  refine lv_istore_n (lv' := [(3, .int (j_ushr x1 ((2 * x2) + 2))), (2, .int (x1 &&& (((1 : Int32) <<< ((2 * x2) &&& 31)) - 1))), (0, .int x1), (1, .int x2)]) hx hb dX6_without_17 rfl hl (by decide) rfl (fun ls hl => ?_)
  refine lv_iload_n hx hb dX6_without_18 rfl (lv_at hl 1 rfl) ?_
  refine lv_iload_n hx hb dX6_without_19 rfl (lv_at hl 0 rfl) ?_
  refine lv_iconst (v := 2) hx hb dX6_without_20 (by decide) ?_
  refine lv_iload_n hx hb dX6_without_21 rfl (lv_at hl 3 rfl) ?_
  refine lv_imul hx hb dX6_without_22 ?_
  refine lv_ishl hx hb dX6_without_23 ?_
  refine lv_ior hx hb dX6_without_24 ?_
  subst hQ
  exact W.iret (v := ((x1 &&& (((1 : Int32) <<< ((2 * x2) &&& 31)) - 1)) ||| ((j_ushr x1 ((2 * x2) + 2)) <<< ((2 * x2) &&& 31)))) hx hb hr (fun t ht hW => ⟨⟨_, (), rfl, h, trivial⟩, hS.F ht⟩) hS.2.2 dX6_without_25
abbrev rm_X6_at : Room := { frames := 0, cells := 0, slots := 0, locals := 0 }
set_option maxHeartbeats 4000000 in
set_option maxRecDepth 100000 in
theorem c_X6_at (l : Launch) (sz : Nat) (x1 : Int32) (x2 : Int32) (post : Int32 → Prop) (h : wp_X6_at x1 x2 post) : Met l yX6_at wsX6_at rm_X6_at (va_Pc [.int x1, .int x2] (fun U => U.heap.size = sz)) (va_Qi (fun (rr : Int32) (_ : Unit) => post rr) (fun (_ : Unit) (_ : State) => True) (va_A [] sz)) 0 0 (va_A [] sz) := by
  refine fl_ofW (cc := cX6_at) (maxL := 2) (ret := (some .int)) (by decide) rfl ?_
  intro p e s m args below meth c s₁ Q B hml hv hQ
  obtain ⟨hargs, hsz⟩ := hv
  have hx := B.exec
  have hb := B.bytes
  have hr := B.returns
  have hts := atoms_spec (ws := wsX6_at) B.pre
  have hown : s.vm.findClass RX6 = some m.cls := findClass_of_methodNamed B.named
  subst hsz
  generalize hAe : va_A [] s.heap.size = A at hQ
  have hA : ∀ q : Nat, s.heap.size ≤ q → A q := fun q h => by rw [← hAe]; exact Or.inr h
  have hS : va_S A s.heap s.heap [] := va_S.rf
  have hl := lv_entry ([.int x1, .int x2]) (n := 2) (Nat.le_of_ble_eq_true rfl)
  refine W.eq (g2 := F0 m 0 ((lg_sl ([.int x1, .int x2]) ++ List.replicate (2 - (lg_sl ([.int x1, .int x2])).length) Slot.unset).toArray) []) (by rw [hargs]; exact lg_entry_eq m _ 2) ?_
  generalize (lg_sl ([.int x1, .int x2]) ++ List.replicate (2 - (lg_sl ([.int x1, .int x2])).length) Slot.unset).toArray = ls at hl ⊢
  have hl : lv_has ls 2 [(0, .int x1), (1, .int x2)] := hl
  unfold wp_X6_at at h
  refine lv_iload_n hx hb dX6_at_0 rfl (lv_at hl 0 rfl) ?_
  refine lv_iconst (v := 2) hx hb dX6_at_1 (by decide) ?_
  refine lv_iload_n hx hb dX6_at_2 rfl (lv_at hl 1 rfl) ?_
  refine lv_imul hx hb dX6_at_3 ?_
  refine lv_iushr (v := (j_ushr x1 (2 * x2))) hx hb dX6_at_4 rfl ?_
  refine lv_iconst (v := 3) hx hb dX6_at_5 (by decide) ?_
  refine lv_iand hx hb dX6_at_6 ?_
  refine lv_iconst (v := 1) hx hb dX6_at_7 (by decide) ?_
  refine lv_isub hx hb dX6_at_8 ?_
  subst hQ
  exact W.iret (v := (((j_ushr x1 (2 * x2)) &&& 3) - 1)) hx hb hr (fun t ht hW => ⟨⟨_, (), rfl, h, trivial⟩, hS.F ht⟩) hS.2.2 dX6_at_9
abbrev rm_X6_isLonger : Room := { frames := 0, cells := 0, slots := 0, locals := 0 }
set_option maxHeartbeats 4000000 in
set_option maxRecDepth 100000 in
theorem c_X6_isLonger (l : Launch) (sz : Nat) (x1 : Int32) (x2 : Int32) (post : Int32 → Prop) (h : wp_X6_isLonger x1 x2 post) : Met l yX6_isLonger wsX6_isLonger rm_X6_isLonger (va_Pc [.int x1, .int x2] (fun U => U.heap.size = sz)) (va_Qi (fun (rr : Int32) (_ : Unit) => post rr) (fun (_ : Unit) (_ : State) => True) (va_A [] sz)) 0 0 (va_A [] sz) := by
  refine fl_ofW (cc := cX6_isLonger) (maxL := 2) (ret := (some .boolean)) (by decide) rfl ?_
  intro p e s m args below meth c s₁ Q B hml hv hQ
  obtain ⟨hargs, hsz⟩ := hv
  have hx := B.exec
  have hb := B.bytes
  have hr := B.returns
  have hts := atoms_spec (ws := wsX6_isLonger) B.pre
  have hown : s.vm.findClass RX6 = some m.cls := findClass_of_methodNamed B.named
  subst hsz
  generalize hAe : va_A [] s.heap.size = A at hQ
  have hA : ∀ q : Nat, s.heap.size ≤ q → A q := fun q h => by rw [← hAe]; exact Or.inr h
  have hS : va_S A s.heap s.heap [] := va_S.rf
  have hl := lv_entry ([.int x1, .int x2]) (n := 2) (Nat.le_of_ble_eq_true rfl)
  refine W.eq (g2 := F0 m 0 ((lg_sl ([.int x1, .int x2]) ++ List.replicate (2 - (lg_sl ([.int x1, .int x2])).length) Slot.unset).toArray) []) (by rw [hargs]; exact lg_entry_eq m _ 2) ?_
  generalize (lg_sl ([.int x1, .int x2]) ++ List.replicate (2 - (lg_sl ([.int x1, .int x2])).length) Slot.unset).toArray = ls at hl ⊢
  have hl : lv_has ls 2 [(0, .int x1), (1, .int x2)] := hl
  unfold wp_X6_isLonger at h
  refine lv_iload_n hx hb dX6_isLonger_0 rfl (lv_at hl 0 rfl) ?_
  refine lv_iconst (v := 2) hx hb dX6_isLonger_1 (by decide) ?_
  refine lv_iload_n hx hb dX6_isLonger_2 rfl (lv_at hl 1 rfl) ?_
  refine lv_imul hx hb dX6_isLonger_3 ?_
  refine lv_iushr (v := (j_ushr x1 (2 * x2))) hx hb dX6_isLonger_4 rfl ?_
  refine lv_if_eq (tgt := 12) hx hb dX6_isLonger_5 (by decide) (fun hc_1 => ?_) (fun hc_1 => ?_)
  · replace h := h.1 hc_1
    refine lv_iconst (v := 0) hx hb dX6_isLonger_12 (by decide) ?_
    subst hQ
    exact W.zret (v := 0) hx hb hr (by rfl) (fun t ht hW => ⟨⟨_, (), rfl, h, trivial⟩, hS.F ht⟩) hS.2.2 dX6_isLonger_13
  · replace h := h.2 hc_1
    refine lv_iconst (v := 1) hx hb dX6_isLonger_8 (by decide) ?_
    refine lv_goto (tgt := 13) hx hb dX6_isLonger_9 (by decide) ?_
    subst hQ
    exact W.zret (v := 1) hx hb hr (by rfl) (fun t ht hW => ⟨⟨_, (), rfl, h, trivial⟩, hS.F ht⟩) hS.2.2 dX6_isLonger_13
abbrev rm_X6_isIn : Room := { frames := 0, cells := 0, slots := 0, locals := 0 }
set_option maxHeartbeats 4000000 in
set_option maxRecDepth 100000 in
theorem c_X6_isIn (l : Launch) (sz : Nat) (x1 : Int32) (x2 : Int32) (post : Int32 → Prop) (h : wp_X6_isIn x1 x2 post) : Met l yX6_isIn wsX6_isIn rm_X6_isIn (va_Pc [.int x1, .int x2] (fun U => U.heap.size = sz)) (va_Qi (fun (rr : Int32) (_ : Unit) => post rr) (fun (_ : Unit) (_ : State) => True) (va_A [] sz)) 0 0 (va_A [] sz) := by
  refine fl_ofW (cc := cX6_isIn) (maxL := 5) (ret := (some .boolean)) (by decide) rfl ?_
  intro p e s m args below meth c s₁ Q B hml hv hQ
  obtain ⟨hargs, hsz⟩ := hv
  have hx := B.exec
  have hb := B.bytes
  have hr := B.returns
  have hts := atoms_spec (ws := wsX6_isIn) B.pre
  have hown : s.vm.findClass RX6 = some m.cls := findClass_of_methodNamed B.named
  subst hsz
  generalize hAe : va_A [] s.heap.size = A at hQ
  have hA : ∀ q : Nat, s.heap.size ≤ q → A q := fun q h => by rw [← hAe]; exact Or.inr h
  have hS : va_S A s.heap s.heap [] := va_S.rf
  have hl := lv_entry ([.int x1, .int x2]) (n := 5) (Nat.le_of_ble_eq_true rfl)
  refine W.eq (g2 := F0 m 0 ((lg_sl ([.int x1, .int x2]) ++ List.replicate (5 - (lg_sl ([.int x1, .int x2])).length) Slot.unset).toArray) []) (by rw [hargs]; exact lg_entry_eq m _ 5) ?_
  generalize (lg_sl ([.int x1, .int x2]) ++ List.replicate (5 - (lg_sl ([.int x1, .int x2])).length) Slot.unset).toArray = ls at hl ⊢
  have hl : lv_has ls 5 [(0, .int x1), (1, .int x2)] := hl
  unfold wp_X6_isIn at h
  refine lv_iload_n hx hb dX6_isIn_0 rfl (lv_at hl 0 rfl) ?_
  refine lv_istore_n (lv' := [(2, .int x1), (0, .int x1), (1, .int x2)]) hx hb dX6_isIn_1 rfl hl (by decide) rfl (fun ls hl => ?_)
  refine lv_iload_n hx hb dX6_isIn_2 rfl (lv_at hl 2 rfl) ?_
  refine lv_istore_n (lv' := [(3, .int x2), (2, .int x1), (0, .int x1), (1, .int x2)]) hx hb dX6_isIn_3 rfl hl (by decide) rfl (fun ls hl => ?_)
  refine lv_iconst (v := 0) hx hb dX6_isIn_4 (by decide) ?_
  refine lv_istore (lv' := [(4, .int 0), (3, .int x2), (2, .int x1), (0, .int x1), (1, .int x2)]) hx hb dX6_isIn_5 hl (by decide) rfl (fun ls hl => ?_)
  obtain ⟨n_13, h⟩ := h
  refine lq3_ind (GG := (fun (v4_2 : Int32) (v3_3 : Int32) (v2_4 : Int32) => ∀ (H : Heap) (locs : List Loc) (ls : Array Slot), va_S A s.heap H locs → lv_has ls 5 [(4, .int v4_2), (3, .int v3_3), (2, .int v2_4)] → W p l e (headSpec wsX6_isIn rm_X6_isIn).room s m args below meth c H locs 0 0 Q (F0 m 7 ls []))) (fun LL_1 ih_LL_1 v4_2 v3_3 v2_4 h H locs ls hS hl => ?_) n_13 _ _ _ h _ _ _ hS (lv_sub hl [0, 1, 2] rfl)
  refine lv_iload hx hb dX6_isIn_7 (lv_at hl 0 rfl) ?_
  refine lv_bipush (v := 15) hx hb dX6_isIn_9 (by decide) ?_
  refine jn0_ind (GG := (∀ (H : Heap) (locs : List Loc) (ls : Array Slot), va_S A s.heap H locs → lv_has ls 5 [(2, .int v2_4)] → W p l e (headSpec wsX6_isIn rm_X6_isIn).room s m args below meth c H locs 0 0 Q (F0 m 45 ls []))) h (fun  h H locs ls hS hl => ?_) (fun JJ_5 ih_JJ_5 h => ?_)
  · refine lv_iload_n hx hb dX6_isIn_45 rfl (lv_at hl 0 rfl) ?_
    refine lv_if_ne (tgt := 53) hx hb dX6_isIn_46 (by decide) (fun hc_6 => ?_) (fun hc_6 => ?_)
    · replace h := h.1 hc_6
      refine lv_iconst (v := 0) hx hb dX6_isIn_53 (by decide) ?_
      subst hQ
      exact W.zret (v := 0) hx hb hr (by rfl) (fun t ht hW => ⟨⟨_, (), rfl, h, trivial⟩, hS.F ht⟩) hS.2.2 dX6_isIn_54
    · replace h := h.2 hc_6
      refine lv_iconst (v := 1) hx hb dX6_isIn_49 (by decide) ?_
      refine lv_goto (tgt := 54) hx hb dX6_isIn_50 (by decide) ?_
      subst hQ
      exact W.zret (v := 1) hx hb hr (by rfl) (fun t ht hW => ⟨⟨_, (), rfl, h, trivial⟩, hS.F ht⟩) hS.2.2 dX6_isIn_54
  · refine lv_icmp_ge (tgt := 45) hx hb dX6_isIn_11 (by decide) (fun hc_7 => ?_) (fun hc_7 => ?_)
    · replace h := h.1 hc_7
      exact ih_JJ_5 h _ _ _ hS (lv_sub hl [2] rfl)
    · replace h := h.2 hc_7
      refine lv_iload_n hx hb dX6_isIn_14 rfl (lv_at hl 2 rfl) ?_
      refine lv_if_eq (tgt := 45) hx hb dX6_isIn_15 (by decide) (fun hc_8 => ?_) (fun hc_8 => ?_)
      · replace h := h.1 hc_8
        exact ih_JJ_5 h _ _ _ hS (lv_sub hl [2] rfl)
      · replace h := h.2 hc_8
        refine lv_iload_n hx hb dX6_isIn_18 rfl (lv_at hl 1 rfl) ?_
        refine lv_if_eq (tgt := 45) hx hb dX6_isIn_19 (by decide) (fun hc_9 => ?_) (fun hc_9 => ?_)
        · replace h := h.1 hc_9
          exact ih_JJ_5 h _ _ _ hS (lv_sub hl [2] rfl)
        · replace h := h.2 hc_9
          refine lv_iload_n hx hb dX6_isIn_22 rfl (lv_at hl 2 rfl) ?_
          refine lv_iconst (v := 3) hx hb dX6_isIn_23 (by decide) ?_
          refine lv_iand hx hb dX6_isIn_24 ?_
          refine lv_iload_n hx hb dX6_isIn_25 rfl (lv_at hl 1 rfl) ?_
          refine lv_iconst (v := 3) hx hb dX6_isIn_26 (by decide) ?_
          refine lv_iand hx hb dX6_isIn_27 ?_
          refine jn1_ind (GG := (fun (v2_11 : Int32) => ∀ (H : Heap) (locs : List Loc) (ls : Array Slot), va_S A s.heap H locs → lv_has ls 5 [(4, .int v4_2), (3, .int v3_3), (2, .int v2_11)] → W p l e (headSpec wsX6_isIn rm_X6_isIn).room s m args below meth c H locs 0 0 Q (F0 m 35 ls []))) h (fun v2_11 h H locs ls hS hl => ?_) (fun JJ_10 ih_JJ_10 h => ?_)
          · refine lv_iload_n hx hb dX6_isIn_35 rfl (lv_at hl 1 rfl) ?_
            refine lv_iconst (v := 2) hx hb dX6_isIn_36 (by decide) ?_
            refine lv_iushr (v := (j_ushr v3_3 2)) hx hb dX6_isIn_37 rfl ?_
            refine lv_istore_n (lv' := [(3, .int (j_ushr v3_3 2)), (4, .int v4_2), (2, .int v2_11)]) hx hb dX6_isIn_38 rfl hl (by decide) rfl (fun ls hl => ?_)
            refine lv_iinc (v := (v4_2 + 1)) (lv' := [(4, .int (v4_2 + 1)), (3, .int (j_ushr v3_3 2)), (2, .int v2_11)]) hx hb dX6_isIn_39 hl (k := 1) rfl rfl (by decide) rfl (fun ls hl => ?_)
            refine lv_goto (tgt := 7) hx hb dX6_isIn_42 (by decide) ?_
            exact ih_LL_1 _ _ _ h _ _ _ hS (lv_sub hl [0, 1, 2] rfl)
          · refine lv_icmp_ne (tgt := 35) hx hb dX6_isIn_28 (by decide) (fun hc_12 => ?_) (fun hc_12 => ?_)
            · replace h := h.1 hc_12
              exact ih_JJ_10 _ h _ _ _ hS (lv_sub hl [0, 1, 2] rfl)
            · replace h := h.2 hc_12
              refine lv_iload_n hx hb dX6_isIn_31 rfl (lv_at hl 2 rfl) ?_
              refine lv_iconst (v := 2) hx hb dX6_isIn_32 (by decide) ?_
              refine lv_iushr (v := (j_ushr v2_4 2)) hx hb dX6_isIn_33 rfl ?_
              refine lv_istore_n (lv' := [(2, .int (j_ushr v2_4 2)), (4, .int v4_2), (3, .int v3_3)]) hx hb dX6_isIn_34 rfl hl (by decide) rfl (fun ls hl => ?_)
              exact ih_JJ_10 _ h _ _ _ hS (lv_sub hl [1, 2, 0] rfl)
abbrev rm_J7_fill_53178 : Room := { frames := 0, cells := 0, slots := 0, locals := 0 }
set_option maxHeartbeats 4000000 in
set_option maxRecDepth 100000 in
theorem c_J7_fill_53178 (l : Launch) (dC : Nat → ClassId) (dI : Nat → Nat → Nat) (a1 : Nat) (ca1 : ClassId) (n1 : Nat) (sz : Nat) (u1 : Nat → Int32) (x2 : Int32) (post : (Nat → Int32) → Prop) (h : wp_J7_fill_53178 n1 u1 x2 post) : Met l yJ7_fill_53178 wsJ7_fill_53178 rm_J7_fill_53178 (va_Pc [.ref a1, .int x2] (fun U => U.heap.size = sz ∧ va_P (dC, dI) vwCl ([(a1, .inl (ca1, n1, .inl u1))]) U.heap ∧ va_K (dC, dI) vwCl ([(ca1, .int)]) U ∧ va_D (fun _ => True) ([(a1, .inl (ca1, n1, .inl u1))]))) (va_Qv post (fun (zz : Nat → Int32) (t : State) => va_P (dC, dI) vwCl ([(a1, .inl (ca1, n1, .inl zz))]) t.heap ∧ va_D (va_A ([(a1, .inl (ca1, n1, .inl u1))]) sz) ([(a1, .inl (ca1, n1, .inl zz))])) (va_A ([(a1, .inl (ca1, n1, .inl u1))]) sz)) 0 0 (va_A ([(a1, .inl (ca1, n1, .inl u1))]) sz) := by
  refine fl_ofW (cc := cJ7_fill_53178) (maxL := 4) (ret := none) (by decide) rfl ?_
  intro p e s m args below meth c s₁ Q B hml hv hQ
  obtain ⟨hargs, hsz, hP, hK, hD0⟩ := hv
  have hx := B.exec
  have hb := B.bytes
  have hr := B.returns
  have hts := atoms_spec (ws := wsJ7_fill_53178) B.pre
  have hown : s.vm.findClass RJ7 = some m.cls := findClass_of_methodNamed B.named
  subst hsz
  have hD := hD0.self (sz := s.heap.size)
  generalize hAe : va_A ([(a1, .inl (ca1, n1, .inl u1))]) s.heap.size = A at hD hQ
  have hA : ∀ q : Nat, s.heap.size ≤ q → A q := fun q h => by rw [← hAe]; exact Or.inr h
  have hS : va_S A s.heap s.heap [] := va_S.rf
  have hl := lv_entry ([.ref a1, .int x2]) (n := 4) (Nat.le_of_ble_eq_true rfl)
  refine W.eq (g2 := F0 m 0 ((lg_sl ([.ref a1, .int x2]) ++ List.replicate (4 - (lg_sl ([.ref a1, .int x2])).length) Slot.unset).toArray) []) (by rw [hargs]; exact lg_entry_eq m _ 4) ?_
  generalize (lg_sl ([.ref a1, .int x2]) ++ List.replicate (4 - (lg_sl ([.ref a1, .int x2])).length) Slot.unset).toArray = ls at hl ⊢
  have hl : lv_has ls 4 [(0, .ref a1), (1, .int x2)] := hl
  unfold wp_J7_fill_53178 at h
  refine lv_iconst (v := 0) hx hb dJ7_fill_53178_0 (by decide) ?_
  refine lv_istore_n (lv' := [(2, .int 0), (0, .ref a1), (1, .int x2)]) hx hb dJ7_fill_53178_1 rfl hl (by decide) rfl (fun ls hl => ?_)
  refine lv_aload_n hx hb dJ7_fill_53178_2 rfl (lv_at hl 1 rfl) ?_
  refine va_alen (D := (dC, dI)) (cl := vwCl) hx hb hK hP 0 0 rfl rfl rfl dJ7_fill_53178_3 ?_
  refine lv_istore_n (lv' := [(3, .int (Int32.ofNat n1)), (2, .int 0), (0, .ref a1), (1, .int x2)]) hx hb dJ7_fill_53178_4 rfl hl (by decide) rfl (fun ls hl => ?_)
  obtain ⟨n_7, h⟩ := h
  refine lq2_ind (GG := (fun (v2_2 : Int32) (u1_3 : Nat → Int32) => ∀ (H : Heap) (locs : List Loc) (ls : Array Slot), va_P (dC, dI) vwCl ([(a1, .inl (ca1, n1, .inl u1_3))]) H → va_D A ([(a1, .inl (ca1, n1, .inl u1_3))]) → va_S A s.heap H locs → lv_has ls 4 [(3, .int (Int32.ofNat n1)), (2, .int v2_2), (0, .ref a1), (1, .int x2)] → W p l e (headSpec wsJ7_fill_53178 rm_J7_fill_53178).room s m args below meth c H locs 0 0 Q (F0 m 5 ls []))) (fun LL_1 ih_LL_1 v2_2 u1_3 h H locs ls hP hD hS hl => ?_) n_7 _ _ h _ _ _ hP hD hS (lv_sub hl [0, 1, 2, 3] rfl)
  refine lv_iload_n hx hb dJ7_fill_53178_5 rfl (lv_at hl 1 rfl) ?_
  refine lv_iload_n hx hb dJ7_fill_53178_6 rfl (lv_at hl 0 rfl) ?_
  refine lv_icmp_ge (tgt := 20) hx hb dJ7_fill_53178_7 (by decide) (fun hc_4 => ?_) (fun hc_4 => ?_)
  · replace h := h.1 hc_4
    subst hQ
    exact W.vret hx hb hr (fun t ht hW => ⟨⟨u1_3, rfl, h, by rw [ht]; exact hP, hD⟩, hS.F ht⟩) hS.2.2 dJ7_fill_53178_20
  · replace h := h.2 hc_4
    refine lv_aload_n hx hb dJ7_fill_53178_10 rfl (lv_at hl 2 rfl) ?_
    refine lv_iload_n hx hb dJ7_fill_53178_11 rfl (lv_at hl 1 rfl) ?_
    refine lv_iload_n hx hb dJ7_fill_53178_12 rfl (lv_at hl 3 rfl) ?_
    obtain ⟨hi_5, h⟩ := h
    refine va_iast (D := (dC, dI)) (cl := vwCl) (i := v2_2) hx hb hK hP hD hS 0 0 rfl rfl hi_5 dJ7_fill_53178_13 (fun H locs hP hD hS => ?_)
    obtain ⟨u1_6, eu1_6⟩ : ∃ z : Nat → Int32, z = (upd u1_3 v2_2.toNatClampNeg x2) := ⟨_, rfl⟩
    replace h := h u1_6 eu1_6
    replace hP : va_P (dC, dI) vwCl ([(a1, .inl (ca1, n1, .inl u1_6))]) H := by rw [eu1_6]; exact hP
    replace hD : va_D A ([(a1, .inl (ca1, n1, .inl u1_6))]) := by rw [eu1_6]; exact hD
    refine lv_iinc (v := (v2_2 + 1)) (lv' := [(2, .int (v2_2 + 1)), (3, .int (Int32.ofNat n1)), (0, .ref a1), (1, .int x2)]) hx hb dJ7_fill_53178_14 hl (k := 1) rfl rfl (by decide) rfl (fun ls hl => ?_)
    refine lv_goto (tgt := 5) hx hb dJ7_fill_53178_17 (by decide) ?_
    exact ih_LL_1 _ _ h _ _ _ hP hD hS (lv_sub hl [1, 0, 2, 3] rfl)
abbrev rm_J7_fill_d0a16 : Room := { frames := 0, cells := 0, slots := 0, locals := 0 }
set_option maxHeartbeats 4000000 in
set_option maxRecDepth 100000 in
theorem c_J7_fill_d0a16 (l : Launch) (dC : Nat → ClassId) (dI : Nat → Nat → Nat) (a1 : Nat) (ca1 : ClassId) (n1 : Nat) (sz : Nat) (u1 : Nat → Int64) (x2 : Int64) (post : (Nat → Int64) → Prop) (h : wp_J7_fill_d0a16 n1 u1 x2 post) : Met l yJ7_fill_d0a16 wsJ7_fill_d0a16 rm_J7_fill_d0a16 (va_Pc [.ref a1, .long x2] (fun U => U.heap.size = sz ∧ va_P (dC, dI) vwCl ([(a1, .inl (ca1, n1, .inr (.inl u1)))]) U.heap ∧ va_K (dC, dI) vwCl ([(ca1, .long)]) U ∧ va_D (fun _ => True) ([(a1, .inl (ca1, n1, .inr (.inl u1)))]))) (va_Qv post (fun (zz : Nat → Int64) (t : State) => va_P (dC, dI) vwCl ([(a1, .inl (ca1, n1, .inr (.inl zz)))]) t.heap ∧ va_D (va_A ([(a1, .inl (ca1, n1, .inr (.inl u1)))]) sz) ([(a1, .inl (ca1, n1, .inr (.inl zz)))])) (va_A ([(a1, .inl (ca1, n1, .inr (.inl u1)))]) sz)) 0 0 (va_A ([(a1, .inl (ca1, n1, .inr (.inl u1)))]) sz) := by
  refine fl_ofW (cc := cJ7_fill_d0a16) (maxL := 5) (ret := none) (by decide) rfl ?_
  intro p e s m args below meth c s₁ Q B hml hv hQ
  obtain ⟨hargs, hsz, hP, hK, hD0⟩ := hv
  have hx := B.exec
  have hb := B.bytes
  have hr := B.returns
  have hts := atoms_spec (ws := wsJ7_fill_d0a16) B.pre
  have hown : s.vm.findClass RJ7 = some m.cls := findClass_of_methodNamed B.named
  subst hsz
  have hD := hD0.self (sz := s.heap.size)
  generalize hAe : va_A ([(a1, .inl (ca1, n1, .inr (.inl u1)))]) s.heap.size = A at hD hQ
  have hA : ∀ q : Nat, s.heap.size ≤ q → A q := fun q h => by rw [← hAe]; exact Or.inr h
  have hS : va_S A s.heap s.heap [] := va_S.rf
  have hl := lv_entry ([.ref a1, .long x2]) (n := 5) (Nat.le_of_ble_eq_true rfl)
  refine W.eq (g2 := F0 m 0 ((lg_sl ([.ref a1, .long x2]) ++ List.replicate (5 - (lg_sl ([.ref a1, .long x2])).length) Slot.unset).toArray) []) (by rw [hargs]; exact lg_entry_eq m _ 5) ?_
  generalize (lg_sl ([.ref a1, .long x2]) ++ List.replicate (5 - (lg_sl ([.ref a1, .long x2])).length) Slot.unset).toArray = ls at hl ⊢
  have hl : lv_has ls 5 [(0, .ref a1), (1, .long x2)] := hl
  unfold wp_J7_fill_d0a16 at h
  refine lv_iconst (v := 0) hx hb dJ7_fill_d0a16_0 (by decide) ?_
  refine lv_istore_n (lv' := [(3, .int 0), (0, .ref a1), (1, .long x2)]) hx hb dJ7_fill_d0a16_1 rfl hl (by decide) rfl (fun ls hl => ?_)
  refine lv_aload_n hx hb dJ7_fill_d0a16_2 rfl (lv_at hl 1 rfl) ?_
  refine va_alen (D := (dC, dI)) (cl := vwCl) hx hb hK hP 0 0 rfl rfl rfl dJ7_fill_d0a16_3 ?_
  refine lv_istore (lv' := [(4, .int (Int32.ofNat n1)), (3, .int 0), (0, .ref a1), (1, .long x2)]) hx hb dJ7_fill_d0a16_4 hl (by decide) rfl (fun ls hl => ?_)
  obtain ⟨n_7, h⟩ := h
  refine lq2_ind (GG := (fun (v3_2 : Int32) (u1_3 : Nat → Int64) => ∀ (H : Heap) (locs : List Loc) (ls : Array Slot), va_P (dC, dI) vwCl ([(a1, .inl (ca1, n1, .inr (.inl u1_3)))]) H → va_D A ([(a1, .inl (ca1, n1, .inr (.inl u1_3)))]) → va_S A s.heap H locs → lv_has ls 5 [(4, .int (Int32.ofNat n1)), (3, .int v3_2), (0, .ref a1), (1, .long x2)] → W p l e (headSpec wsJ7_fill_d0a16 rm_J7_fill_d0a16).room s m args below meth c H locs 0 0 Q (F0 m 6 ls []))) (fun LL_1 ih_LL_1 v3_2 u1_3 h H locs ls hP hD hS hl => ?_) n_7 _ _ h _ _ _ hP hD hS (lv_sub hl [0, 1, 2, 3] rfl)
  refine lv_iload_n hx hb dJ7_fill_d0a16_6 rfl (lv_at hl 1 rfl) ?_
  refine lv_iload hx hb dJ7_fill_d0a16_7 (lv_at hl 0 rfl) ?_
  refine lv_icmp_ge (tgt := 22) hx hb dJ7_fill_d0a16_9 (by decide) (fun hc_4 => ?_) (fun hc_4 => ?_)
  · replace h := h.1 hc_4
    subst hQ
    exact W.vret hx hb hr (fun t ht hW => ⟨⟨u1_3, rfl, h, by rw [ht]; exact hP, hD⟩, hS.F ht⟩) hS.2.2 dJ7_fill_d0a16_22
  · replace h := h.2 hc_4
    refine lv_aload_n hx hb dJ7_fill_d0a16_12 rfl (lv_at hl 2 rfl) ?_
    refine lv_iload_n hx hb dJ7_fill_d0a16_13 rfl (lv_at hl 1 rfl) ?_
    refine lv_lload_n hx hb dJ7_fill_d0a16_14 rfl (lv_at hl 3 rfl) ?_
    obtain ⟨hi_5, h⟩ := h
    refine va_last (D := (dC, dI)) (cl := vwCl) (i := v3_2) hx hb hK hP hD hS 0 0 rfl rfl hi_5 dJ7_fill_d0a16_15 (fun H locs hP hD hS => ?_)
    obtain ⟨u1_6, eu1_6⟩ : ∃ z : Nat → Int64, z = (vp_updL u1_3 v3_2.toNatClampNeg x2) := ⟨_, rfl⟩
    replace h := h u1_6 eu1_6
    replace hP : va_P (dC, dI) vwCl ([(a1, .inl (ca1, n1, .inr (.inl u1_6)))]) H := by rw [eu1_6]; exact hP
    replace hD : va_D A ([(a1, .inl (ca1, n1, .inr (.inl u1_6)))]) := by rw [eu1_6]; exact hD
    refine lv_iinc (v := (v3_2 + 1)) (lv' := [(3, .int (v3_2 + 1)), (4, .int (Int32.ofNat n1)), (0, .ref a1), (1, .long x2)]) hx hb dJ7_fill_d0a16_16 hl (k := 1) rfl rfl (by decide) rfl (fun ls hl => ?_)
    refine lv_goto (tgt := 6) hx hb dJ7_fill_d0a16_19 (by decide) ?_
    exact ih_LL_1 _ _ h _ _ _ hP hD hS (lv_sub hl [1, 0, 2, 3] rfl)
end
