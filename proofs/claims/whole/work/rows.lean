section
-- ===== PART A: goes FIRST, ahead of the names: the tables' words, and 'selects' of the private methods out of them =====
/-- a private method of a class that the tables say can be made, by its rows of tables_1 -/
def lw_okq (q : MethodName × Nat) : Prop := (q.1.cls ≠ "java/lang/invoke/MethodHandle" ∧ q.1.cls ≠ "java/lang/invoke/VarHandle") ∧ Cond.instantiable q.1.cls q.2 ∈ tables_1 ∧ Cond.privateMethod q.1 ∈ tables_1 ∧ Cond.instanceMethod q.1 ∈ tables_1
theorem lw_p0 : lw_okq (⟨"BoltTailors", "errorOfCut", "(I)I"⟩, 10) := ⟨⟨by decide +kernel, by decide +kernel⟩, List.mem_of_getElem? (i := 13) (by decide +kernel), List.mem_of_getElem? (i := 188) (by decide +kernel), List.mem_of_getElem? (i := 189) (by decide +kernel)⟩
theorem lw_p1 : lw_okq (⟨"BoltTailors", "record", "()V"⟩, 10) := ⟨⟨by decide +kernel, by decide +kernel⟩, List.mem_of_getElem? (i := 13) (by decide +kernel), List.mem_of_getElem? (i := 203) (by decide +kernel), List.mem_of_getElem? (i := 204) (by decide +kernel)⟩
theorem lw_p2 : lw_okq (⟨"BoltTailors", "dropOldest", "()V"⟩, 10) := ⟨⟨by decide +kernel, by decide +kernel⟩, List.mem_of_getElem? (i := 13) (by decide +kernel), List.mem_of_getElem? (i := 207) (by decide +kernel), List.mem_of_getElem? (i := 208) (by decide +kernel)⟩
theorem lw_p3 : lw_okq (⟨"BoltTailors", "pastAt", "(I)LBoltTailors$Game;"⟩, 10) := ⟨⟨by decide +kernel, by decide +kernel⟩, List.mem_of_getElem? (i := 13) (by decide +kernel), List.mem_of_getElem? (i := 211) (by decide +kernel), List.mem_of_getElem? (i := 212) (by decide +kernel)⟩
theorem lw_p4 : lw_okq (⟨"BoltTailors", "cutBy", "(I)I"⟩, 10) := ⟨⟨by decide +kernel, by decide +kernel⟩, List.mem_of_getElem? (i := 13) (by decide +kernel), List.mem_of_getElem? (i := 272) (by decide +kernel), List.mem_of_getElem? (i := 273) (by decide +kernel)⟩
theorem lw_p5 : lw_okq (⟨"BoltTailors", "choice", "(LBoltTailors$Game;I)I"⟩, 10) := ⟨⟨by decide +kernel, by decide +kernel⟩, List.mem_of_getElem? (i := 13) (by decide +kernel), List.mem_of_getElem? (i := 276) (by decide +kernel), List.mem_of_getElem? (i := 277) (by decide +kernel)⟩
theorem lw_p6 : lw_okq (⟨"BoltTailors", "faultAsBolt", "()I"⟩, 10) := ⟨⟨by decide +kernel, by decide +kernel⟩, List.mem_of_getElem? (i := 13) (by decide +kernel), List.mem_of_getElem? (i := 369) (by decide +kernel), List.mem_of_getElem? (i := 370) (by decide +kernel)⟩
theorem lw_p7 : lw_okq (⟨"BoltTailors", "lettersAhead", "()I"⟩, 10) := ⟨⟨by decide +kernel, by decide +kernel⟩, List.mem_of_getElem? (i := 13) (by decide +kernel), List.mem_of_getElem? (i := 373) (by decide +kernel), List.mem_of_getElem? (i := 374) (by decide +kernel)⟩
theorem lw_p8 : lw_okq (⟨"BoltTailors", "signAt", "(I)C"⟩, 10) := ⟨⟨by decide +kernel, by decide +kernel⟩, List.mem_of_getElem? (i := 13) (by decide +kernel), List.mem_of_getElem? (i := 377) (by decide +kernel), List.mem_of_getElem? (i := 378) (by decide +kernel)⟩
theorem lw_p9 : lw_okq (⟨"BoltTailors", "faultBehindStar", "(I)I"⟩, 10) := ⟨⟨by decide +kernel, by decide +kernel⟩, List.mem_of_getElem? (i := 13) (by decide +kernel), List.mem_of_getElem? (i := 381) (by decide +kernel), List.mem_of_getElem? (i := 382) (by decide +kernel)⟩
theorem lw_p10 : lw_okq (⟨"BoltTailors", "digitsOfNumber", "(I)I"⟩, 10) := ⟨⟨by decide +kernel, by decide +kernel⟩, List.mem_of_getElem? (i := 13) (by decide +kernel), List.mem_of_getElem? (i := 385) (by decide +kernel), List.mem_of_getElem? (i := 386) (by decide +kernel)⟩
theorem lw_p11 : lw_okq (⟨"BoltTailors", "digitAt", "(I)I"⟩, 10) := ⟨⟨by decide +kernel, by decide +kernel⟩, List.mem_of_getElem? (i := 13) (by decide +kernel), List.mem_of_getElem? (i := 389) (by decide +kernel), List.mem_of_getElem? (i := 390) (by decide +kernel)⟩
theorem lw_p12 : lw_okq (⟨"BoltTailors", "faultAsCuts", "()I"⟩, 10) := ⟨⟨by decide +kernel, by decide +kernel⟩, List.mem_of_getElem? (i := 13) (by decide +kernel), List.mem_of_getElem? (i := 393) (by decide +kernel), List.mem_of_getElem? (i := 394) (by decide +kernel)⟩
theorem lw_p13 : lw_okq (⟨"BoltTailors", "layPattern", "(I)V"⟩, 10) := ⟨⟨by decide +kernel, by decide +kernel⟩, List.mem_of_getElem? (i := 13) (by decide +kernel), List.mem_of_getElem? (i := 404) (by decide +kernel), List.mem_of_getElem? (i := 405) (by decide +kernel)⟩
theorem lw_p14 : lw_okq (⟨"BoltTailors", "layLetters", "(III)V"⟩, 10) := ⟨⟨by decide +kernel, by decide +kernel⟩, List.mem_of_getElem? (i := 13) (by decide +kernel), List.mem_of_getElem? (i := 408) (by decide +kernel), List.mem_of_getElem? (i := 409) (by decide +kernel)⟩
theorem lw_p15 : lw_okq (⟨"BoltTailors", "codeOnPad", "(I)I"⟩, 10) := ⟨⟨by decide +kernel, by decide +kernel⟩, List.mem_of_getElem? (i := 13) (by decide +kernel), List.mem_of_getElem? (i := 416) (by decide +kernel), List.mem_of_getElem? (i := 417) (by decide +kernel)⟩
def lw_privs_1 : List (MethodName × Nat) := [(⟨"BoltTailors", "errorOfCut", "(I)I"⟩, 10), (⟨"BoltTailors", "record", "()V"⟩, 10), (⟨"BoltTailors", "dropOldest", "()V"⟩, 10), (⟨"BoltTailors", "pastAt", "(I)LBoltTailors$Game;"⟩, 10), (⟨"BoltTailors", "cutBy", "(I)I"⟩, 10), (⟨"BoltTailors", "choice", "(LBoltTailors$Game;I)I"⟩, 10), (⟨"BoltTailors", "faultAsBolt", "()I"⟩, 10), (⟨"BoltTailors", "lettersAhead", "()I"⟩, 10), (⟨"BoltTailors", "signAt", "(I)C"⟩, 10), (⟨"BoltTailors", "faultBehindStar", "(I)I"⟩, 10), (⟨"BoltTailors", "digitsOfNumber", "(I)I"⟩, 10), (⟨"BoltTailors", "digitAt", "(I)I"⟩, 10), (⟨"BoltTailors", "faultAsCuts", "()I"⟩, 10), (⟨"BoltTailors", "layPattern", "(I)V"⟩, 10), (⟨"BoltTailors", "layLetters", "(III)V"⟩, 10), (⟨"BoltTailors", "codeOnPad", "(I)I"⟩, 10)]
theorem lw_r1 : ∀ q ∈ lw_privs_1, lw_okq q := List.forall_mem_cons.mpr ⟨lw_p0, List.forall_mem_cons.mpr ⟨lw_p1, List.forall_mem_cons.mpr ⟨lw_p2, List.forall_mem_cons.mpr ⟨lw_p3, List.forall_mem_cons.mpr ⟨lw_p4, List.forall_mem_cons.mpr ⟨lw_p5, List.forall_mem_cons.mpr ⟨lw_p6, List.forall_mem_cons.mpr ⟨lw_p7, List.forall_mem_cons.mpr ⟨lw_p8, List.forall_mem_cons.mpr ⟨lw_p9, List.forall_mem_cons.mpr ⟨lw_p10, List.forall_mem_cons.mpr ⟨lw_p11, List.forall_mem_cons.mpr ⟨lw_p12, List.forall_mem_cons.mpr ⟨lw_p13, List.forall_mem_cons.mpr ⟨lw_p14, List.forall_mem_cons.mpr ⟨lw_p15, fun _ h => absurd h List.not_mem_nil⟩⟩⟩⟩⟩⟩⟩⟩⟩⟩⟩⟩⟩⟩⟩⟩
theorem lw_p16 : lw_okq (⟨"BoltTailors", "leadTold", "(LBoltTailors$Game;)I"⟩, 10) := ⟨⟨by decide +kernel, by decide +kernel⟩, List.mem_of_getElem? (i := 13) (by decide +kernel), List.mem_of_getElem? (i := 483) (by decide +kernel), List.mem_of_getElem? (i := 484) (by decide +kernel)⟩
theorem lw_p17 : lw_okq (⟨"BoltTailors", "leadGoneInto", "(LBoltTailors$Game;)I"⟩, 10) := ⟨⟨by decide +kernel, by decide +kernel⟩, List.mem_of_getElem? (i := 13) (by decide +kernel), List.mem_of_getElem? (i := 493) (by decide +kernel), List.mem_of_getElem? (i := 494) (by decide +kernel)⟩
theorem lw_p18 : lw_okq (⟨"BoltTailors", "leadOfCut", "(LBoltTailors$Game;I)I"⟩, 10) := ⟨⟨by decide +kernel, by decide +kernel⟩, List.mem_of_getElem? (i := 13) (by decide +kernel), List.mem_of_getElem? (i := 501) (by decide +kernel), List.mem_of_getElem? (i := 502) (by decide +kernel)⟩
theorem lw_p19 : lw_okq (⟨"BoltTailorsModel", "beginsAgain", "()V"⟩, 14) := ⟨⟨by decide +kernel, by decide +kernel⟩, List.mem_of_getElem? (i := 529) (by decide +kernel), List.mem_of_getElem? (i := 535) (by decide +kernel), List.mem_of_getElem? (i := 536) (by decide +kernel)⟩
theorem lw_p20 : lw_okq (⟨"BoltTailorsModel", "errorCut", "(I)I"⟩, 14) := ⟨⟨by decide +kernel, by decide +kernel⟩, List.mem_of_getElem? (i := 529) (by decide +kernel), List.mem_of_getElem? (i := 586) (by decide +kernel), List.mem_of_getElem? (i := 587) (by decide +kernel)⟩
theorem lw_p21 : lw_okq (⟨"BoltTailorsModel", "records", "()V"⟩, 14) := ⟨⟨by decide +kernel, by decide +kernel⟩, List.mem_of_getElem? (i := 529) (by decide +kernel), List.mem_of_getElem? (i := 593) (by decide +kernel), List.mem_of_getElem? (i := 594) (by decide +kernel)⟩
theorem lw_p22 : lw_okq (⟨"BoltTailorsModel", "goCut", "(IZ)I"⟩, 14) := ⟨⟨by decide +kernel, by decide +kernel⟩, List.mem_of_getElem? (i := 529) (by decide +kernel), List.mem_of_getElem? (i := 600) (by decide +kernel), List.mem_of_getElem? (i := 601) (by decide +kernel)⟩
theorem lw_p23 : lw_okq (⟨"BoltTailorsModel", "coatOf", "(II)I"⟩, 14) := ⟨⟨by decide +kernel, by decide +kernel⟩, List.mem_of_getElem? (i := 529) (by decide +kernel), List.mem_of_getElem? (i := 607) (by decide +kernel), List.mem_of_getElem? (i := 608) (by decide +kernel)⟩
theorem lw_p24 : lw_okq (⟨"BoltTailorsModel", "worthOf", "(III)I"⟩, 14) := ⟨⟨by decide +kernel, by decide +kernel⟩, List.mem_of_getElem? (i := 529) (by decide +kernel), List.mem_of_getElem? (i := 611) (by decide +kernel), List.mem_of_getElem? (i := 612) (by decide +kernel)⟩
theorem lw_p25 : lw_okq (⟨"BoltTailorsModel", "folds", "(II)Z"⟩, 14) := ⟨⟨by decide +kernel, by decide +kernel⟩, List.mem_of_getElem? (i := 529) (by decide +kernel), List.mem_of_getElem? (i := 615) (by decide +kernel), List.mem_of_getElem? (i := 616) (by decide +kernel)⟩
theorem lw_p26 : lw_okq (⟨"BoltTailorsModel", "matches", "(II)Z"⟩, 14) := ⟨⟨by decide +kernel, by decide +kernel⟩, List.mem_of_getElem? (i := 529) (by decide +kernel), List.mem_of_getElem? (i := 619) (by decide +kernel), List.mem_of_getElem? (i := 620) (by decide +kernel)⟩
theorem lw_p27 : lw_okq (⟨"BoltTailorsModel", "adds", "(III)V"⟩, 14) := ⟨⟨by decide +kernel, by decide +kernel⟩, List.mem_of_getElem? (i := 529) (by decide +kernel), List.mem_of_getElem? (i := 623) (by decide +kernel), List.mem_of_getElem? (i := 624) (by decide +kernel)⟩
theorem lw_p28 : lw_okq (⟨"BoltTailorsModel", "isOver", "()Z"⟩, 14) := ⟨⟨by decide +kernel, by decide +kernel⟩, List.mem_of_getElem? (i := 529) (by decide +kernel), List.mem_of_getElem? (i := 631) (by decide +kernel), List.mem_of_getElem? (i := 632) (by decide +kernel)⟩
theorem lw_p29 : lw_okq (⟨"BoltTailorsModel", "laysLeads", "()V"⟩, 14) := ⟨⟨by decide +kernel, by decide +kernel⟩, List.mem_of_getElem? (i := 529) (by decide +kernel), List.mem_of_getElem? (i := 635) (by decide +kernel), List.mem_of_getElem? (i := 636) (by decide +kernel)⟩
theorem lw_p30 : lw_okq (⟨"BoltTailorsModel", "laysLead", "(IIII)V"⟩, 14) := ⟨⟨by decide +kernel, by decide +kernel⟩, List.mem_of_getElem? (i := 529) (by decide +kernel), List.mem_of_getElem? (i := 639) (by decide +kernel), List.mem_of_getElem? (i := 640) (by decide +kernel)⟩
theorem lw_p31 : lw_okq (⟨"BoltTailorsModel", "most", "(I)I"⟩, 14) := ⟨⟨by decide +kernel, by decide +kernel⟩, List.mem_of_getElem? (i := 529) (by decide +kernel), List.mem_of_getElem? (i := 643) (by decide +kernel), List.mem_of_getElem? (i := 644) (by decide +kernel)⟩
def lw_privs_2 : List (MethodName × Nat) := [(⟨"BoltTailors", "leadTold", "(LBoltTailors$Game;)I"⟩, 10), (⟨"BoltTailors", "leadGoneInto", "(LBoltTailors$Game;)I"⟩, 10), (⟨"BoltTailors", "leadOfCut", "(LBoltTailors$Game;I)I"⟩, 10), (⟨"BoltTailorsModel", "beginsAgain", "()V"⟩, 14), (⟨"BoltTailorsModel", "errorCut", "(I)I"⟩, 14), (⟨"BoltTailorsModel", "records", "()V"⟩, 14), (⟨"BoltTailorsModel", "goCut", "(IZ)I"⟩, 14), (⟨"BoltTailorsModel", "coatOf", "(II)I"⟩, 14), (⟨"BoltTailorsModel", "worthOf", "(III)I"⟩, 14), (⟨"BoltTailorsModel", "folds", "(II)Z"⟩, 14), (⟨"BoltTailorsModel", "matches", "(II)Z"⟩, 14), (⟨"BoltTailorsModel", "adds", "(III)V"⟩, 14), (⟨"BoltTailorsModel", "isOver", "()Z"⟩, 14), (⟨"BoltTailorsModel", "laysLeads", "()V"⟩, 14), (⟨"BoltTailorsModel", "laysLead", "(IIII)V"⟩, 14), (⟨"BoltTailorsModel", "most", "(I)I"⟩, 14)]
theorem lw_r2 : ∀ q ∈ lw_privs_2, lw_okq q := List.forall_mem_cons.mpr ⟨lw_p16, List.forall_mem_cons.mpr ⟨lw_p17, List.forall_mem_cons.mpr ⟨lw_p18, List.forall_mem_cons.mpr ⟨lw_p19, List.forall_mem_cons.mpr ⟨lw_p20, List.forall_mem_cons.mpr ⟨lw_p21, List.forall_mem_cons.mpr ⟨lw_p22, List.forall_mem_cons.mpr ⟨lw_p23, List.forall_mem_cons.mpr ⟨lw_p24, List.forall_mem_cons.mpr ⟨lw_p25, List.forall_mem_cons.mpr ⟨lw_p26, List.forall_mem_cons.mpr ⟨lw_p27, List.forall_mem_cons.mpr ⟨lw_p28, List.forall_mem_cons.mpr ⟨lw_p29, List.forall_mem_cons.mpr ⟨lw_p30, List.forall_mem_cons.mpr ⟨lw_p31, fun _ h => absurd h List.not_mem_nil⟩⟩⟩⟩⟩⟩⟩⟩⟩⟩⟩⟩⟩⟩⟩⟩
theorem lw_p32 : lw_okq (⟨"BoltTailorsModel", "leadBy", "(IIIIIZ)I"⟩, 14) := ⟨⟨by decide +kernel, by decide +kernel⟩, List.mem_of_getElem? (i := 529) (by decide +kernel), List.mem_of_getElem? (i := 647) (by decide +kernel), List.mem_of_getElem? (i := 648) (by decide +kernel)⟩
theorem lw_p33 : lw_okq (⟨"BoltTailorsModel", "leadAt", "(IIII)I"⟩, 14) := ⟨⟨by decide +kernel, by decide +kernel⟩, List.mem_of_getElem? (i := 529) (by decide +kernel), List.mem_of_getElem? (i := 651) (by decide +kernel), List.mem_of_getElem? (i := 652) (by decide +kernel)⟩
theorem lw_p34 : lw_okq (⟨"BoltTailorsModel", "cutsBy", "(Z)I"⟩, 14) := ⟨⟨by decide +kernel, by decide +kernel⟩, List.mem_of_getElem? (i := 529) (by decide +kernel), List.mem_of_getElem? (i := 658) (by decide +kernel), List.mem_of_getElem? (i := 659) (by decide +kernel)⟩
theorem lw_p35 : lw_okq (⟨"BoltTailorsModel", "choice", "(Z)I"⟩, 14) := ⟨⟨by decide +kernel, by decide +kernel⟩, List.mem_of_getElem? (i := 529) (by decide +kernel), List.mem_of_getElem? (i := 662) (by decide +kernel), List.mem_of_getElem? (i := 663) (by decide +kernel)⟩
theorem lw_p36 : lw_okq (⟨"BoltTailorsModel", "own", "()I"⟩, 14) := ⟨⟨by decide +kernel, by decide +kernel⟩, List.mem_of_getElem? (i := 529) (by decide +kernel), List.mem_of_getElem? (i := 666) (by decide +kernel), List.mem_of_getElem? (i := 667) (by decide +kernel)⟩
theorem lw_p37 : lw_okq (⟨"BoltTailorsModel", "others", "()I"⟩, 14) := ⟨⟨by decide +kernel, by decide +kernel⟩, List.mem_of_getElem? (i := 529) (by decide +kernel), List.mem_of_getElem? (i := 670) (by decide +kernel), List.mem_of_getElem? (i := 671) (by decide +kernel)⟩
theorem lw_p38 : lw_okq (⟨"BoltTailorsModel", "isBolt", "()Z"⟩, 14) := ⟨⟨by decide +kernel, by decide +kernel⟩, List.mem_of_getElem? (i := 529) (by decide +kernel), List.mem_of_getElem? (i := 702) (by decide +kernel), List.mem_of_getElem? (i := 703) (by decide +kernel)⟩
theorem lw_p39 : lw_okq (⟨"BoltTailorsModel", "here", "()I"⟩, 14) := ⟨⟨by decide +kernel, by decide +kernel⟩, List.mem_of_getElem? (i := 529) (by decide +kernel), List.mem_of_getElem? (i := 706) (by decide +kernel), List.mem_of_getElem? (i := 707) (by decide +kernel)⟩
theorem lw_p40 : lw_okq (⟨"BoltTailorsModel", "takes", "(Z)V"⟩, 14) := ⟨⟨by decide +kernel, by decide +kernel⟩, List.mem_of_getElem? (i := 529) (by decide +kernel), List.mem_of_getElem? (i := 713) (by decide +kernel), List.mem_of_getElem? (i := 714) (by decide +kernel)⟩
theorem lw_p41 : lw_okq (⟨"BoltTailorsModel", "takesRule", "()V"⟩, 14) := ⟨⟨by decide +kernel, by decide +kernel⟩, List.mem_of_getElem? (i := 529) (by decide +kernel), List.mem_of_getElem? (i := 717) (by decide +kernel), List.mem_of_getElem? (i := 718) (by decide +kernel)⟩
theorem lw_p42 : lw_okq (⟨"BoltTailorsModel", "takesDigit", "(II)I"⟩, 14) := ⟨⟨by decide +kernel, by decide +kernel⟩, List.mem_of_getElem? (i := 529) (by decide +kernel), List.mem_of_getElem? (i := 721) (by decide +kernel), List.mem_of_getElem? (i := 722) (by decide +kernel)⟩
theorem lw_p43 : lw_okq (⟨"BoltTailorsModel", "areCuts", "()Z"⟩, 14) := ⟨⟨by decide +kernel, by decide +kernel⟩, List.mem_of_getElem? (i := 529) (by decide +kernel), List.mem_of_getElem? (i := 725) (by decide +kernel), List.mem_of_getElem? (i := 726) (by decide +kernel)⟩
theorem lw_p44 : lw_okq (⟨"BoltTailorsModel", "takesCut", "()V"⟩, 14) := ⟨⟨by decide +kernel, by decide +kernel⟩, List.mem_of_getElem? (i := 529) (by decide +kernel), List.mem_of_getElem? (i := 729) (by decide +kernel), List.mem_of_getElem? (i := 730) (by decide +kernel)⟩
theorem lw_p45 : lw_okq (⟨"BoltTailorsModel", "makes", "(I)Z"⟩, 14) := ⟨⟨by decide +kernel, by decide +kernel⟩, List.mem_of_getElem? (i := 529) (by decide +kernel), List.mem_of_getElem? (i := 741) (by decide +kernel), List.mem_of_getElem? (i := 742) (by decide +kernel)⟩
theorem lw_p46 : lw_okq (⟨"BoltTailorsModel", "changes", "()I"⟩, 14) := ⟨⟨by decide +kernel, by decide +kernel⟩, List.mem_of_getElem? (i := 529) (by decide +kernel), List.mem_of_getElem? (i := 761) (by decide +kernel), List.mem_of_getElem? (i := 762) (by decide +kernel)⟩
theorem lw_p47 : lw_okq (⟨"BoltTailorsModel", "coloursLeft", "()I"⟩, 14) := ⟨⟨by decide +kernel, by decide +kernel⟩, List.mem_of_getElem? (i := 529) (by decide +kernel), List.mem_of_getElem? (i := 765) (by decide +kernel), List.mem_of_getElem? (i := 766) (by decide +kernel)⟩
def lw_privs_3 : List (MethodName × Nat) := [(⟨"BoltTailorsModel", "leadBy", "(IIIIIZ)I"⟩, 14), (⟨"BoltTailorsModel", "leadAt", "(IIII)I"⟩, 14), (⟨"BoltTailorsModel", "cutsBy", "(Z)I"⟩, 14), (⟨"BoltTailorsModel", "choice", "(Z)I"⟩, 14), (⟨"BoltTailorsModel", "own", "()I"⟩, 14), (⟨"BoltTailorsModel", "others", "()I"⟩, 14), (⟨"BoltTailorsModel", "isBolt", "()Z"⟩, 14), (⟨"BoltTailorsModel", "here", "()I"⟩, 14), (⟨"BoltTailorsModel", "takes", "(Z)V"⟩, 14), (⟨"BoltTailorsModel", "takesRule", "()V"⟩, 14), (⟨"BoltTailorsModel", "takesDigit", "(II)I"⟩, 14), (⟨"BoltTailorsModel", "areCuts", "()Z"⟩, 14), (⟨"BoltTailorsModel", "takesCut", "()V"⟩, 14), (⟨"BoltTailorsModel", "makes", "(I)Z"⟩, 14), (⟨"BoltTailorsModel", "changes", "()I"⟩, 14), (⟨"BoltTailorsModel", "coloursLeft", "()I"⟩, 14)]
theorem lw_r3 : ∀ q ∈ lw_privs_3, lw_okq q := List.forall_mem_cons.mpr ⟨lw_p32, List.forall_mem_cons.mpr ⟨lw_p33, List.forall_mem_cons.mpr ⟨lw_p34, List.forall_mem_cons.mpr ⟨lw_p35, List.forall_mem_cons.mpr ⟨lw_p36, List.forall_mem_cons.mpr ⟨lw_p37, List.forall_mem_cons.mpr ⟨lw_p38, List.forall_mem_cons.mpr ⟨lw_p39, List.forall_mem_cons.mpr ⟨lw_p40, List.forall_mem_cons.mpr ⟨lw_p41, List.forall_mem_cons.mpr ⟨lw_p42, List.forall_mem_cons.mpr ⟨lw_p43, List.forall_mem_cons.mpr ⟨lw_p44, List.forall_mem_cons.mpr ⟨lw_p45, List.forall_mem_cons.mpr ⟨lw_p46, List.forall_mem_cons.mpr ⟨lw_p47, fun _ h => absurd h List.not_mem_nil⟩⟩⟩⟩⟩⟩⟩⟩⟩⟩⟩⟩⟩⟩⟩⟩
theorem lw_p48 : lw_okq (⟨"BoltTailorsModel", "leftOf", "(I)I"⟩, 14) := ⟨⟨by decide +kernel, by decide +kernel⟩, List.mem_of_getElem? (i := 529) (by decide +kernel), List.mem_of_getElem? (i := 769) (by decide +kernel), List.mem_of_getElem? (i := 770) (by decide +kernel)⟩
theorem lw_p49 : lw_okq (⟨"BoltTailorsModel", "longestFold", "()I"⟩, 14) := ⟨⟨by decide +kernel, by decide +kernel⟩, List.mem_of_getElem? (i := 529) (by decide +kernel), List.mem_of_getElem? (i := 773) (by decide +kernel), List.mem_of_getElem? (i := 774) (by decide +kernel)⟩
def lw_privs_4 : List (MethodName × Nat) := [(⟨"BoltTailorsModel", "leftOf", "(I)I"⟩, 14), (⟨"BoltTailorsModel", "longestFold", "()I"⟩, 14)]
theorem lw_r4 : ∀ q ∈ lw_privs_4, lw_okq q := List.forall_mem_cons.mpr ⟨lw_p48, List.forall_mem_cons.mpr ⟨lw_p49, fun _ h => absurd h List.not_mem_nil⟩⟩
def lw_privs : List (MethodName × Nat) := lw_privs_1 ++ (lw_privs_2 ++ (lw_privs_3 ++ (lw_privs_4)))
def lw_tbl : List Cond := k2_sels lw_privs ++ tables_1
theorem lw_privs_ok : ∀ q ∈ lw_privs, lw_okq q := by
  show ∀ q ∈ lw_privs_1 ++ (lw_privs_2 ++ (lw_privs_3 ++ (lw_privs_4))), lw_okq q
  exact List.forall_mem_append.mpr ⟨lw_r1, List.forall_mem_append.mpr ⟨lw_r2, List.forall_mem_append.mpr ⟨lw_r3, lw_r4⟩⟩⟩
/-- the streams that the claim lets the run draw from -/
abbrev lw_cs : List Choice := [Jvm.Choice.named "NaN.bits"]
theorem lw_bits : nanBits ∈ lw_cs := by first | decide | exact List.mem_cons_self | simp [lw_cs, nanBits]
/-! ===== BEGIN words of one list among another's, by their places ===== -/
theorem goodIn_r {big : List Cond} (ws : List Cond) (ps : List Nat) (hp : ws = ps.filterMap (fun i => big[i]?)) (h : ws.all goodWord = true) : GoodIn big ws := by
  intro w hw
  have h1 := List.all_eq_true.mp h w hw
  rw [hp] at hw
  obtain ⟨i, -, hi⟩ := List.mem_filterMap.mp hw
  have hm : w ∈ big := by first | exact List.mem_of_getElem? hi | exact List.getElem?_mem hi
  exact ⟨hm, good_of_word h1⟩
theorem goodIn_app {big a b : List Cond} (ha : GoodIn big a) (hb : GoodIn big b) : GoodIn big (a ++ b) := fun w h => (List.mem_append.mp h).elim (ha w) (hb w)
theorem goodIn_ca {big a b : List Cond} {c : Cond} (ha : GoodIn big (c :: a)) (hb : GoodIn big b) : GoodIn big (c :: (a ++ b)) := fun w h => (List.mem_cons.mp h).elim (fun e => ha w (List.mem_cons.mpr (Or.inl e))) (fun h => (List.mem_append.mp h).elim (fun h => ha w (List.mem_cons.mpr (Or.inr h))) (hb w))
theorem goodIn_sub {big ws : List Cond} (hm : ∀ w ∈ ws, w ∈ big) (h : ws.all goodWord = true) : GoodIn big ws := fun w hw => ⟨hm w hw, good_of_word (List.all_eq_true.mp h w hw)⟩
/-! ===== END ===== -/

/-! ===== BEGIN printed: names, fields, word lists, decode rows ===== -/
def RX0 : String := "BoltTailors$Game"
def TX0 : u_T := fun k => match k with
  | 0 => ("BoltTailors$Game", "colours", "[I", true)
  | 1 => ("BoltTailors$Game", "settings", "[I", true)
  | 2 => ("BoltTailors$Game", "pieceFirst", "[I", true)
  | 3 => ("BoltTailors$Game", "pieceSize", "[I", true)
  | 4 => ("BoltTailors$Game", "pieceWorth", "[I", true)
  | 5 => ("BoltTailors$Game", "pieceTraits", "[I", true)
  | 6 => ("BoltTailors$Game", "stripes", "I", false)
  | 7 => ("BoltTailors$Game", "first", "I", false)
  | 8 => ("BoltTailors$Game", "end", "I", false)
  | _ => ("BoltTailors$Game", "cuts", "I", false)
def tyX0 : Nat → FieldType := fun k => match k with
  | 0 => .array .int
  | 1 => .array .int
  | 2 => .array .int
  | 3 => .array .int
  | 4 => .array .int
  | 5 => .array .int
  | 6 => .int
  | 7 => .int
  | 8 => .int
  | _ => .int
abbrev wsX00 : List Cond := u_ws RX0 TX0 10
theorem nmX0 : ∀ a, a < 10 → ∀ b, b < 10 → a ≠ b → (TX0 a).2.1 ≠ (TX0 b).2.1 := by decide +kernel
theorem tyX0_ok : ∀ k, k < 10 → parseFieldDescriptor (TX0 k).2.2.1 = some (tyX0 k) := by decide +kernel
abbrev cX0_init : ByteArray := prog_2_method_1_code
def yX0_init : MethodName := ⟨RX0, "<init>", "()V"⟩
abbrev cX0_copyFrom : ByteArray := prog_2_method_2_code
def yX0_copyFrom : MethodName := ⟨RX0, "copyFrom", "(LBoltTailors$Game;)V"⟩
abbrev cX0_begin : ByteArray := prog_2_method_3_code
def yX0_begin : MethodName := ⟨RX0, "begin", "()V"⟩
abbrev cX0_remaining : ByteArray := prog_2_method_4_code
def yX0_remaining : MethodName := ⟨RX0, "remaining", "()I"⟩
abbrev cX0_isOver : ByteArray := prog_2_method_5_code
def yX0_isOver : MethodName := ⟨RX0, "isOver", "()Z"⟩
abbrev cX0_onTurn : ByteArray := prog_2_method_6_code
def yX0_onTurn : MethodName := ⟨RX0, "onTurn", "()I"⟩
abbrev cX0_longestCut : ByteArray := prog_2_method_7_code
def yX0_longestCut : MethodName := ⟨RX0, "longestCut", "()I"⟩
abbrev cX0_worthOfCut : ByteArray := prog_2_method_8_code
def yX0_worthOfCut : MethodName := ⟨RX0, "worthOfCut", "(I)I"⟩
abbrev cX0_sew : ByteArray := prog_2_method_9_code
def yX0_sew : MethodName := ⟨RX0, "sew", "(I)I"⟩
abbrev cX0_turnRound : ByteArray := prog_2_method_10_code
def yX0_turnRound : MethodName := ⟨RX0, "turnRound", "()I"⟩
abbrev cX0_piecesOf : ByteArray := prog_2_method_11_code
def yX0_piecesOf : MethodName := ⟨RX0, "piecesOf", "(I)I"⟩
abbrev cX0_endOfCoat : ByteArray := prog_2_method_12_code
def yX0_endOfCoat : MethodName := ⟨RX0, "endOfCoat", "(I)I"⟩
abbrev cX0_sumOfCoat : ByteArray := prog_2_method_13_code
def yX0_sumOfCoat : MethodName := ⟨RX0, "sumOfCoat", "([II)I"⟩
abbrev cX0_piecesWith : ByteArray := prog_2_method_14_code
def yX0_piecesWith : MethodName := ⟨RX0, "piecesWith", "(II)I"⟩
abbrev cX0_colourChanges : ByteArray := prog_2_method_15_code
def yX0_colourChanges : MethodName := ⟨RX0, "colourChanges", "()I"⟩
abbrev cX0_stripesLeftOf : ByteArray := prog_2_method_16_code
def yX0_stripesLeftOf : MethodName := ⟨RX0, "stripesLeftOf", "(I)I"⟩
abbrev cX0_coloursLeft : ByteArray := prog_2_method_17_code
def yX0_coloursLeft : MethodName := ⟨RX0, "coloursLeft", "()I"⟩
abbrev cX0_longestFold : ByteArray := prog_2_method_18_code
def yX0_longestFold : MethodName := ⟨RX0, "longestFold", "()I"⟩
def RX1 : String := "BoltTailors$Leads"
def TX1 : u_T := fun k => match k with
  | 0 => ("BoltTailors$Leads", "colours", "[I", true)
  | 1 => ("BoltTailors$Leads", "settings", "[I", true)
  | 2 => ("BoltTailors$Leads", "kept", "[I", true)
  | _ => ("BoltTailors$Leads", "stripes", "I", false)
def tyX1 : Nat → FieldType := fun k => match k with
  | 0 => .array .int
  | 1 => .array .int
  | 2 => .array .int
  | _ => .int
abbrev wsX10 : List Cond := u_ws RX1 TX1 4
theorem nmX1 : ∀ a, a < 4 → ∀ b, b < 4 → a ≠ b → (TX1 a).2.1 ≠ (TX1 b).2.1 := by decide +kernel
theorem tyX1_ok : ∀ k, k < 4 → parseFieldDescriptor (TX1 k).2.2.1 = some (tyX1 k) := by decide +kernel
abbrev cX1_init : ByteArray := prog_3_method_1_code
def yX1_init : MethodName := ⟨RX1, "<init>", "()V"⟩
abbrev cX1_fitTo : ByteArray := prog_3_method_2_code
def yX1_fitTo : MethodName := ⟨RX1, "fitTo", "(LBoltTailors$Game;)V"⟩
abbrev cX1_isFor : ByteArray := prog_3_method_3_code
def yX1_isFor : MethodName := ⟨RX1, "isFor", "(LBoltTailors$Game;)Z"⟩
abbrev cX1_told : ByteArray := prog_3_method_4_code
def yX1_told : MethodName := ⟨RX1, "told", "(IIII)I"⟩
abbrev cX1_keep : ByteArray := prog_3_method_5_code
def yX1_keep : MethodName := ⟨RX1, "keep", "(IIIII)V"⟩
abbrev cX1_place : ByteArray := prog_3_method_6_code
def yX1_place : MethodName := ⟨RX1, "place", "(IIII)I"⟩
def RX2 : String := "BoltTailors"
def TX2 : u_T := fun k => match k with
  | 0 => ("BoltTailors", "now", "LBoltTailors$Game;", true)
  | 1 => ("BoltTailors", "trial", "LBoltTailors$Game;", true)
  | 2 => ("BoltTailors", "snapshot", "LBoltTailors$Game;", true)
  | 3 => ("BoltTailors", "hasSnapshot", "Z", false)
  | 4 => ("BoltTailors", "past", "[LBoltTailors$Game;", true)
  | 5 => ("BoltTailors", "states", "I", false)
  | 6 => ("BoltTailors", "pad", "[C", true)
  | 7 => ("BoltTailors", "signs", "I", false)
  | 8 => ("BoltTailors", "leadsByRows", "LBoltTailors$Leads;", true)
  | _ => ("BoltTailors", "leadsByCuts", "LBoltTailors$Leads;", true)
def tyX2 : Nat → FieldType := fun k => match k with
  | 0 => .object "BoltTailors$Game"
  | 1 => .object "BoltTailors$Game"
  | 2 => .object "BoltTailors$Game"
  | 3 => .boolean
  | 4 => .array (.object "BoltTailors$Game")
  | 5 => .int
  | 6 => .array .char
  | 7 => .int
  | 8 => .object "BoltTailors$Leads"
  | _ => .object "BoltTailors$Leads"
abbrev wsX20 : List Cond := u_ws RX2 TX2 10
theorem nmX2 : ∀ a, a < 10 → ∀ b, b < 10 → a ≠ b → (TX2 a).2.1 ≠ (TX2 b).2.1 := by decide +kernel
theorem tyX2_ok : ∀ k, k < 10 → parseFieldDescriptor (TX2 k).2.2.1 = some (tyX2 k) := by decide +kernel
abbrev cX2_init : ByteArray := prog_1_method_1_code
def yX2_init : MethodName := ⟨RX2, "<init>", "()V"⟩
abbrev cX2_cut : ByteArray := prog_1_method_2_code
def yX2_cut : MethodName := ⟨RX2, "cut", "(IZ)I"⟩
abbrev cX2_best : ByteArray := prog_1_method_3_code
def yX2_best : MethodName := ⟨RX2, "best", "()I"⟩
abbrev cX2_greedy : ByteArray := prog_1_method_4_code
def yX2_greedy : MethodName := ⟨RX2, "greedy", "()I"⟩
abbrev cX2_again : ByteArray := prog_1_method_5_code
def yX2_again : MethodName := ⟨RX2, "again", "()I"⟩
abbrev cX2_mirror : ByteArray := prog_1_method_6_code
def yX2_mirror : MethodName := ⟨RX2, "mirror", "()I"⟩
abbrev cX2_set : ByteArray := prog_1_method_7_code
def yX2_set : MethodName := ⟨RX2, "set", "(II)I"⟩
abbrev cX2_append : ByteArray := prog_1_method_8_code
def yX2_append : MethodName := ⟨RX2, "append", "(I)I"⟩
abbrev cX2_clear : ByteArray := prog_1_method_9_code
def yX2_clear : MethodName := ⟨RX2, "clear", "()I"⟩
abbrev cX2_fault : ByteArray := prog_1_method_10_code
def yX2_fault : MethodName := ⟨RX2, "fault", "(I)I"⟩
abbrev cX2_load : ByteArray := prog_1_method_11_code
def yX2_load : MethodName := ⟨RX2, "load", "()I"⟩
abbrev cX2_play : ByteArray := prog_1_method_12_code
def yX2_play : MethodName := ⟨RX2, "play", "()I"⟩
abbrev cX2_stripe : ByteArray := prog_1_method_13_code
def yX2_stripe : MethodName := ⟨RX2, "stripe", "(I)I"⟩
abbrev cX2_coat : ByteArray := prog_1_method_14_code
def yX2_coat : MethodName := ⟨RX2, "coat", "(II)I"⟩
abbrev cX2_piece : ByteArray := prog_1_method_15_code
def yX2_piece : MethodName := ⟨RX2, "piece", "(III)I"⟩
abbrev cX2_count : ByteArray := prog_1_method_16_code
def yX2_count : MethodName := ⟨RX2, "count", "(I)I"⟩
abbrev cX2_left : ByteArray := prog_1_method_17_code
def yX2_left : MethodName := ⟨RX2, "left", "(I)I"⟩
abbrev cX2_worth : ByteArray := prog_1_method_18_code
def yX2_worth : MethodName := ⟨RX2, "worth", "(IZ)I"⟩
abbrev cX2_lead : ByteArray := prog_1_method_19_code
def yX2_lead : MethodName := ⟨RX2, "lead", "(I)I"⟩
abbrev cX2_leadWith : ByteArray := prog_1_method_20_code
def yX2_leadWith : MethodName := ⟨RX2, "leadWith", "(IZ)I"⟩
abbrev cX2_bestCut : ByteArray := prog_1_method_21_code
def yX2_bestCut : MethodName := ⟨RX2, "bestCut", "()I"⟩
abbrev cX2_ended : ByteArray := prog_1_method_22_code
def yX2_ended : MethodName := ⟨RX2, "ended", "(III)I"⟩
abbrev cX2_rate : ByteArray := prog_1_method_23_code
def yX2_rate : MethodName := ⟨RX2, "rate", "()D"⟩
abbrev cX2_undo : ByteArray := prog_1_method_24_code
def yX2_undo : MethodName := ⟨RX2, "undo", "()I"⟩
abbrev cX2_save : ByteArray := prog_1_method_25_code
def yX2_save : MethodName := ⟨RX2, "save", "()I"⟩
abbrev cX2_restore : ByteArray := prog_1_method_26_code
def yX2_restore : MethodName := ⟨RX2, "restore", "()I"⟩
abbrev cX2_pastAt : ByteArray := prog_1_method_27_code
def yX2_pastAt : MethodName := ⟨RX2, "pastAt", "(I)LBoltTailors$Game;"⟩
abbrev cX2_record : ByteArray := prog_1_method_28_code
def yX2_record : MethodName := ⟨RX2, "record", "()V"⟩
abbrev cX2_dropOldest : ByteArray := prog_1_method_29_code
def yX2_dropOldest : MethodName := ⟨RX2, "dropOldest", "()V"⟩
abbrev cX2_codeOf : ByteArray := prog_1_method_30_code
def yX2_codeOf : MethodName := ⟨RX2, "codeOf", "(IZ)I"⟩
abbrev cX2_isFromLeft : ByteArray := prog_1_method_31_code
def yX2_isFromLeft : MethodName := ⟨RX2, "isFromLeft", "(I)Z"⟩
abbrev cX2_sizeOf : ByteArray := prog_1_method_32_code
def yX2_sizeOf : MethodName := ⟨RX2, "sizeOf", "(I)I"⟩
abbrev cX2_pieceStart : ByteArray := prog_1_method_33_code
def yX2_pieceStart : MethodName := ⟨RX2, "pieceStart", "(III)I"⟩
abbrev cX2_restStart : ByteArray := prog_1_method_34_code
def yX2_restStart : MethodName := ⟨RX2, "restStart", "(II)I"⟩
abbrev cX2_restEnd : ByteArray := prog_1_method_35_code
def yX2_restEnd : MethodName := ⟨RX2, "restEnd", "(II)I"⟩
abbrev cX2_errorOfCut : ByteArray := prog_1_method_36_code
def yX2_errorOfCut : MethodName := ⟨RX2, "errorOfCut", "(I)I"⟩
abbrev cX2_cutBy : ByteArray := prog_1_method_37_code
def yX2_cutBy : MethodName := ⟨RX2, "cutBy", "(I)I"⟩
abbrev cX2_choice : ByteArray := prog_1_method_38_code
def yX2_choice : MethodName := ⟨RX2, "choice", "(LBoltTailors$Game;I)I"⟩
abbrev cX2_leadTold : ByteArray := prog_1_method_39_code
def yX2_leadTold : MethodName := ⟨RX2, "leadTold", "(LBoltTailors$Game;)I"⟩
abbrev cX2_tellRows : ByteArray := prog_1_method_40_code
def yX2_tellRows : MethodName := ⟨RX2, "tellRows", "(LBoltTailors$Leads;II)V"⟩
abbrev cX2_raiseRow : ByteArray := prog_1_method_41_code
def yX2_raiseRow : MethodName := ⟨RX2, "raiseRow", "(LBoltTailors$Leads;III)V"⟩
abbrev cX2_leadGoneInto : ByteArray := prog_1_method_42_code
def yX2_leadGoneInto : MethodName := ⟨RX2, "leadGoneInto", "(LBoltTailors$Game;)I"⟩
abbrev cX2_leadOfCut : ByteArray := prog_1_method_43_code
def yX2_leadOfCut : MethodName := ⟨RX2, "leadOfCut", "(LBoltTailors$Game;I)I"⟩
abbrev cX2_goInto : ByteArray := prog_1_method_44_code
def yX2_goInto : MethodName := ⟨RX2, "goInto", "(LBoltTailors$Leads;IIIII)I"⟩
abbrev cX2_goThrough : ByteArray := prog_1_method_45_code
def yX2_goThrough : MethodName := ⟨RX2, "goThrough", "(LBoltTailors$Leads;IIIIII)I"⟩
abbrev cX2_traitsOf : ByteArray := prog_1_method_46_code
def yX2_traitsOf : MethodName := ⟨RX2, "traitsOf", "([IIII)I"⟩
abbrev cX2_worthOf : ByteArray := prog_1_method_47_code
def yX2_worthOf : MethodName := ⟨RX2, "worthOf", "(II[I)I"⟩
abbrev cX2_isFold : ByteArray := prog_1_method_48_code
def yX2_isFold : MethodName := ⟨RX2, "isFold", "([III)Z"⟩
abbrev cX2_signAt : ByteArray := prog_1_method_49_code
def yX2_signAt : MethodName := ⟨RX2, "signAt", "(I)C"⟩
abbrev cX2_digitAt : ByteArray := prog_1_method_50_code
def yX2_digitAt : MethodName := ⟨RX2, "digitAt", "(I)I"⟩
abbrev cX2_isSide : ByteArray := prog_1_method_51_code
def yX2_isSide : MethodName := ⟨RX2, "isSide", "(C)Z"⟩
abbrev cX2_lettersAhead : ByteArray := prog_1_method_52_code
def yX2_lettersAhead : MethodName := ⟨RX2, "lettersAhead", "()I"⟩
abbrev cX2_faultAsBolt : ByteArray := prog_1_method_53_code
def yX2_faultAsBolt : MethodName := ⟨RX2, "faultAsBolt", "()I"⟩
abbrev cX2_faultBehindStar : ByteArray := prog_1_method_54_code
def yX2_faultBehindStar : MethodName := ⟨RX2, "faultBehindStar", "(I)I"⟩
abbrev cX2_digitsOfNumber : ByteArray := prog_1_method_55_code
def yX2_digitsOfNumber : MethodName := ⟨RX2, "digitsOfNumber", "(I)I"⟩
abbrev cX2_faultAsCuts : ByteArray := prog_1_method_56_code
def yX2_faultAsCuts : MethodName := ⟨RX2, "faultAsCuts", "()I"⟩
abbrev cX2_layPattern : ByteArray := prog_1_method_57_code
def yX2_layPattern : MethodName := ⟨RX2, "layPattern", "(I)V"⟩
abbrev cX2_layLetters : ByteArray := prog_1_method_58_code
def yX2_layLetters : MethodName := ⟨RX2, "layLetters", "(III)V"⟩
abbrev cX2_codeOnPad : ByteArray := prog_1_method_59_code
def yX2_codeOnPad : MethodName := ⟨RX2, "codeOnPad", "(I)I"⟩
abbrev cX2_isNoTailor : ByteArray := prog_1_method_60_code
def yX2_isNoTailor : MethodName := ⟨RX2, "isNoTailor", "(I)Z"⟩
abbrev cX2_at : ByteArray := prog_1_method_61_code
def yX2_at : MethodName := ⟨RX2, "at", "([II)I"⟩
abbrev cX2_put : ByteArray := prog_1_method_62_code
def yX2_put : MethodName := ⟨RX2, "put", "([III)V"⟩
def RX3 : String := "BoltTailorsModel"
def TX3 : u_T := fun k => match k with
  | 0 => ("BoltTailorsModel", "s", "[I", true)
  | 1 => ("BoltTailorsModel", "aside", "[I", true)
  | 2 => ("BoltTailorsModel", "past", "[I", true)
  | 3 => ("BoltTailorsModel", "known", "I", false)
  | 4 => ("BoltTailorsModel", "kept", "[I", true)
  | 5 => ("BoltTailorsModel", "isKept", "Z", false)
  | 6 => ("BoltTailorsModel", "pad", "[I", true)
  | 7 => ("BoltTailorsModel", "length", "I", false)
  | 8 => ("BoltTailorsModel", "leads", "[I", true)
  | 9 => ("BoltTailorsModel", "spot", "I", false)
  | 10 => ("BoltTailorsModel", "isForm", "Z", false)
  | 11 => ("BoltTailorsModel", "letters", "I", false)
  | 12 => ("BoltTailorsModel", "toldMany", "I", false)
  | _ => ("BoltTailorsModel", "toldPhase", "I", false)
def tyX3 : Nat → FieldType := fun k => match k with
  | 0 => .array .int
  | 1 => .array .int
  | 2 => .array .int
  | 3 => .int
  | 4 => .array .int
  | 5 => .boolean
  | 6 => .array .int
  | 7 => .int
  | 8 => .array .int
  | 9 => .int
  | 10 => .boolean
  | 11 => .int
  | 12 => .int
  | _ => .int
abbrev wsX30 : List Cond := u_ws RX3 TX3 14
theorem nmX3 : ∀ a, a < 14 → ∀ b, b < 14 → a ≠ b → (TX3 a).2.1 ≠ (TX3 b).2.1 := by decide +kernel
theorem tyX3_ok : ∀ k, k < 14 → parseFieldDescriptor (TX3 k).2.2.1 = some (tyX3 k) := by decide +kernel
abbrev cX3_init : ByteArray := prog_5_method_1_code
def yX3_init : MethodName := ⟨RX3, "<init>", "()V"⟩
abbrev cX3_in : ByteArray := prog_5_method_3_code
def yX3_in : MethodName := ⟨RX3, "in", "(III)Z"⟩
abbrev cX3_copies : ByteArray := prog_5_method_4_code
def yX3_copies : MethodName := ⟨RX3, "copies", "([II[II)V"⟩
abbrev cX3_records : ByteArray := prog_5_method_5_code
def yX3_records : MethodName := ⟨RX3, "records", "()V"⟩
abbrev cX3_beginsAgain : ByteArray := prog_5_method_6_code
def yX3_beginsAgain : MethodName := ⟨RX3, "beginsAgain", "()V"⟩
abbrev cX3_coatOf : ByteArray := prog_5_method_7_code
def yX3_coatOf : MethodName := ⟨RX3, "coatOf", "(II)I"⟩
abbrev cX3_adds : ByteArray := prog_5_method_8_code
def yX3_adds : MethodName := ⟨RX3, "adds", "(III)V"⟩
abbrev cX3_isOver : ByteArray := prog_5_method_9_code
def yX3_isOver : MethodName := ⟨RX3, "isOver", "()Z"⟩
abbrev cX3_firstOf : ByteArray := prog_5_method_10_code
def yX3_firstOf : MethodName := ⟨RX3, "firstOf", "(IIIZ)I"⟩
abbrev cX3_folds : ByteArray := prog_5_method_11_code
def yX3_folds : MethodName := ⟨RX3, "folds", "(II)Z"⟩
abbrev cX3_matches : ByteArray := prog_5_method_12_code
def yX3_matches : MethodName := ⟨RX3, "matches", "(II)Z"⟩
abbrev cX3_worthOf : ByteArray := prog_5_method_13_code
def yX3_worthOf : MethodName := ⟨RX3, "worthOf", "(III)I"⟩
abbrev cX3_goCut : ByteArray := prog_5_method_14_code
def yX3_goCut : MethodName := ⟨RX3, "goCut", "(IZ)I"⟩
abbrev cX3_errorCut : ByteArray := prog_5_method_15_code
def yX3_errorCut : MethodName := ⟨RX3, "errorCut", "(I)I"⟩
abbrev cX3_rowOf : ByteArray := prog_5_method_16_code
def yX3_rowOf : MethodName := ⟨RX3, "rowOf", "(II)I"⟩
abbrev cX3_leadAt : ByteArray := prog_5_method_17_code
def yX3_leadAt : MethodName := ⟨RX3, "leadAt", "(IIII)I"⟩
abbrev cX3_most : ByteArray := prog_5_method_18_code
def yX3_most : MethodName := ⟨RX3, "most", "(I)I"⟩
abbrev cX3_leadBy : ByteArray := prog_5_method_19_code
def yX3_leadBy : MethodName := ⟨RX3, "leadBy", "(IIIIIZ)I"⟩
abbrev cX3_laysLead : ByteArray := prog_5_method_20_code
def yX3_laysLead : MethodName := ⟨RX3, "laysLead", "(IIII)V"⟩
abbrev cX3_laysLeads : ByteArray := prog_5_method_21_code
def yX3_laysLeads : MethodName := ⟨RX3, "laysLeads", "()V"⟩
abbrev cX3_own : ByteArray := prog_5_method_22_code
def yX3_own : MethodName := ⟨RX3, "own", "()I"⟩
abbrev cX3_others : ByteArray := prog_5_method_23_code
def yX3_others : MethodName := ⟨RX3, "others", "()I"⟩
abbrev cX3_choice : ByteArray := prog_5_method_24_code
def yX3_choice : MethodName := ⟨RX3, "choice", "(Z)I"⟩
abbrev cX3_cutsBy : ByteArray := prog_5_method_25_code
def yX3_cutsBy : MethodName := ⟨RX3, "cutsBy", "(Z)I"⟩
abbrev cX3_cut : ByteArray := prog_5_method_26_code
def yX3_cut : MethodName := ⟨RX3, "cut", "(IZ)I"⟩
abbrev cX3_best : ByteArray := prog_5_method_27_code
def yX3_best : MethodName := ⟨RX3, "best", "()I"⟩
abbrev cX3_greedy : ByteArray := prog_5_method_28_code
def yX3_greedy : MethodName := ⟨RX3, "greedy", "()I"⟩
abbrev cX3_again : ByteArray := prog_5_method_29_code
def yX3_again : MethodName := ⟨RX3, "again", "()I"⟩
abbrev cX3_mirror : ByteArray := prog_5_method_30_code
def yX3_mirror : MethodName := ⟨RX3, "mirror", "()I"⟩
abbrev cX3_set : ByteArray := prog_5_method_31_code
def yX3_set : MethodName := ⟨RX3, "set", "(II)I"⟩
abbrev cX3_append : ByteArray := prog_5_method_32_code
def yX3_append : MethodName := ⟨RX3, "append", "(I)I"⟩
abbrev cX3_clear : ByteArray := prog_5_method_33_code
def yX3_clear : MethodName := ⟨RX3, "clear", "()I"⟩
abbrev cX3_here : ByteArray := prog_5_method_34_code
def yX3_here : MethodName := ⟨RX3, "here", "()I"⟩
abbrev cX3_takes : ByteArray := prog_5_method_35_code
def yX3_takes : MethodName := ⟨RX3, "takes", "(Z)V"⟩
abbrev cX3_takesDigit : ByteArray := prog_5_method_36_code
def yX3_takesDigit : MethodName := ⟨RX3, "takesDigit", "(II)I"⟩
abbrev cX3_isLetter : ByteArray := prog_5_method_37_code
def yX3_isLetter : MethodName := ⟨RX3, "isLetter", "(I)Z"⟩
abbrev cX3_takesRule : ByteArray := prog_5_method_38_code
def yX3_takesRule : MethodName := ⟨RX3, "takesRule", "()V"⟩
abbrev cX3_isBolt : ByteArray := prog_5_method_39_code
def yX3_isBolt : MethodName := ⟨RX3, "isBolt", "()Z"⟩
abbrev cX3_takesCut : ByteArray := prog_5_method_40_code
def yX3_takesCut : MethodName := ⟨RX3, "takesCut", "()V"⟩
abbrev cX3_areCuts : ByteArray := prog_5_method_41_code
def yX3_areCuts : MethodName := ⟨RX3, "areCuts", "()Z"⟩
abbrev cX3_fault : ByteArray := prog_5_method_42_code
def yX3_fault : MethodName := ⟨RX3, "fault", "(I)I"⟩
abbrev cX3_load : ByteArray := prog_5_method_43_code
def yX3_load : MethodName := ⟨RX3, "load", "()I"⟩
abbrev cX3_makes : ByteArray := prog_5_method_44_code
def yX3_makes : MethodName := ⟨RX3, "makes", "(I)Z"⟩
abbrev cX3_play : ByteArray := prog_5_method_45_code
def yX3_play : MethodName := ⟨RX3, "play", "()I"⟩
abbrev cX3_stripe : ByteArray := prog_5_method_46_code
def yX3_stripe : MethodName := ⟨RX3, "stripe", "(I)I"⟩
abbrev cX3_coat : ByteArray := prog_5_method_47_code
def yX3_coat : MethodName := ⟨RX3, "coat", "(II)I"⟩
abbrev cX3_piece : ByteArray := prog_5_method_48_code
def yX3_piece : MethodName := ⟨RX3, "piece", "(III)I"⟩
abbrev cX3_changes : ByteArray := prog_5_method_49_code
def yX3_changes : MethodName := ⟨RX3, "changes", "()I"⟩
abbrev cX3_leftOf : ByteArray := prog_5_method_50_code
def yX3_leftOf : MethodName := ⟨RX3, "leftOf", "(I)I"⟩
abbrev cX3_coloursLeft : ByteArray := prog_5_method_51_code
def yX3_coloursLeft : MethodName := ⟨RX3, "coloursLeft", "()I"⟩
abbrev cX3_longestFold : ByteArray := prog_5_method_52_code
def yX3_longestFold : MethodName := ⟨RX3, "longestFold", "()I"⟩
abbrev cX3_count : ByteArray := prog_5_method_53_code
def yX3_count : MethodName := ⟨RX3, "count", "(I)I"⟩
abbrev cX3_left : ByteArray := prog_5_method_54_code
def yX3_left : MethodName := ⟨RX3, "left", "(I)I"⟩
abbrev cX3_worth : ByteArray := prog_5_method_55_code
def yX3_worth : MethodName := ⟨RX3, "worth", "(IZ)I"⟩
abbrev cX3_lead : ByteArray := prog_5_method_56_code
def yX3_lead : MethodName := ⟨RX3, "lead", "(I)I"⟩
abbrev cX3_leadWith : ByteArray := prog_5_method_57_code
def yX3_leadWith : MethodName := ⟨RX3, "leadWith", "(IZ)I"⟩
abbrev cX3_bestCut : ByteArray := prog_5_method_58_code
def yX3_bestCut : MethodName := ⟨RX3, "bestCut", "()I"⟩
abbrev cX3_ended : ByteArray := prog_5_method_59_code
def yX3_ended : MethodName := ⟨RX3, "ended", "(III)I"⟩
abbrev cX3_rate : ByteArray := prog_5_method_60_code
def yX3_rate : MethodName := ⟨RX3, "rate", "()D"⟩
abbrev cX3_undo : ByteArray := prog_5_method_61_code
def yX3_undo : MethodName := ⟨RX3, "undo", "()I"⟩
abbrev cX3_save : ByteArray := prog_5_method_62_code
def yX3_save : MethodName := ⟨RX3, "save", "()I"⟩
abbrev cX3_restore : ByteArray := prog_5_method_63_code
def yX3_restore : MethodName := ⟨RX3, "restore", "()I"⟩
def RJx145de : String := "java/io/Serializable"
def TJx145de : u_T := fun k => match k with
  | _ => ("", "", "", false)
def tyJx145de : Nat → FieldType := fun k => match k with
  | _ => .int
abbrev wsJx145de0 : List Cond := u_ws RJx145de TJx145de 0
theorem nmJx145de : ∀ a, a < 0 → ∀ b, b < 0 → a ≠ b → (TJx145de a).2.1 ≠ (TJx145de b).2.1 := by decide +kernel
theorem tyJx145de_ok : ∀ k, k < 0 → parseFieldDescriptor (TJx145de k).2.2.1 = some (tyJx145de k) := by decide +kernel
def RJx9f9b0 : String := "java/lang/CharSequence"
def TJx9f9b0 : u_T := fun k => match k with
  | _ => ("", "", "", false)
def tyJx9f9b0 : Nat → FieldType := fun k => match k with
  | _ => .int
abbrev wsJx9f9b00 : List Cond := u_ws RJx9f9b0 TJx9f9b0 0
theorem nmJx9f9b0 : ∀ a, a < 0 → ∀ b, b < 0 → a ≠ b → (TJx9f9b0 a).2.1 ≠ (TJx9f9b0 b).2.1 := by decide +kernel
theorem tyJx9f9b0_ok : ∀ k, k < 0 → parseFieldDescriptor (TJx9f9b0 k).2.2.1 = some (tyJx9f9b0 k) := by decide +kernel
def RJxb160c : String := "java/lang/Comparable"
def TJxb160c : u_T := fun k => match k with
  | _ => ("", "", "", false)
def tyJxb160c : Nat → FieldType := fun k => match k with
  | _ => .int
abbrev wsJxb160c0 : List Cond := u_ws RJxb160c TJxb160c 0
theorem nmJxb160c : ∀ a, a < 0 → ∀ b, b < 0 → a ≠ b → (TJxb160c a).2.1 ≠ (TJxb160c b).2.1 := by decide +kernel
theorem tyJxb160c_ok : ∀ k, k < 0 → parseFieldDescriptor (TJxb160c k).2.2.1 = some (tyJxb160c k) := by decide +kernel
def RJ9 : String := "java/lang/Math"
def TJ9 : u_T := fun k => match k with
  | _ => ("", "", "", false)
def tyJ9 : Nat → FieldType := fun k => match k with
  | _ => .int
abbrev wsJ90 : List Cond := u_ws RJ9 TJ9 0
theorem nmJ9 : ∀ a, a < 0 → ∀ b, b < 0 → a ≠ b → (TJ9 a).2.1 ≠ (TJ9 b).2.1 := by decide +kernel
theorem tyJ9_ok : ∀ k, k < 0 → parseFieldDescriptor (TJ9 k).2.2.1 = some (tyJ9 k) := by decide +kernel
abbrev cJ9_max_7cf53 : ByteArray := prog_6_method_65_code
def yJ9_max_7cf53 : MethodName := ⟨RJ9, "max", "(II)I"⟩
abbrev cJ9_min_7cf53 : ByteArray := prog_6_method_69_code
def yJ9_min_7cf53 : MethodName := ⟨RJ9, "min", "(II)I"⟩
def RJ0 : String := "java/lang/String"
def TJ0 : u_T := fun k => match k with
  | _ => ("", "", "", false)
def tyJ0 : Nat → FieldType := fun k => match k with
  | _ => .int
abbrev wsJ00 : List Cond := u_ws RJ0 TJ0 0
theorem nmJ0 : ∀ a, a < 0 → ∀ b, b < 0 → a ≠ b → (TJ0 a).2.1 ≠ (TJ0 b).2.1 := by decide +kernel
theorem tyJ0_ok : ∀ k, k < 0 → parseFieldDescriptor (TJ0 k).2.2.1 = some (tyJ0 k) := by decide +kernel
abbrev cJ0_length_8abf5 : ByteArray := prog_7_method_54_code
def yJ0_length_8abf5 : MethodName := ⟨RJ0, "length", "()I"⟩
abbrev cJ0_charAt_5068e : ByteArray := prog_7_method_56_code
def yJ0_charAt_5068e : MethodName := ⟨RJ0, "charAt", "(I)C"⟩
abbrev cJ0_coder_7d493 : ByteArray := prog_7_method_152_code
def yJ0_coder_7d493 : MethodName := ⟨RJ0, "coder", "()B"⟩
abbrev cJ0_isLatin1_aae02 : ByteArray := prog_7_method_154_code
def yJ0_isLatin1_aae02 : MethodName := ⟨RJ0, "isLatin1", "()Z"⟩
abbrev cJ0_checkIndex_df160 : ByteArray := prog_7_method_155_code
def yJ0_checkIndex_df160 : MethodName := ⟨RJ0, "checkIndex", "(II)V"⟩
def RJ1 : String := "java/lang/StringLatin1"
def TJ1 : u_T := fun k => match k with
  | _ => ("", "", "", false)
def tyJ1 : Nat → FieldType := fun k => match k with
  | _ => .int
abbrev wsJ10 : List Cond := u_ws RJ1 TJ1 0
theorem nmJ1 : ∀ a, a < 0 → ∀ b, b < 0 → a ≠ b → (TJ1 a).2.1 ≠ (TJ1 b).2.1 := by decide +kernel
theorem tyJ1_ok : ∀ k, k < 0 → parseFieldDescriptor (TJ1 k).2.2.1 = some (tyJ1 k) := by decide +kernel
abbrev cJ1_charAt_3b067 : ByteArray := prog_8_method_2_code
def yJ1_charAt_3b067 : MethodName := ⟨RJ1, "charAt", "([BI)C"⟩
def RJ2 : String := "java/lang/StringUTF16"
def TJ2 : u_T := fun k => match k with
  | _ => ("", "", "", false)
def tyJ2 : Nat → FieldType := fun k => match k with
  | _ => .int
abbrev wsJ20 : List Cond := u_ws RJ2 TJ2 0
theorem nmJ2 : ∀ a, a < 0 → ∀ b, b < 0 → a ≠ b → (TJ2 a).2.1 ≠ (TJ2 b).2.1 := by decide +kernel
theorem tyJ2_ok : ∀ k, k < 0 → parseFieldDescriptor (TJ2 k).2.2.1 = some (tyJ2 k) := by decide +kernel
abbrev cJ2_getChar_3b067 : ByteArray := prog_9_method_5_code
def yJ2_getChar_3b067 : MethodName := ⟨RJ2, "getChar", "([BI)C"⟩
abbrev cJ2_length_9d52b : ByteArray := prog_9_method_6_code
def yJ2_length_9d52b : MethodName := ⟨RJ2, "length", "([B)I"⟩
abbrev cJ2_charAt_3b067 : ByteArray := prog_9_method_83_code
def yJ2_charAt_3b067 : MethodName := ⟨RJ2, "charAt", "([BI)C"⟩
abbrev cJ2_checkIndex_2214a : ByteArray := prog_9_method_91_code
def yJ2_checkIndex_2214a : MethodName := ⟨RJ2, "checkIndex", "(I[B)V"⟩
def RJ10 : String := "java/lang/System"
def TJ10 : u_T := fun k => match k with
  | _ => ("", "", "", false)
def tyJ10 : Nat → FieldType := fun k => match k with
  | _ => .int
abbrev wsJ100 : List Cond := u_ws RJ10 TJ10 0
theorem nmJ10 : ∀ a, a < 0 → ∀ b, b < 0 → a ≠ b → (TJ10 a).2.1 ≠ (TJ10 b).2.1 := by decide +kernel
theorem tyJ10_ok : ∀ k, k < 0 → parseFieldDescriptor (TJ10 k).2.2.1 = some (tyJ10 k) := by decide +kernel
def RJxfd54e : String := "java/lang/constant/Constable"
def TJxfd54e : u_T := fun k => match k with
  | _ => ("", "", "", false)
def tyJxfd54e : Nat → FieldType := fun k => match k with
  | _ => .int
abbrev wsJxfd54e0 : List Cond := u_ws RJxfd54e TJxfd54e 0
theorem nmJxfd54e : ∀ a, a < 0 → ∀ b, b < 0 → a ≠ b → (TJxfd54e a).2.1 ≠ (TJxfd54e b).2.1 := by decide +kernel
theorem tyJxfd54e_ok : ∀ k, k < 0 → parseFieldDescriptor (TJxfd54e k).2.2.1 = some (tyJxfd54e k) := by decide +kernel
def RJx3cf43 : String := "java/lang/constant/ConstantDesc"
def TJx3cf43 : u_T := fun k => match k with
  | _ => ("", "", "", false)
def tyJx3cf43 : Nat → FieldType := fun k => match k with
  | _ => .int
abbrev wsJx3cf430 : List Cond := u_ws RJx3cf43 TJx3cf43 0
theorem nmJx3cf43 : ∀ a, a < 0 → ∀ b, b < 0 → a ≠ b → (TJx3cf43 a).2.1 ≠ (TJx3cf43 b).2.1 := by decide +kernel
theorem tyJx3cf43_ok : ∀ k, k < 0 → parseFieldDescriptor (TJx3cf43 k).2.2.1 = some (tyJx3cf43 k) := by decide +kernel
def RJ7 : String := "java/util/Arrays"
def TJ7 : u_T := fun k => match k with
  | _ => ("", "", "", false)
def tyJ7 : Nat → FieldType := fun k => match k with
  | _ => .int
abbrev wsJ70 : List Cond := u_ws RJ7 TJ7 0
theorem nmJ7 : ∀ a, a < 0 → ∀ b, b < 0 → a ≠ b → (TJ7 a).2.1 ≠ (TJ7 b).2.1 := by decide +kernel
theorem tyJ7_ok : ∀ k, k < 0 → parseFieldDescriptor (TJ7 k).2.2.1 = some (tyJ7 k) := by decide +kernel
abbrev cJ7_fill_53178 : ByteArray := prog_11_method_103_code
def yJ7_fill_53178 : MethodName := ⟨RJ7, "fill", "([II)V"⟩
def RJ3 : String := "jdk/internal/util/Preconditions"
def TJ3 : u_T := fun k => match k with
  | _ => ("", "", "", false)
def tyJ3 : Nat → FieldType := fun k => match k with
  | _ => .int
abbrev wsJ30 : List Cond := u_ws RJ3 TJ3 0
theorem nmJ3 : ∀ a, a < 0 → ∀ b, b < 0 → a ≠ b → (TJ3 a).2.1 ≠ (TJ3 b).2.1 := by decide +kernel
theorem tyJ3_ok : ∀ k, k < 0 → parseFieldDescriptor (TJ3 k).2.2.1 = some (tyJ3 k) := by decide +kernel
abbrev cJ3_checkIndex_8e157 : ByteArray := prog_12_method_11_code
def yJ3_checkIndex_8e157 : MethodName := ⟨RJ3, "checkIndex", "(IILjava/util/function/BiFunction;)I"⟩
def RL : String := "BoltTailorsLaw"
abbrev cL_law : ByteArray := code
def yL_law : MethodName := ⟨RL, "law", "([I)Z"⟩
def wsJ0_coder_7d493 : List Cond := .code yJ0_coder_7d493 cJ0_coder_7d493 1 (some .byte) :: ([.fieldLink RJ0 38 "java/lang/String" "COMPACT_STRINGS" "Z", .fieldLink RJ0 15 "java/lang/String" "coder" "B"])
def wsJ0_length_8abf5 : List Cond := .code yJ0_length_8abf5 cJ0_length_8abf5 1 (some .int) :: ([.fieldLink RJ0 9 "java/lang/String" "value" "[B", .methodLink RJ0 335 yJ0_coder_7d493, .instanceMethod yJ0_coder_7d493, .selects RJ0 yJ0_coder_7d493 yJ0_coder_7d493, .initialized RJ0, .code yJ0_coder_7d493 cJ0_coder_7d493 1 (some .byte), .fieldLink RJ0 38 "java/lang/String" "COMPACT_STRINGS" "Z", .fieldLink RJ0 15 "java/lang/String" "coder" "B"])
def wsX2_at : List Cond := .code yX2_at cX2_at 2 (some .int) :: ([])
def wsX2_put : List Cond := .code yX2_put cX2_put 3 none :: ([])
def wsJ0_isLatin1_aae02 : List Cond := .code yJ0_isLatin1_aae02 cJ0_isLatin1_aae02 1 (some .boolean) :: ([.fieldLink RJ0 38 "java/lang/String" "COMPACT_STRINGS" "Z", .fieldLink RJ0 15 "java/lang/String" "coder" "B"])
def wsJ3_checkIndex_8e157 : List Cond := .code yJ3_checkIndex_8e157 cJ3_checkIndex_8e157 3 (some .int) :: ([])
def wsJ0_checkIndex_df160 : List Cond := .code yJ0_checkIndex_df160 cJ0_checkIndex_df160 2 none :: ([.fieldLink RJ0 1053 "jdk/internal/util/Preconditions" "SIOOBE_FORMATTER" "Ljava/util/function/BiFunction;", .methodLink RJ0 1059 yJ3_checkIndex_8e157, .static yJ3_checkIndex_8e157, .initialized RJ3, .code yJ3_checkIndex_8e157 cJ3_checkIndex_8e157 3 (some .int)])
def wsJ1_charAt_3b067 : List Cond := .code yJ1_charAt_3b067 cJ1_charAt_3b067 2 (some .char) :: ([.methodLink RJ1 9 yJ0_checkIndex_df160, .static yJ0_checkIndex_df160, .initialized RJ0, .code yJ0_checkIndex_df160 cJ0_checkIndex_df160 2 none, .fieldLink RJ0 1053 "jdk/internal/util/Preconditions" "SIOOBE_FORMATTER" "Ljava/util/function/BiFunction;", .methodLink RJ0 1059 yJ3_checkIndex_8e157, .static yJ3_checkIndex_8e157, .initialized RJ3, .code yJ3_checkIndex_8e157 cJ3_checkIndex_8e157 3 (some .int)])
def wsJ2_length_9d52b : List Cond := .code yJ2_length_9d52b cJ2_length_9d52b 1 (some .int) :: ([])
def wsJ2_checkIndex_2214a : List Cond := .code yJ2_checkIndex_2214a cJ2_checkIndex_2214a 2 none :: ([.methodLink RJ2 48 yJ2_length_9d52b, .static yJ2_length_9d52b, .initialized RJ2, .code yJ2_length_9d52b cJ2_length_9d52b 1 (some .int), .methodLink RJ2 414 yJ0_checkIndex_df160, .static yJ0_checkIndex_df160, .initialized RJ0, .code yJ0_checkIndex_df160 cJ0_checkIndex_df160 2 none, .fieldLink RJ0 1053 "jdk/internal/util/Preconditions" "SIOOBE_FORMATTER" "Ljava/util/function/BiFunction;", .methodLink RJ0 1059 yJ3_checkIndex_8e157, .static yJ3_checkIndex_8e157, .initialized RJ3, .code yJ3_checkIndex_8e157 cJ3_checkIndex_8e157 3 (some .int)])
def wsJ2_getChar_3b067 : List Cond := .code yJ2_getChar_3b067 cJ2_getChar_3b067 2 (some .char) :: ([.fieldLink RJ2 44 "java/lang/StringUTF16" "$assertionsDisabled" "Z", .fieldLink RJ2 59 "java/lang/StringUTF16" "HI_BYTE_SHIFT" "I", .fieldLink RJ2 63 "java/lang/StringUTF16" "LO_BYTE_SHIFT" "I", .methodLink RJ2 48 yJ2_length_9d52b, .static yJ2_length_9d52b, .initialized RJ2, .code yJ2_length_9d52b cJ2_length_9d52b 1 (some .int)])
def wsJ2_charAt_3b067 : List Cond := .code yJ2_charAt_3b067 cJ2_charAt_3b067 2 (some .char) :: ([.methodLink RJ2 67 yJ2_checkIndex_2214a, .static yJ2_checkIndex_2214a, .initialized RJ2, .code yJ2_checkIndex_2214a cJ2_checkIndex_2214a 2 none, .methodLink RJ2 48 yJ2_length_9d52b, .static yJ2_length_9d52b, .code yJ2_length_9d52b cJ2_length_9d52b 1 (some .int), .methodLink RJ2 414 yJ0_checkIndex_df160, .static yJ0_checkIndex_df160, .initialized RJ0, .code yJ0_checkIndex_df160 cJ0_checkIndex_df160 2 none, .fieldLink RJ0 1053 "jdk/internal/util/Preconditions" "SIOOBE_FORMATTER" "Ljava/util/function/BiFunction;", .methodLink RJ0 1059 yJ3_checkIndex_8e157, .static yJ3_checkIndex_8e157, .initialized RJ3, .code yJ3_checkIndex_8e157 cJ3_checkIndex_8e157 3 (some .int), .methodLink RJ2 71 yJ2_getChar_3b067, .static yJ2_getChar_3b067, .code yJ2_getChar_3b067 cJ2_getChar_3b067 2 (some .char), .fieldLink RJ2 44 "java/lang/StringUTF16" "$assertionsDisabled" "Z", .fieldLink RJ2 59 "java/lang/StringUTF16" "HI_BYTE_SHIFT" "I", .fieldLink RJ2 63 "java/lang/StringUTF16" "LO_BYTE_SHIFT" "I"])
def wsJ0_charAt_5068e_r1 : List Cond := [Cond.fieldLink RJ0 9 "java/lang/String" "value" "[B", Cond.methodLink RJ0 492 yJ0_isLatin1_aae02, Cond.instanceMethod yJ0_isLatin1_aae02, Cond.selects RJ0 yJ0_isLatin1_aae02 yJ0_isLatin1_aae02, Cond.initialized RJ0, Cond.code yJ0_isLatin1_aae02 cJ0_isLatin1_aae02 1 (some .boolean), Cond.fieldLink RJ0 38 "java/lang/String" "COMPACT_STRINGS" "Z", Cond.fieldLink RJ0 15 "java/lang/String" "coder" "B", Cond.methodLink RJ0 495 yJ1_charAt_3b067, Cond.static yJ1_charAt_3b067, Cond.initialized RJ1, Cond.code yJ1_charAt_3b067 cJ1_charAt_3b067 2 (some .char), Cond.methodLink RJ1 9 yJ0_checkIndex_df160, Cond.static yJ0_checkIndex_df160, Cond.code yJ0_checkIndex_df160 cJ0_checkIndex_df160 2 none, Cond.fieldLink RJ0 1053 "jdk/internal/util/Preconditions" "SIOOBE_FORMATTER" "Ljava/util/function/BiFunction;", Cond.methodLink RJ0 1059 yJ3_checkIndex_8e157, Cond.static yJ3_checkIndex_8e157, Cond.initialized RJ3, Cond.code yJ3_checkIndex_8e157 cJ3_checkIndex_8e157 3 (some .int), Cond.methodLink RJ0 498 yJ2_charAt_3b067, Cond.static yJ2_charAt_3b067, Cond.initialized RJ2, Cond.code yJ2_charAt_3b067 cJ2_charAt_3b067 2 (some .char)]
def wsJ0_charAt_5068e_r2 : List Cond := [Cond.methodLink RJ2 67 yJ2_checkIndex_2214a, Cond.static yJ2_checkIndex_2214a, Cond.code yJ2_checkIndex_2214a cJ2_checkIndex_2214a 2 none, Cond.methodLink RJ2 48 yJ2_length_9d52b, Cond.static yJ2_length_9d52b, Cond.code yJ2_length_9d52b cJ2_length_9d52b 1 (some .int), Cond.methodLink RJ2 414 yJ0_checkIndex_df160, Cond.methodLink RJ2 71 yJ2_getChar_3b067, Cond.static yJ2_getChar_3b067, Cond.code yJ2_getChar_3b067 cJ2_getChar_3b067 2 (some .char), Cond.fieldLink RJ2 44 "java/lang/StringUTF16" "$assertionsDisabled" "Z", Cond.fieldLink RJ2 59 "java/lang/StringUTF16" "HI_BYTE_SHIFT" "I", Cond.fieldLink RJ2 63 "java/lang/StringUTF16" "LO_BYTE_SHIFT" "I"]
def wsJ0_charAt_5068e : List Cond := .code yJ0_charAt_5068e cJ0_charAt_5068e 2 (some .char) :: ((wsJ0_charAt_5068e_r1 ++ wsJ0_charAt_5068e_r2))
def wsX0_init_r1 : List Cond := [Cond.methodLink RX0 3 objectInit, Cond.instanceMethod objectInit, Cond.code objectInit ⟨#[0xb1]⟩ 1 none, Cond.arrayClass .int, Cond.fieldLink RX0 9 "BoltTailors$Game" "colours" "[I", Cond.fieldLink RX0 15 "BoltTailors$Game" "settings" "[I", Cond.fieldLink RX0 18 "BoltTailors$Game" "pieceFirst" "[I", Cond.fieldLink RX0 21 "BoltTailors$Game" "pieceSize" "[I", Cond.fieldLink RX0 24 "BoltTailors$Game" "pieceWorth" "[I", Cond.fieldLink RX0 27 "BoltTailors$Game" "pieceTraits" "[I", Cond.fieldLink RX0 38 "BoltTailors$Game" "stripes" "I", Cond.fieldLink RX0 42 "BoltTailors$Game" "first" "I", Cond.fieldLink RX0 45 "BoltTailors$Game" "end" "I", Cond.fieldLink RX0 48 "BoltTailors$Game" "cuts" "I", Cond.methodLink RX0 32 yJ0_length_8abf5, Cond.instanceMethod yJ0_length_8abf5, Cond.selects RJ0 yJ0_length_8abf5 yJ0_length_8abf5, Cond.initialized RJ0, Cond.code yJ0_length_8abf5 cJ0_length_8abf5 1 (some .int), Cond.fieldLink RJ0 9 "java/lang/String" "value" "[B", Cond.methodLink RJ0 335 yJ0_coder_7d493, Cond.instanceMethod yJ0_coder_7d493, Cond.selects RJ0 yJ0_coder_7d493 yJ0_coder_7d493, Cond.code yJ0_coder_7d493 cJ0_coder_7d493 1 (some .byte)]
def wsX0_init_r2 : List Cond := [Cond.fieldLink RJ0 38 "java/lang/String" "COMPACT_STRINGS" "Z", Cond.fieldLink RJ0 15 "java/lang/String" "coder" "B", Cond.static yX2_at, Cond.initialized RX2, Cond.code yX2_at cX2_at 2 (some .int), Cond.static yX2_put, Cond.code yX2_put cX2_put 3 none, Cond.methodLink RX0 62 yJ0_charAt_5068e, Cond.instanceMethod yJ0_charAt_5068e, Cond.selects RJ0 yJ0_charAt_5068e yJ0_charAt_5068e, Cond.code yJ0_charAt_5068e cJ0_charAt_5068e 2 (some .char), Cond.methodLink RJ0 492 yJ0_isLatin1_aae02, Cond.instanceMethod yJ0_isLatin1_aae02, Cond.selects RJ0 yJ0_isLatin1_aae02 yJ0_isLatin1_aae02, Cond.code yJ0_isLatin1_aae02 cJ0_isLatin1_aae02 1 (some .boolean), Cond.methodLink RJ0 495 yJ1_charAt_3b067, Cond.static yJ1_charAt_3b067, Cond.initialized RJ1, Cond.code yJ1_charAt_3b067 cJ1_charAt_3b067 2 (some .char), Cond.methodLink RJ1 9 yJ0_checkIndex_df160, Cond.static yJ0_checkIndex_df160, Cond.code yJ0_checkIndex_df160 cJ0_checkIndex_df160 2 none, Cond.fieldLink RJ0 1053 "jdk/internal/util/Preconditions" "SIOOBE_FORMATTER" "Ljava/util/function/BiFunction;", Cond.methodLink RJ0 1059 yJ3_checkIndex_8e157]
def wsX0_init_r3 : List Cond := [Cond.static yJ3_checkIndex_8e157, Cond.initialized RJ3, Cond.code yJ3_checkIndex_8e157 cJ3_checkIndex_8e157 3 (some .int), Cond.methodLink RJ0 498 yJ2_charAt_3b067, Cond.static yJ2_charAt_3b067, Cond.initialized RJ2, Cond.code yJ2_charAt_3b067 cJ2_charAt_3b067 2 (some .char), Cond.methodLink RJ2 67 yJ2_checkIndex_2214a, Cond.static yJ2_checkIndex_2214a, Cond.code yJ2_checkIndex_2214a cJ2_checkIndex_2214a 2 none, Cond.methodLink RJ2 48 yJ2_length_9d52b, Cond.static yJ2_length_9d52b, Cond.code yJ2_length_9d52b cJ2_length_9d52b 1 (some .int), Cond.methodLink RJ2 414 yJ0_checkIndex_df160, Cond.methodLink RJ2 71 yJ2_getChar_3b067, Cond.static yJ2_getChar_3b067, Cond.code yJ2_getChar_3b067 cJ2_getChar_3b067 2 (some .char), Cond.fieldLink RJ2 44 "java/lang/StringUTF16" "$assertionsDisabled" "Z", Cond.fieldLink RJ2 59 "java/lang/StringUTF16" "HI_BYTE_SHIFT" "I", Cond.fieldLink RJ2 63 "java/lang/StringUTF16" "LO_BYTE_SHIFT" "I"]
def wsX0_init : List Cond := .code yX0_init cX0_init 2 none :: ((wsX0_init_r1 ++ (wsX0_init_r2 ++ wsX0_init_r3)) ++ wsX00)
def wsX0_copyFrom : List Cond := .code yX0_copyFrom cX0_copyFrom 2 none :: ([.fieldLink RX0 9 "BoltTailors$Game" "colours" "[I", .methodLink RX0 66 arraycopyName, .native arraycopyName, .static arraycopyName, .initialized "java/lang/System", .fieldLink RX0 15 "BoltTailors$Game" "settings" "[I", .fieldLink RX0 18 "BoltTailors$Game" "pieceFirst" "[I", .fieldLink RX0 21 "BoltTailors$Game" "pieceSize" "[I", .fieldLink RX0 24 "BoltTailors$Game" "pieceWorth" "[I", .fieldLink RX0 27 "BoltTailors$Game" "pieceTraits" "[I", .fieldLink RX0 38 "BoltTailors$Game" "stripes" "I", .fieldLink RX0 42 "BoltTailors$Game" "first" "I", .fieldLink RX0 45 "BoltTailors$Game" "end" "I", .fieldLink RX0 48 "BoltTailors$Game" "cuts" "I"] ++ wsX00)
def wsX0_begin : List Cond := .code yX0_begin cX0_begin 1 none :: ([.fieldLink RX0 42 "BoltTailors$Game" "first" "I", .fieldLink RX0 38 "BoltTailors$Game" "stripes" "I", .fieldLink RX0 45 "BoltTailors$Game" "end" "I", .fieldLink RX0 48 "BoltTailors$Game" "cuts" "I"] ++ wsX00)
def wsX0_remaining : List Cond := .code yX0_remaining cX0_remaining 1 (some .int) :: ([.fieldLink RX0 45 "BoltTailors$Game" "end" "I", .fieldLink RX0 42 "BoltTailors$Game" "first" "I"] ++ wsX00)
def wsX0_isOver : List Cond := .code yX0_isOver cX0_isOver 1 (some .boolean) :: ([.fieldLink RX0 42 "BoltTailors$Game" "first" "I", .fieldLink RX0 45 "BoltTailors$Game" "end" "I"] ++ wsX00)
def wsX0_onTurn : List Cond := .code yX0_onTurn cX0_onTurn 1 (some .int) :: ([.fieldLink RX0 48 "BoltTailors$Game" "cuts" "I"] ++ wsX00)
def wsX0_longestCut : List Cond := .code yX0_longestCut cX0_longestCut 1 (some .int) :: ([.fieldLink RX0 15 "BoltTailors$Game" "settings" "[I", .methodLink RX0 75 Lib.Math.min.name, .static Lib.Math.min.name, .initialized "java/lang/Math", .code Lib.Math.min.name Lib.Math.min.code 2 (some .int), .static yX2_at, .initialized RX2, .code yX2_at cX2_at 2 (some .int), .methodLink RX0 72 yX0_remaining, .instanceMethod yX0_remaining, .selects RX0 yX0_remaining yX0_remaining, .initialized RX0, .code yX0_remaining cX0_remaining 1 (some .int), .fieldLink RX0 45 "BoltTailors$Game" "end" "I", .fieldLink RX0 42 "BoltTailors$Game" "first" "I"] ++ wsX00)
def wsX2_isFromLeft : List Cond := .code yX2_isFromLeft cX2_isFromLeft 1 (some .boolean) :: ([])
def wsX2_sizeOf : List Cond := .code yX2_sizeOf cX2_sizeOf 1 (some .int) :: ([.methodLink RX2 215 yX2_isFromLeft, .static yX2_isFromLeft, .initialized RX2, .code yX2_isFromLeft cX2_isFromLeft 1 (some .boolean)])
def wsX2_pieceStart : List Cond := .code yX2_pieceStart cX2_pieceStart 3 (some .int) :: ([.methodLink RX2 215 yX2_isFromLeft, .static yX2_isFromLeft, .initialized RX2, .code yX2_isFromLeft cX2_isFromLeft 1 (some .boolean), .methodLink RX2 218 yX2_sizeOf, .static yX2_sizeOf, .code yX2_sizeOf cX2_sizeOf 1 (some .int)])
def wsX0_piecesOf : List Cond := .code yX0_piecesOf cX0_piecesOf 2 (some .int) :: ([.fieldLink RX0 48 "BoltTailors$Game" "cuts" "I"] ++ wsX00)
def wsX0_endOfCoat : List Cond := .code yX0_endOfCoat cX0_endOfCoat 4 (some .int) :: ([.fieldLink RX0 9 "BoltTailors$Game" "colours" "[I", .fieldLink RX0 18 "BoltTailors$Game" "pieceFirst" "[I", .fieldLink RX0 21 "BoltTailors$Game" "pieceSize" "[I", .methodLink RX0 113 yX0_piecesOf, .instanceMethod yX0_piecesOf, .selects RX0 yX0_piecesOf yX0_piecesOf, .initialized RX0, .code yX0_piecesOf cX0_piecesOf 2 (some .int), .fieldLink RX0 48 "BoltTailors$Game" "cuts" "I", .static yX2_at, .initialized RX2, .code yX2_at cX2_at 2 (some .int)] ++ wsX00)
def wsX2_isFold : List Cond := .code yX2_isFold cX2_isFold 4 (some .boolean) :: ([.methodLink RX2 72 yX2_at, .static yX2_at, .initialized RX2, .code yX2_at cX2_at 2 (some .int)])
def wsX2_traitsOf : List Cond := .code yX2_traitsOf cX2_traitsOf 5 (some .int) :: ([.methodLink RX2 72 yX2_at, .static yX2_at, .initialized RX2, .code yX2_at cX2_at 2 (some .int), .methodLink RX2 280 yX2_isFold, .static yX2_isFold, .code yX2_isFold cX2_isFold 4 (some .boolean)])
def wsX2_worthOf : List Cond := .code yX2_worthOf cX2_worthOf 5 (some .int) :: ([.methodLink RX2 72 yX2_at, .static yX2_at, .initialized RX2, .code yX2_at cX2_at 2 (some .int)])
def wsX0_worthOfCut_r1 : List Cond := [Cond.fieldLink RX0 42 "BoltTailors$Game" "first" "I", Cond.fieldLink RX0 45 "BoltTailors$Game" "end" "I", Cond.fieldLink RX0 9 "BoltTailors$Game" "colours" "[I", Cond.fieldLink RX0 15 "BoltTailors$Game" "settings" "[I", Cond.static yX2_sizeOf, Cond.initialized RX2, Cond.code yX2_sizeOf cX2_sizeOf 1 (some .int), Cond.methodLink RX2 215 yX2_isFromLeft, Cond.static yX2_isFromLeft, Cond.code yX2_isFromLeft cX2_isFromLeft 1 (some .boolean), Cond.static yX2_pieceStart, Cond.code yX2_pieceStart cX2_pieceStart 3 (some .int), Cond.methodLink RX2 218 yX2_sizeOf, Cond.methodLink RX0 89 yX0_onTurn, Cond.instanceMethod yX0_onTurn, Cond.selects RX0 yX0_onTurn yX0_onTurn, Cond.initialized RX0, Cond.code yX0_onTurn cX0_onTurn 1 (some .int), Cond.fieldLink RX0 48 "BoltTailors$Game" "cuts" "I", Cond.methodLink RX0 92 yX0_endOfCoat, Cond.instanceMethod yX0_endOfCoat, Cond.selects RX0 yX0_endOfCoat yX0_endOfCoat, Cond.code yX0_endOfCoat cX0_endOfCoat 4 (some .int), Cond.fieldLink RX0 18 "BoltTailors$Game" "pieceFirst" "[I"]
def wsX0_worthOfCut_r2 : List Cond := [Cond.fieldLink RX0 21 "BoltTailors$Game" "pieceSize" "[I", Cond.methodLink RX0 113 yX0_piecesOf, Cond.instanceMethod yX0_piecesOf, Cond.selects RX0 yX0_piecesOf yX0_piecesOf, Cond.code yX0_piecesOf cX0_piecesOf 2 (some .int), Cond.static yX2_at, Cond.code yX2_at cX2_at 2 (some .int), Cond.static yX2_traitsOf, Cond.code yX2_traitsOf cX2_traitsOf 5 (some .int), Cond.methodLink RX2 72 yX2_at, Cond.methodLink RX2 280 yX2_isFold, Cond.static yX2_isFold, Cond.code yX2_isFold cX2_isFold 4 (some .boolean), Cond.static yX2_worthOf, Cond.code yX2_worthOf cX2_worthOf 5 (some .int)]
def wsX0_worthOfCut : List Cond := .code yX0_worthOfCut cX0_worthOfCut 4 (some .int) :: ((wsX0_worthOfCut_r1 ++ wsX0_worthOfCut_r2) ++ wsX00)
def wsX2_restStart : List Cond := .code yX2_restStart cX2_restStart 2 (some .int) :: ([.methodLink RX2 215 yX2_isFromLeft, .static yX2_isFromLeft, .initialized RX2, .code yX2_isFromLeft cX2_isFromLeft 1 (some .boolean), .methodLink RX2 218 yX2_sizeOf, .static yX2_sizeOf, .code yX2_sizeOf cX2_sizeOf 1 (some .int)])
def wsX2_restEnd : List Cond := .code yX2_restEnd cX2_restEnd 2 (some .int) :: ([.methodLink RX2 215 yX2_isFromLeft, .static yX2_isFromLeft, .initialized RX2, .code yX2_isFromLeft cX2_isFromLeft 1 (some .boolean), .methodLink RX2 218 yX2_sizeOf, .static yX2_sizeOf, .code yX2_sizeOf cX2_sizeOf 1 (some .int)])
def wsX0_sew_r1 : List Cond := [Cond.fieldLink RX0 42 "BoltTailors$Game" "first" "I", Cond.fieldLink RX0 45 "BoltTailors$Game" "end" "I", Cond.fieldLink RX0 9 "BoltTailors$Game" "colours" "[I", Cond.fieldLink RX0 15 "BoltTailors$Game" "settings" "[I", Cond.fieldLink RX0 18 "BoltTailors$Game" "pieceFirst" "[I", Cond.fieldLink RX0 48 "BoltTailors$Game" "cuts" "I", Cond.fieldLink RX0 21 "BoltTailors$Game" "pieceSize" "[I", Cond.fieldLink RX0 24 "BoltTailors$Game" "pieceWorth" "[I", Cond.fieldLink RX0 27 "BoltTailors$Game" "pieceTraits" "[I", Cond.static yX2_sizeOf, Cond.initialized RX2, Cond.code yX2_sizeOf cX2_sizeOf 1 (some .int), Cond.methodLink RX2 215 yX2_isFromLeft, Cond.static yX2_isFromLeft, Cond.code yX2_isFromLeft cX2_isFromLeft 1 (some .boolean), Cond.static yX2_pieceStart, Cond.code yX2_pieceStart cX2_pieceStart 3 (some .int), Cond.methodLink RX2 218 yX2_sizeOf, Cond.methodLink RX0 89 yX0_onTurn, Cond.instanceMethod yX0_onTurn, Cond.selects RX0 yX0_onTurn yX0_onTurn, Cond.initialized RX0, Cond.code yX0_onTurn cX0_onTurn 1 (some .int), Cond.methodLink RX0 92 yX0_endOfCoat]
def wsX0_sew_r2 : List Cond := [Cond.instanceMethod yX0_endOfCoat, Cond.selects RX0 yX0_endOfCoat yX0_endOfCoat, Cond.code yX0_endOfCoat cX0_endOfCoat 4 (some .int), Cond.methodLink RX0 113 yX0_piecesOf, Cond.instanceMethod yX0_piecesOf, Cond.selects RX0 yX0_piecesOf yX0_piecesOf, Cond.code yX0_piecesOf cX0_piecesOf 2 (some .int), Cond.static yX2_at, Cond.code yX2_at cX2_at 2 (some .int), Cond.static yX2_traitsOf, Cond.code yX2_traitsOf cX2_traitsOf 5 (some .int), Cond.methodLink RX2 72 yX2_at, Cond.methodLink RX2 280 yX2_isFold, Cond.static yX2_isFold, Cond.code yX2_isFold cX2_isFold 4 (some .boolean), Cond.static yX2_worthOf, Cond.code yX2_worthOf cX2_worthOf 5 (some .int), Cond.static yX2_put, Cond.code yX2_put cX2_put 3 none, Cond.static yX2_restStart, Cond.code yX2_restStart cX2_restStart 2 (some .int), Cond.static yX2_restEnd, Cond.code yX2_restEnd cX2_restEnd 2 (some .int)]
def wsX0_sew : List Cond := .code yX0_sew cX0_sew 6 (some .int) :: ((wsX0_sew_r1 ++ wsX0_sew_r2) ++ wsX00)
def wsX0_turnRound : List Cond := .code yX0_turnRound cX0_turnRound 5 (some .int) :: ([.fieldLink RX0 42 "BoltTailors$Game" "first" "I", .fieldLink RX0 45 "BoltTailors$Game" "end" "I", .fieldLink RX0 9 "BoltTailors$Game" "colours" "[I", .static yX2_at, .initialized RX2, .code yX2_at cX2_at 2 (some .int), .static yX2_put, .code yX2_put cX2_put 3 none] ++ wsX00)
def wsX0_sumOfCoat : List Cond := .code yX0_sumOfCoat cX0_sumOfCoat 5 (some .int) :: ([.fieldLink RX0 48 "BoltTailors$Game" "cuts" "I", .static yX2_at, .initialized RX2, .code yX2_at cX2_at 2 (some .int)] ++ wsX00)
def wsX0_piecesWith : List Cond := .code yX0_piecesWith cX0_piecesWith 5 (some .int) :: ([.fieldLink RX0 48 "BoltTailors$Game" "cuts" "I", .fieldLink RX0 27 "BoltTailors$Game" "pieceTraits" "[I", .static yX2_at, .initialized RX2, .code yX2_at cX2_at 2 (some .int)] ++ wsX00)
def wsX0_colourChanges : List Cond := .code yX0_colourChanges cX0_colourChanges 3 (some .int) :: ([.fieldLink RX0 42 "BoltTailors$Game" "first" "I", .fieldLink RX0 45 "BoltTailors$Game" "end" "I", .fieldLink RX0 9 "BoltTailors$Game" "colours" "[I", .static yX2_at, .initialized RX2, .code yX2_at cX2_at 2 (some .int)] ++ wsX00)
def wsX0_stripesLeftOf : List Cond := .code yX0_stripesLeftOf cX0_stripesLeftOf 4 (some .int) :: ([.fieldLink RX0 42 "BoltTailors$Game" "first" "I", .fieldLink RX0 45 "BoltTailors$Game" "end" "I", .fieldLink RX0 9 "BoltTailors$Game" "colours" "[I", .static yX2_at, .initialized RX2, .code yX2_at cX2_at 2 (some .int)] ++ wsX00)
def wsX0_coloursLeft : List Cond := .code yX0_coloursLeft cX0_coloursLeft 3 (some .int) :: ([.methodLink RX0 116 yX0_stripesLeftOf, .instanceMethod yX0_stripesLeftOf, .selects RX0 yX0_stripesLeftOf yX0_stripesLeftOf, .initialized RX0, .code yX0_stripesLeftOf cX0_stripesLeftOf 4 (some .int), .fieldLink RX0 42 "BoltTailors$Game" "first" "I", .fieldLink RX0 45 "BoltTailors$Game" "end" "I", .fieldLink RX0 9 "BoltTailors$Game" "colours" "[I", .static yX2_at, .initialized RX2, .code yX2_at cX2_at 2 (some .int)] ++ wsX00)
def wsX0_longestFold : List Cond := .code yX0_longestFold cX0_longestFold 3 (some .int) :: ([.fieldLink RX0 42 "BoltTailors$Game" "first" "I", .fieldLink RX0 45 "BoltTailors$Game" "end" "I", .fieldLink RX0 9 "BoltTailors$Game" "colours" "[I", .methodLink RX0 72 yX0_remaining, .instanceMethod yX0_remaining, .selects RX0 yX0_remaining yX0_remaining, .initialized RX0, .code yX0_remaining cX0_remaining 1 (some .int), .static yX2_isFold, .initialized RX2, .code yX2_isFold cX2_isFold 4 (some .boolean), .methodLink RX2 72 yX2_at, .static yX2_at, .code yX2_at cX2_at 2 (some .int)] ++ wsX00)
def wsX1_init : List Cond := .code yX1_init cX1_init 1 none :: ([.methodLink RX1 3 objectInit, .instanceMethod objectInit, .code objectInit ⟨#[0xb1]⟩ 1 none, .arrayClass .int, .fieldLink RX1 9 "BoltTailors$Leads" "colours" "[I", .fieldLink RX1 15 "BoltTailors$Leads" "settings" "[I", .fieldLink RX1 18 "BoltTailors$Leads" "kept" "[I"] ++ wsX10)
def wsX1_isFor : List Cond := .code yX1_isFor cX1_isFor 4 (some .boolean) :: ([.fieldLink RX1 39 "BoltTailors$Leads" "stripes" "I", .fieldLink RX1 35 "BoltTailors$Game" "stripes" "I", .fieldLink RX1 15 "BoltTailors$Leads" "settings" "[I", .fieldLink RX1 34 "BoltTailors$Game" "settings" "[I", .fieldLink RX1 9 "BoltTailors$Leads" "colours" "[I", .fieldLink RX1 25 "BoltTailors$Game" "colours" "[I", .static yX2_at, .initialized RX2, .code yX2_at cX2_at 2 (some .int)] ++ wsX10 ++ wsX00)
def wsJ7_fill_53178 : List Cond := .code yJ7_fill_53178 cJ7_fill_53178 4 none :: ([])
def wsX1_fitTo : List Cond := .code yX1_fitTo cX1_fitTo 2 none :: ([.fieldLink RX1 25 "BoltTailors$Game" "colours" "[I", .fieldLink RX1 9 "BoltTailors$Leads" "colours" "[I", .methodLink RX1 28 arraycopyName, .native arraycopyName, .static arraycopyName, .initialized "java/lang/System", .fieldLink RX1 34 "BoltTailors$Game" "settings" "[I", .fieldLink RX1 15 "BoltTailors$Leads" "settings" "[I", .fieldLink RX1 35 "BoltTailors$Game" "stripes" "I", .fieldLink RX1 39 "BoltTailors$Leads" "stripes" "I", .fieldLink RX1 18 "BoltTailors$Leads" "kept" "[I", .constant RX1 40 (-1000000), .methodLink RX1 21 yX1_isFor, .instanceMethod yX1_isFor, .selects RX1 yX1_isFor yX1_isFor, .initialized RX1, .code yX1_isFor cX1_isFor 4 (some .boolean), .static yX2_at, .initialized RX2, .code yX2_at cX2_at 2 (some .int), .methodLink RX1 41 yJ7_fill_53178, .static yJ7_fill_53178, .initialized RJ7, .code yJ7_fill_53178 cJ7_fill_53178 4 none] ++ wsX00 ++ wsX10)
def wsX1_place : List Cond := .code yX1_place cX1_place 4 (some .int) :: ([])
def wsX1_told : List Cond := .code yX1_told cX1_told 5 (some .int) :: ([.fieldLink RX1 18 "BoltTailors$Leads" "kept" "[I", .methodLink RX1 51 yX1_place, .static yX1_place, .initialized RX1, .code yX1_place cX1_place 4 (some .int), .static yX2_at, .initialized RX2, .code yX2_at cX2_at 2 (some .int)] ++ wsX10)
def wsX1_keep : List Cond := .code yX1_keep cX1_keep 6 none :: ([.fieldLink RX1 18 "BoltTailors$Leads" "kept" "[I", .methodLink RX1 51 yX1_place, .static yX1_place, .initialized RX1, .code yX1_place cX1_place 4 (some .int), .static yX2_put, .initialized RX2, .code yX2_put cX2_put 3 none] ++ wsX10)
def wsX2_init_r1 : List Cond := [Cond.methodLink RX2 1 objectInit, Cond.instanceMethod objectInit, Cond.code objectInit ⟨#[0xb1]⟩ 1 none, Cond.classLink RX2 7 RX0, Cond.instantiable RX0 10, Cond.initialized RX0, Cond.fieldLink RX2 10 "BoltTailors" "now" "LBoltTailors$Game;", Cond.fieldLink RX2 16 "BoltTailors" "trial" "LBoltTailors$Game;", Cond.fieldLink RX2 19 "BoltTailors" "snapshot" "LBoltTailors$Game;", Cond.fieldLink RX2 22 "BoltTailors" "past" "[LBoltTailors$Game;", Cond.arrayClass .char, Cond.fieldLink RX2 26 "BoltTailors" "pad" "[C", Cond.classLink RX2 30 RX1, Cond.instantiable RX1 4, Cond.initialized RX1, Cond.fieldLink RX2 33 "BoltTailors" "leadsByRows" "LBoltTailors$Leads;", Cond.fieldLink RX2 37 "BoltTailors" "leadsByCuts" "LBoltTailors$Leads;", Cond.methodLink RX2 9 yX0_init, Cond.instanceMethod yX0_init, Cond.code yX0_init cX0_init 2 none, Cond.methodLink RX0 3 objectInit, Cond.arrayClass .int, Cond.fieldLink RX0 9 "BoltTailors$Game" "colours" "[I", Cond.fieldLink RX0 15 "BoltTailors$Game" "settings" "[I"]
def wsX2_init_r2 : List Cond := [Cond.fieldLink RX0 18 "BoltTailors$Game" "pieceFirst" "[I", Cond.fieldLink RX0 21 "BoltTailors$Game" "pieceSize" "[I", Cond.fieldLink RX0 24 "BoltTailors$Game" "pieceWorth" "[I", Cond.fieldLink RX0 27 "BoltTailors$Game" "pieceTraits" "[I", Cond.fieldLink RX0 38 "BoltTailors$Game" "stripes" "I", Cond.fieldLink RX0 42 "BoltTailors$Game" "first" "I", Cond.fieldLink RX0 45 "BoltTailors$Game" "end" "I", Cond.fieldLink RX0 48 "BoltTailors$Game" "cuts" "I", Cond.methodLink RX0 32 yJ0_length_8abf5, Cond.instanceMethod yJ0_length_8abf5, Cond.selects RJ0 yJ0_length_8abf5 yJ0_length_8abf5, Cond.initialized RJ0, Cond.code yJ0_length_8abf5 cJ0_length_8abf5 1 (some .int), Cond.fieldLink RJ0 9 "java/lang/String" "value" "[B", Cond.methodLink RJ0 335 yJ0_coder_7d493, Cond.instanceMethod yJ0_coder_7d493, Cond.selects RJ0 yJ0_coder_7d493 yJ0_coder_7d493, Cond.code yJ0_coder_7d493 cJ0_coder_7d493 1 (some .byte), Cond.fieldLink RJ0 38 "java/lang/String" "COMPACT_STRINGS" "Z", Cond.fieldLink RJ0 15 "java/lang/String" "coder" "B", Cond.static yX2_at, Cond.initialized RX2, Cond.code yX2_at cX2_at 2 (some .int), Cond.static yX2_put]
def wsX2_init_r3 : List Cond := [Cond.code yX2_put cX2_put 3 none, Cond.methodLink RX0 62 yJ0_charAt_5068e, Cond.instanceMethod yJ0_charAt_5068e, Cond.selects RJ0 yJ0_charAt_5068e yJ0_charAt_5068e, Cond.code yJ0_charAt_5068e cJ0_charAt_5068e 2 (some .char), Cond.methodLink RJ0 492 yJ0_isLatin1_aae02, Cond.instanceMethod yJ0_isLatin1_aae02, Cond.selects RJ0 yJ0_isLatin1_aae02 yJ0_isLatin1_aae02, Cond.code yJ0_isLatin1_aae02 cJ0_isLatin1_aae02 1 (some .boolean), Cond.methodLink RJ0 495 yJ1_charAt_3b067, Cond.static yJ1_charAt_3b067, Cond.initialized RJ1, Cond.code yJ1_charAt_3b067 cJ1_charAt_3b067 2 (some .char), Cond.methodLink RJ1 9 yJ0_checkIndex_df160, Cond.static yJ0_checkIndex_df160, Cond.code yJ0_checkIndex_df160 cJ0_checkIndex_df160 2 none, Cond.fieldLink RJ0 1053 "jdk/internal/util/Preconditions" "SIOOBE_FORMATTER" "Ljava/util/function/BiFunction;", Cond.methodLink RJ0 1059 yJ3_checkIndex_8e157, Cond.static yJ3_checkIndex_8e157, Cond.initialized RJ3, Cond.code yJ3_checkIndex_8e157 cJ3_checkIndex_8e157 3 (some .int), Cond.methodLink RJ0 498 yJ2_charAt_3b067, Cond.static yJ2_charAt_3b067, Cond.initialized RJ2]
def wsX2_init_r4 : List Cond := [Cond.code yJ2_charAt_3b067 cJ2_charAt_3b067 2 (some .char), Cond.methodLink RJ2 67 yJ2_checkIndex_2214a, Cond.static yJ2_checkIndex_2214a, Cond.code yJ2_checkIndex_2214a cJ2_checkIndex_2214a 2 none, Cond.methodLink RJ2 48 yJ2_length_9d52b, Cond.static yJ2_length_9d52b, Cond.code yJ2_length_9d52b cJ2_length_9d52b 1 (some .int), Cond.methodLink RJ2 414 yJ0_checkIndex_df160, Cond.methodLink RJ2 71 yJ2_getChar_3b067, Cond.static yJ2_getChar_3b067, Cond.code yJ2_getChar_3b067 cJ2_getChar_3b067 2 (some .char), Cond.fieldLink RJ2 44 "java/lang/StringUTF16" "$assertionsDisabled" "Z", Cond.fieldLink RJ2 59 "java/lang/StringUTF16" "HI_BYTE_SHIFT" "I", Cond.fieldLink RJ2 63 "java/lang/StringUTF16" "LO_BYTE_SHIFT" "I", Cond.instanceMethod yX1_init, Cond.code yX1_init cX1_init 1 none, Cond.methodLink RX1 3 objectInit, Cond.fieldLink RX1 9 "BoltTailors$Leads" "colours" "[I", Cond.fieldLink RX1 15 "BoltTailors$Leads" "settings" "[I", Cond.fieldLink RX1 18 "BoltTailors$Leads" "kept" "[I"]
def wsX2_init : List Cond := .code yX2_init cX2_init 2 none :: ((wsX2_init_r1 ++ (wsX2_init_r2 ++ (wsX2_init_r3 ++ wsX2_init_r4))) ++ wsX00 ++ wsX20 ++ wsX10)
def wsX2_errorOfCut : List Cond := .code yX2_errorOfCut cX2_errorOfCut 2 (some .int) :: ([.fieldLink RX2 10 "BoltTailors" "now" "LBoltTailors$Game;", .methodLink RX2 221 yX0_longestCut, .instanceMethod yX0_longestCut, .selects RX0 yX0_longestCut yX0_longestCut, .initialized RX0, .code yX0_longestCut cX0_longestCut 1 (some .int), .fieldLink RX0 15 "BoltTailors$Game" "settings" "[I", .methodLink RX0 75 Lib.Math.min.name, .static Lib.Math.min.name, .initialized "java/lang/Math", .code Lib.Math.min.name Lib.Math.min.code 2 (some .int), .static yX2_at, .initialized RX2, .code yX2_at cX2_at 2 (some .int), .methodLink RX0 72 yX0_remaining, .instanceMethod yX0_remaining, .selects RX0 yX0_remaining yX0_remaining, .code yX0_remaining cX0_remaining 1 (some .int), .fieldLink RX0 45 "BoltTailors$Game" "end" "I", .fieldLink RX0 42 "BoltTailors$Game" "first" "I"] ++ wsX20 ++ wsX00)
def wsX2_pastAt : List Cond := .code yX2_pastAt cX2_pastAt 2 (some (.object "BoltTailors$Game")) :: ([.fieldLink RX2 22 "BoltTailors" "past" "[LBoltTailors$Game;"] ++ wsX20)
def wsX2_dropOldest : List Cond := .code yX2_dropOldest cX2_dropOldest 3 none :: ([.fieldLink RX2 22 "BoltTailors" "past" "[LBoltTailors$Game;", .fieldLink RX2 177 "BoltTailors" "states" "I", .methodLink RX2 204 yX2_pastAt, .instanceMethod yX2_pastAt, .selects RX2 yX2_pastAt yX2_pastAt, .initialized RX2, .code yX2_pastAt cX2_pastAt 2 (some (.object "BoltTailors$Game"))] ++ wsX20)
def wsX2_record_r1 : List Cond := [Cond.fieldLink RX2 177 "BoltTailors" "states" "I", Cond.fieldLink RX2 22 "BoltTailors" "past" "[LBoltTailors$Game;", Cond.fieldLink RX2 10 "BoltTailors" "now" "LBoltTailors$Game;", Cond.methodLink RX2 212 yX2_dropOldest, Cond.instanceMethod yX2_dropOldest, Cond.selects RX2 yX2_dropOldest yX2_dropOldest, Cond.initialized RX2, Cond.code yX2_dropOldest cX2_dropOldest 3 none, Cond.methodLink RX2 204 yX2_pastAt, Cond.instanceMethod yX2_pastAt, Cond.selects RX2 yX2_pastAt yX2_pastAt, Cond.code yX2_pastAt cX2_pastAt 2 (some (.object "BoltTailors$Game")), Cond.methodLink RX2 200 yX0_copyFrom, Cond.instanceMethod yX0_copyFrom, Cond.selects RX0 yX0_copyFrom yX0_copyFrom, Cond.initialized RX0, Cond.code yX0_copyFrom cX0_copyFrom 2 none, Cond.fieldLink RX0 9 "BoltTailors$Game" "colours" "[I", Cond.methodLink RX0 66 arraycopyName, Cond.native arraycopyName, Cond.static arraycopyName, Cond.initialized "java/lang/System", Cond.fieldLink RX0 15 "BoltTailors$Game" "settings" "[I", Cond.fieldLink RX0 18 "BoltTailors$Game" "pieceFirst" "[I"]
def wsX2_record_r2 : List Cond := [Cond.fieldLink RX0 21 "BoltTailors$Game" "pieceSize" "[I", Cond.fieldLink RX0 24 "BoltTailors$Game" "pieceWorth" "[I", Cond.fieldLink RX0 27 "BoltTailors$Game" "pieceTraits" "[I", Cond.fieldLink RX0 38 "BoltTailors$Game" "stripes" "I", Cond.fieldLink RX0 42 "BoltTailors$Game" "first" "I", Cond.fieldLink RX0 45 "BoltTailors$Game" "end" "I", Cond.fieldLink RX0 48 "BoltTailors$Game" "cuts" "I"]
def wsX2_record : List Cond := .code yX2_record cX2_record 2 none :: ((wsX2_record_r1 ++ wsX2_record_r2) ++ wsX20 ++ wsX00)
def wsX2_codeOf : List Cond := .code yX2_codeOf cX2_codeOf 2 (some .int) :: ([])
def wsX2_cut_r1 : List Cond := [Cond.fieldLink RX2 10 "BoltTailors" "now" "LBoltTailors$Game;", Cond.methodLink RX2 40 yX2_errorOfCut, Cond.instanceMethod yX2_errorOfCut, Cond.selects RX2 yX2_errorOfCut yX2_errorOfCut, Cond.initialized RX2, Cond.code yX2_errorOfCut cX2_errorOfCut 2 (some .int), Cond.methodLink RX2 221 yX0_longestCut, Cond.instanceMethod yX0_longestCut, Cond.selects RX0 yX0_longestCut yX0_longestCut, Cond.initialized RX0, Cond.code yX0_longestCut cX0_longestCut 1 (some .int), Cond.fieldLink RX0 15 "BoltTailors$Game" "settings" "[I", Cond.methodLink RX0 75 Lib.Math.min.name, Cond.static Lib.Math.min.name, Cond.initialized "java/lang/Math", Cond.code Lib.Math.min.name Lib.Math.min.code 2 (some .int), Cond.static yX2_at, Cond.code yX2_at cX2_at 2 (some .int), Cond.methodLink RX0 72 yX0_remaining, Cond.instanceMethod yX0_remaining, Cond.selects RX0 yX0_remaining yX0_remaining, Cond.code yX0_remaining cX0_remaining 1 (some .int), Cond.fieldLink RX0 45 "BoltTailors$Game" "end" "I", Cond.fieldLink RX0 42 "BoltTailors$Game" "first" "I"]
def wsX2_cut_r2 : List Cond := [Cond.methodLink RX2 44 yX2_record, Cond.instanceMethod yX2_record, Cond.selects RX2 yX2_record yX2_record, Cond.code yX2_record cX2_record 2 none, Cond.fieldLink RX2 177 "BoltTailors" "states" "I", Cond.fieldLink RX2 22 "BoltTailors" "past" "[LBoltTailors$Game;", Cond.methodLink RX2 212 yX2_dropOldest, Cond.instanceMethod yX2_dropOldest, Cond.selects RX2 yX2_dropOldest yX2_dropOldest, Cond.code yX2_dropOldest cX2_dropOldest 3 none, Cond.methodLink RX2 204 yX2_pastAt, Cond.instanceMethod yX2_pastAt, Cond.selects RX2 yX2_pastAt yX2_pastAt, Cond.code yX2_pastAt cX2_pastAt 2 (some (.object "BoltTailors$Game")), Cond.methodLink RX2 200 yX0_copyFrom, Cond.instanceMethod yX0_copyFrom, Cond.selects RX0 yX0_copyFrom yX0_copyFrom, Cond.code yX0_copyFrom cX0_copyFrom 2 none, Cond.fieldLink RX0 9 "BoltTailors$Game" "colours" "[I", Cond.methodLink RX0 66 arraycopyName, Cond.native arraycopyName, Cond.static arraycopyName, Cond.initialized "java/lang/System", Cond.fieldLink RX0 18 "BoltTailors$Game" "pieceFirst" "[I"]
def wsX2_cut_r3 : List Cond := [Cond.fieldLink RX0 21 "BoltTailors$Game" "pieceSize" "[I", Cond.fieldLink RX0 24 "BoltTailors$Game" "pieceWorth" "[I", Cond.fieldLink RX0 27 "BoltTailors$Game" "pieceTraits" "[I", Cond.fieldLink RX0 38 "BoltTailors$Game" "stripes" "I", Cond.fieldLink RX0 48 "BoltTailors$Game" "cuts" "I", Cond.methodLink RX2 47 yX2_codeOf, Cond.static yX2_codeOf, Cond.code yX2_codeOf cX2_codeOf 2 (some .int), Cond.methodLink RX2 51 yX0_sew, Cond.instanceMethod yX0_sew, Cond.selects RX0 yX0_sew yX0_sew, Cond.code yX0_sew cX0_sew 6 (some .int), Cond.static yX2_sizeOf, Cond.code yX2_sizeOf cX2_sizeOf 1 (some .int), Cond.methodLink RX2 215 yX2_isFromLeft, Cond.static yX2_isFromLeft, Cond.code yX2_isFromLeft cX2_isFromLeft 1 (some .boolean), Cond.static yX2_pieceStart, Cond.code yX2_pieceStart cX2_pieceStart 3 (some .int), Cond.methodLink RX2 218 yX2_sizeOf, Cond.methodLink RX0 89 yX0_onTurn, Cond.instanceMethod yX0_onTurn, Cond.selects RX0 yX0_onTurn yX0_onTurn, Cond.code yX0_onTurn cX0_onTurn 1 (some .int)]
def wsX2_cut_r4 : List Cond := [Cond.methodLink RX0 92 yX0_endOfCoat, Cond.instanceMethod yX0_endOfCoat, Cond.selects RX0 yX0_endOfCoat yX0_endOfCoat, Cond.code yX0_endOfCoat cX0_endOfCoat 4 (some .int), Cond.methodLink RX0 113 yX0_piecesOf, Cond.instanceMethod yX0_piecesOf, Cond.selects RX0 yX0_piecesOf yX0_piecesOf, Cond.code yX0_piecesOf cX0_piecesOf 2 (some .int), Cond.static yX2_traitsOf, Cond.code yX2_traitsOf cX2_traitsOf 5 (some .int), Cond.methodLink RX2 72 yX2_at, Cond.methodLink RX2 280 yX2_isFold, Cond.static yX2_isFold, Cond.code yX2_isFold cX2_isFold 4 (some .boolean), Cond.static yX2_worthOf, Cond.code yX2_worthOf cX2_worthOf 5 (some .int), Cond.static yX2_put, Cond.code yX2_put cX2_put 3 none, Cond.static yX2_restStart, Cond.code yX2_restStart cX2_restStart 2 (some .int), Cond.static yX2_restEnd, Cond.code yX2_restEnd cX2_restEnd 2 (some .int)]
def wsX2_cut : List Cond := .code yX2_cut cX2_cut 4 (some .int) :: ((wsX2_cut_r1 ++ (wsX2_cut_r2 ++ (wsX2_cut_r3 ++ wsX2_cut_r4))) ++ wsX20 ++ wsX00)
def wsX2_goInto_r1 : List Cond := [Cond.constant RX2 227 (-1000000), Cond.fieldLink RX2 240 "BoltTailors$Leads" "settings" "[I", Cond.methodLink RX2 272 Lib.Math.min.name, Cond.static Lib.Math.min.name, Cond.initialized "java/lang/Math", Cond.code Lib.Math.min.name Lib.Math.min.code 2 (some .int), Cond.methodLink RX2 277 Lib.Math.max.name, Cond.static Lib.Math.max.name, Cond.code Lib.Math.max.name Lib.Math.max.code 2 (some .int), Cond.methodLink RX2 232 yX1_told, Cond.instanceMethod yX1_told, Cond.selects RX1 yX1_told yX1_told, Cond.initialized RX1, Cond.code yX1_told cX1_told 5 (some .int), Cond.fieldLink RX1 18 "BoltTailors$Leads" "kept" "[I", Cond.methodLink RX1 51 yX1_place, Cond.static yX1_place, Cond.code yX1_place cX1_place 4 (some .int), Cond.static yX2_at, Cond.initialized RX2, Cond.code yX2_at cX2_at 2 (some .int), Cond.methodLink RX2 72 yX2_at, Cond.methodLink RX2 47 yX2_codeOf, Cond.static yX2_codeOf]
def wsX2_goInto_r2 : List Cond := [Cond.code yX2_codeOf cX2_codeOf 2 (some .int), Cond.methodLink RX2 228 yX2_goThrough, Cond.static yX2_goThrough, Cond.methodLink RX2 264 yX1_keep, Cond.instanceMethod yX1_keep, Cond.selects RX1 yX1_keep yX1_keep, Cond.code yX1_keep cX1_keep 6 none, Cond.static yX2_put, Cond.code yX2_put cX2_put 3 none, Cond.code yX2_goThrough cX2_goThrough 11 (some .int), Cond.fieldLink RX2 249 "BoltTailors$Leads" "colours" "[I", Cond.methodLink RX2 218 yX2_sizeOf, Cond.static yX2_sizeOf, Cond.code yX2_sizeOf cX2_sizeOf 1 (some .int), Cond.methodLink RX2 215 yX2_isFromLeft, Cond.static yX2_isFromLeft, Cond.code yX2_isFromLeft cX2_isFromLeft 1 (some .boolean), Cond.methodLink RX2 245 yX2_pieceStart, Cond.static yX2_pieceStart, Cond.code yX2_pieceStart cX2_pieceStart 3 (some .int), Cond.methodLink RX2 250 yX2_traitsOf, Cond.static yX2_traitsOf, Cond.code yX2_traitsOf cX2_traitsOf 5 (some .int), Cond.methodLink RX2 280 yX2_isFold]
def wsX2_goInto_r3 : List Cond := [Cond.static yX2_isFold, Cond.code yX2_isFold cX2_isFold 4 (some .boolean), Cond.methodLink RX2 254 yX2_worthOf, Cond.static yX2_worthOf, Cond.code yX2_worthOf cX2_worthOf 5 (some .int), Cond.methodLink RX2 258 yX2_restStart, Cond.static yX2_restStart, Cond.code yX2_restStart cX2_restStart 2 (some .int), Cond.methodLink RX2 261 yX2_restEnd, Cond.static yX2_restEnd, Cond.code yX2_restEnd cX2_restEnd 2 (some .int), Cond.methodLink RX2 268 yX2_goInto, Cond.static yX2_goInto]
def wsX2_goInto : List Cond := .code yX2_goInto cX2_goInto 9 (some .int) :: ((wsX2_goInto_r1 ++ (wsX2_goInto_r2 ++ wsX2_goInto_r3)) ++ wsX10)
def wsX2_goThrough_r1 : List Cond := [Cond.fieldLink RX2 249 "BoltTailors$Leads" "colours" "[I", Cond.fieldLink RX2 240 "BoltTailors$Leads" "settings" "[I", Cond.methodLink RX2 218 yX2_sizeOf, Cond.static yX2_sizeOf, Cond.initialized RX2, Cond.code yX2_sizeOf cX2_sizeOf 1 (some .int), Cond.methodLink RX2 215 yX2_isFromLeft, Cond.static yX2_isFromLeft, Cond.code yX2_isFromLeft cX2_isFromLeft 1 (some .boolean), Cond.methodLink RX2 245 yX2_pieceStart, Cond.static yX2_pieceStart, Cond.code yX2_pieceStart cX2_pieceStart 3 (some .int), Cond.methodLink RX2 250 yX2_traitsOf, Cond.static yX2_traitsOf, Cond.code yX2_traitsOf cX2_traitsOf 5 (some .int), Cond.methodLink RX2 72 yX2_at, Cond.static yX2_at, Cond.code yX2_at cX2_at 2 (some .int), Cond.methodLink RX2 280 yX2_isFold, Cond.static yX2_isFold, Cond.code yX2_isFold cX2_isFold 4 (some .boolean), Cond.methodLink RX2 254 yX2_worthOf, Cond.static yX2_worthOf, Cond.code yX2_worthOf cX2_worthOf 5 (some .int)]
def wsX2_goThrough_r2 : List Cond := [Cond.methodLink RX2 258 yX2_restStart, Cond.static yX2_restStart, Cond.code yX2_restStart cX2_restStart 2 (some .int), Cond.methodLink RX2 261 yX2_restEnd, Cond.static yX2_restEnd, Cond.code yX2_restEnd cX2_restEnd 2 (some .int), Cond.methodLink RX2 268 yX2_goInto, Cond.static yX2_goInto, Cond.code yX2_goInto cX2_goInto 9 (some .int), Cond.constant RX2 227 (-1000000), Cond.methodLink RX2 272 Lib.Math.min.name, Cond.static Lib.Math.min.name, Cond.initialized "java/lang/Math", Cond.code Lib.Math.min.name Lib.Math.min.code 2 (some .int), Cond.methodLink RX2 277 Lib.Math.max.name, Cond.static Lib.Math.max.name, Cond.code Lib.Math.max.name Lib.Math.max.code 2 (some .int), Cond.methodLink RX2 232 yX1_told, Cond.instanceMethod yX1_told, Cond.selects RX1 yX1_told yX1_told, Cond.initialized RX1, Cond.code yX1_told cX1_told 5 (some .int), Cond.fieldLink RX1 18 "BoltTailors$Leads" "kept" "[I", Cond.methodLink RX1 51 yX1_place]
def wsX2_goThrough_r3 : List Cond := [Cond.static yX1_place, Cond.code yX1_place cX1_place 4 (some .int), Cond.methodLink RX2 47 yX2_codeOf, Cond.static yX2_codeOf, Cond.code yX2_codeOf cX2_codeOf 2 (some .int), Cond.methodLink RX2 228 yX2_goThrough, Cond.static yX2_goThrough, Cond.methodLink RX2 264 yX1_keep, Cond.instanceMethod yX1_keep, Cond.selects RX1 yX1_keep yX1_keep, Cond.code yX1_keep cX1_keep 6 none, Cond.static yX2_put, Cond.code yX2_put cX2_put 3 none]
def wsX2_goThrough : List Cond := .code yX2_goThrough cX2_goThrough 11 (some .int) :: ((wsX2_goThrough_r1 ++ (wsX2_goThrough_r2 ++ wsX2_goThrough_r3)) ++ wsX10)
def wsX2_choice_r1 : List Cond := [Cond.fieldLink RX2 37 "BoltTailors" "leadsByCuts" "LBoltTailors$Leads;", Cond.constant RX2 227 (-1000000), Cond.fieldLink RX2 156 "BoltTailors$Game" "first" "I", Cond.fieldLink RX2 159 "BoltTailors$Game" "end" "I", Cond.methodLink RX2 224 yX1_fitTo, Cond.instanceMethod yX1_fitTo, Cond.selects RX1 yX1_fitTo yX1_fitTo, Cond.initialized RX1, Cond.code yX1_fitTo cX1_fitTo 2 none, Cond.fieldLink RX1 25 "BoltTailors$Game" "colours" "[I", Cond.fieldLink RX1 9 "BoltTailors$Leads" "colours" "[I", Cond.methodLink RX1 28 arraycopyName, Cond.native arraycopyName, Cond.static arraycopyName, Cond.initialized "java/lang/System", Cond.fieldLink RX1 34 "BoltTailors$Game" "settings" "[I", Cond.fieldLink RX1 15 "BoltTailors$Leads" "settings" "[I", Cond.fieldLink RX1 35 "BoltTailors$Game" "stripes" "I", Cond.fieldLink RX1 39 "BoltTailors$Leads" "stripes" "I", Cond.fieldLink RX1 18 "BoltTailors$Leads" "kept" "[I", Cond.constant RX1 40 (-1000000), Cond.methodLink RX1 21 yX1_isFor, Cond.instanceMethod yX1_isFor, Cond.selects RX1 yX1_isFor yX1_isFor]
def wsX2_choice_r2 : List Cond := [Cond.code yX1_isFor cX1_isFor 4 (some .boolean), Cond.static yX2_at, Cond.initialized RX2, Cond.code yX2_at cX2_at 2 (some .int), Cond.methodLink RX1 41 yJ7_fill_53178, Cond.static yJ7_fill_53178, Cond.initialized RJ7, Cond.code yJ7_fill_53178 cJ7_fill_53178 4 none, Cond.methodLink RX2 162 yX0_onTurn, Cond.instanceMethod yX0_onTurn, Cond.selects RX0 yX0_onTurn yX0_onTurn, Cond.initialized RX0, Cond.code yX0_onTurn cX0_onTurn 1 (some .int), Cond.fieldLink RX0 48 "BoltTailors$Game" "cuts" "I", Cond.methodLink RX2 136 yX0_endOfCoat, Cond.instanceMethod yX0_endOfCoat, Cond.selects RX0 yX0_endOfCoat yX0_endOfCoat, Cond.code yX0_endOfCoat cX0_endOfCoat 4 (some .int), Cond.fieldLink RX0 9 "BoltTailors$Game" "colours" "[I", Cond.fieldLink RX0 18 "BoltTailors$Game" "pieceFirst" "[I", Cond.fieldLink RX0 21 "BoltTailors$Game" "pieceSize" "[I", Cond.methodLink RX0 113 yX0_piecesOf, Cond.instanceMethod yX0_piecesOf, Cond.selects RX0 yX0_piecesOf yX0_piecesOf]
def wsX2_choice_r3 : List Cond := [Cond.code yX0_piecesOf cX0_piecesOf 2 (some .int), Cond.methodLink RX2 221 yX0_longestCut, Cond.instanceMethod yX0_longestCut, Cond.selects RX0 yX0_longestCut yX0_longestCut, Cond.code yX0_longestCut cX0_longestCut 1 (some .int), Cond.fieldLink RX0 15 "BoltTailors$Game" "settings" "[I", Cond.methodLink RX0 75 Lib.Math.min.name, Cond.static Lib.Math.min.name, Cond.initialized "java/lang/Math", Cond.code Lib.Math.min.name Lib.Math.min.code 2 (some .int), Cond.methodLink RX0 72 yX0_remaining, Cond.instanceMethod yX0_remaining, Cond.selects RX0 yX0_remaining yX0_remaining, Cond.code yX0_remaining cX0_remaining 1 (some .int), Cond.fieldLink RX0 45 "BoltTailors$Game" "end" "I", Cond.fieldLink RX0 42 "BoltTailors$Game" "first" "I", Cond.methodLink RX2 47 yX2_codeOf, Cond.static yX2_codeOf, Cond.code yX2_codeOf cX2_codeOf 2 (some .int), Cond.methodLink RX2 183 yX0_worthOfCut, Cond.instanceMethod yX0_worthOfCut, Cond.selects RX0 yX0_worthOfCut yX0_worthOfCut, Cond.code yX0_worthOfCut cX0_worthOfCut 4 (some .int), Cond.static yX2_sizeOf]
def wsX2_choice_r4 : List Cond := [Cond.code yX2_sizeOf cX2_sizeOf 1 (some .int), Cond.methodLink RX2 215 yX2_isFromLeft, Cond.static yX2_isFromLeft, Cond.code yX2_isFromLeft cX2_isFromLeft 1 (some .boolean), Cond.static yX2_pieceStart, Cond.code yX2_pieceStart cX2_pieceStart 3 (some .int), Cond.methodLink RX2 218 yX2_sizeOf, Cond.methodLink RX0 89 yX0_onTurn, Cond.methodLink RX0 92 yX0_endOfCoat, Cond.static yX2_traitsOf, Cond.code yX2_traitsOf cX2_traitsOf 5 (some .int), Cond.methodLink RX2 72 yX2_at, Cond.methodLink RX2 280 yX2_isFold, Cond.static yX2_isFold, Cond.code yX2_isFold cX2_isFold 4 (some .boolean), Cond.static yX2_worthOf, Cond.code yX2_worthOf cX2_worthOf 5 (some .int), Cond.methodLink RX2 228 yX2_goThrough, Cond.static yX2_goThrough, Cond.code yX2_goThrough cX2_goThrough 11 (some .int), Cond.fieldLink RX2 249 "BoltTailors$Leads" "colours" "[I", Cond.fieldLink RX2 240 "BoltTailors$Leads" "settings" "[I", Cond.methodLink RX2 245 yX2_pieceStart, Cond.methodLink RX2 250 yX2_traitsOf]
def wsX2_choice_r5 : List Cond := [Cond.methodLink RX2 254 yX2_worthOf, Cond.methodLink RX2 258 yX2_restStart, Cond.static yX2_restStart, Cond.code yX2_restStart cX2_restStart 2 (some .int), Cond.methodLink RX2 261 yX2_restEnd, Cond.static yX2_restEnd, Cond.code yX2_restEnd cX2_restEnd 2 (some .int), Cond.methodLink RX2 268 yX2_goInto, Cond.static yX2_goInto, Cond.code yX2_goInto cX2_goInto 9 (some .int), Cond.methodLink RX2 272 Lib.Math.min.name, Cond.methodLink RX2 277 Lib.Math.max.name, Cond.static Lib.Math.max.name, Cond.code Lib.Math.max.name Lib.Math.max.code 2 (some .int), Cond.methodLink RX2 232 yX1_told, Cond.instanceMethod yX1_told, Cond.selects RX1 yX1_told yX1_told, Cond.code yX1_told cX1_told 5 (some .int), Cond.methodLink RX1 51 yX1_place, Cond.static yX1_place, Cond.code yX1_place cX1_place 4 (some .int), Cond.methodLink RX2 264 yX1_keep, Cond.instanceMethod yX1_keep, Cond.selects RX1 yX1_keep yX1_keep]
def wsX2_choice_r6 : List Cond := [Cond.code yX1_keep cX1_keep 6 none, Cond.static yX2_put, Cond.code yX2_put cX2_put 3 none]
def wsX2_choice : List Cond := .code yX2_choice cX2_choice 12 (some .int) :: ((wsX2_choice_r1 ++ (wsX2_choice_r2 ++ (wsX2_choice_r3 ++ (wsX2_choice_r4 ++ (wsX2_choice_r5 ++ wsX2_choice_r6))))) ++ wsX20 ++ wsX00 ++ wsX10)
def wsX2_cutBy_r1 : List Cond := [Cond.fieldLink RX2 10 "BoltTailors" "now" "LBoltTailors$Game;", Cond.methodLink RX2 197 yX2_choice, Cond.instanceMethod yX2_choice, Cond.selects RX2 yX2_choice yX2_choice, Cond.initialized RX2, Cond.code yX2_choice cX2_choice 12 (some .int), Cond.fieldLink RX2 37 "BoltTailors" "leadsByCuts" "LBoltTailors$Leads;", Cond.constant RX2 227 (-1000000), Cond.fieldLink RX2 156 "BoltTailors$Game" "first" "I", Cond.fieldLink RX2 159 "BoltTailors$Game" "end" "I", Cond.methodLink RX2 224 yX1_fitTo, Cond.instanceMethod yX1_fitTo, Cond.selects RX1 yX1_fitTo yX1_fitTo, Cond.initialized RX1, Cond.code yX1_fitTo cX1_fitTo 2 none, Cond.fieldLink RX1 25 "BoltTailors$Game" "colours" "[I", Cond.fieldLink RX1 9 "BoltTailors$Leads" "colours" "[I", Cond.methodLink RX1 28 arraycopyName, Cond.native arraycopyName, Cond.static arraycopyName, Cond.initialized "java/lang/System", Cond.fieldLink RX1 34 "BoltTailors$Game" "settings" "[I", Cond.fieldLink RX1 15 "BoltTailors$Leads" "settings" "[I", Cond.fieldLink RX1 35 "BoltTailors$Game" "stripes" "I"]
def wsX2_cutBy_r2 : List Cond := [Cond.fieldLink RX1 39 "BoltTailors$Leads" "stripes" "I", Cond.fieldLink RX1 18 "BoltTailors$Leads" "kept" "[I", Cond.constant RX1 40 (-1000000), Cond.methodLink RX1 21 yX1_isFor, Cond.instanceMethod yX1_isFor, Cond.selects RX1 yX1_isFor yX1_isFor, Cond.code yX1_isFor cX1_isFor 4 (some .boolean), Cond.static yX2_at, Cond.code yX2_at cX2_at 2 (some .int), Cond.methodLink RX1 41 yJ7_fill_53178, Cond.static yJ7_fill_53178, Cond.initialized RJ7, Cond.code yJ7_fill_53178 cJ7_fill_53178 4 none, Cond.methodLink RX2 162 yX0_onTurn, Cond.instanceMethod yX0_onTurn, Cond.selects RX0 yX0_onTurn yX0_onTurn, Cond.initialized RX0, Cond.code yX0_onTurn cX0_onTurn 1 (some .int), Cond.fieldLink RX0 48 "BoltTailors$Game" "cuts" "I", Cond.methodLink RX2 136 yX0_endOfCoat, Cond.instanceMethod yX0_endOfCoat, Cond.selects RX0 yX0_endOfCoat yX0_endOfCoat, Cond.code yX0_endOfCoat cX0_endOfCoat 4 (some .int), Cond.fieldLink RX0 9 "BoltTailors$Game" "colours" "[I"]
def wsX2_cutBy_r3 : List Cond := [Cond.fieldLink RX0 18 "BoltTailors$Game" "pieceFirst" "[I", Cond.fieldLink RX0 21 "BoltTailors$Game" "pieceSize" "[I", Cond.methodLink RX0 113 yX0_piecesOf, Cond.instanceMethod yX0_piecesOf, Cond.selects RX0 yX0_piecesOf yX0_piecesOf, Cond.code yX0_piecesOf cX0_piecesOf 2 (some .int), Cond.methodLink RX2 221 yX0_longestCut, Cond.instanceMethod yX0_longestCut, Cond.selects RX0 yX0_longestCut yX0_longestCut, Cond.code yX0_longestCut cX0_longestCut 1 (some .int), Cond.fieldLink RX0 15 "BoltTailors$Game" "settings" "[I", Cond.methodLink RX0 75 Lib.Math.min.name, Cond.static Lib.Math.min.name, Cond.initialized "java/lang/Math", Cond.code Lib.Math.min.name Lib.Math.min.code 2 (some .int), Cond.methodLink RX0 72 yX0_remaining, Cond.instanceMethod yX0_remaining, Cond.selects RX0 yX0_remaining yX0_remaining, Cond.code yX0_remaining cX0_remaining 1 (some .int), Cond.fieldLink RX0 45 "BoltTailors$Game" "end" "I", Cond.fieldLink RX0 42 "BoltTailors$Game" "first" "I", Cond.methodLink RX2 47 yX2_codeOf, Cond.static yX2_codeOf, Cond.code yX2_codeOf cX2_codeOf 2 (some .int)]
def wsX2_cutBy_r4 : List Cond := [Cond.methodLink RX2 183 yX0_worthOfCut, Cond.instanceMethod yX0_worthOfCut, Cond.selects RX0 yX0_worthOfCut yX0_worthOfCut, Cond.code yX0_worthOfCut cX0_worthOfCut 4 (some .int), Cond.static yX2_sizeOf, Cond.code yX2_sizeOf cX2_sizeOf 1 (some .int), Cond.methodLink RX2 215 yX2_isFromLeft, Cond.static yX2_isFromLeft, Cond.code yX2_isFromLeft cX2_isFromLeft 1 (some .boolean), Cond.static yX2_pieceStart, Cond.code yX2_pieceStart cX2_pieceStart 3 (some .int), Cond.methodLink RX2 218 yX2_sizeOf, Cond.methodLink RX0 89 yX0_onTurn, Cond.methodLink RX0 92 yX0_endOfCoat, Cond.static yX2_traitsOf, Cond.code yX2_traitsOf cX2_traitsOf 5 (some .int), Cond.methodLink RX2 72 yX2_at, Cond.methodLink RX2 280 yX2_isFold, Cond.static yX2_isFold, Cond.code yX2_isFold cX2_isFold 4 (some .boolean), Cond.static yX2_worthOf, Cond.code yX2_worthOf cX2_worthOf 5 (some .int), Cond.methodLink RX2 228 yX2_goThrough, Cond.static yX2_goThrough]
def wsX2_cutBy_r5 : List Cond := [Cond.code yX2_goThrough cX2_goThrough 11 (some .int), Cond.fieldLink RX2 249 "BoltTailors$Leads" "colours" "[I", Cond.fieldLink RX2 240 "BoltTailors$Leads" "settings" "[I", Cond.methodLink RX2 245 yX2_pieceStart, Cond.methodLink RX2 250 yX2_traitsOf, Cond.methodLink RX2 254 yX2_worthOf, Cond.methodLink RX2 258 yX2_restStart, Cond.static yX2_restStart, Cond.code yX2_restStart cX2_restStart 2 (some .int), Cond.methodLink RX2 261 yX2_restEnd, Cond.static yX2_restEnd, Cond.code yX2_restEnd cX2_restEnd 2 (some .int), Cond.methodLink RX2 268 yX2_goInto, Cond.static yX2_goInto, Cond.code yX2_goInto cX2_goInto 9 (some .int), Cond.methodLink RX2 272 Lib.Math.min.name, Cond.methodLink RX2 277 Lib.Math.max.name, Cond.static Lib.Math.max.name, Cond.code Lib.Math.max.name Lib.Math.max.code 2 (some .int), Cond.methodLink RX2 232 yX1_told, Cond.instanceMethod yX1_told, Cond.selects RX1 yX1_told yX1_told, Cond.code yX1_told cX1_told 5 (some .int), Cond.methodLink RX1 51 yX1_place]
def wsX2_cutBy_r6 : List Cond := [Cond.static yX1_place, Cond.code yX1_place cX1_place 4 (some .int), Cond.methodLink RX2 264 yX1_keep, Cond.instanceMethod yX1_keep, Cond.selects RX1 yX1_keep yX1_keep, Cond.code yX1_keep cX1_keep 6 none, Cond.static yX2_put, Cond.code yX2_put cX2_put 3 none, Cond.methodLink RX2 44 yX2_record, Cond.instanceMethod yX2_record, Cond.selects RX2 yX2_record yX2_record, Cond.code yX2_record cX2_record 2 none, Cond.fieldLink RX2 177 "BoltTailors" "states" "I", Cond.fieldLink RX2 22 "BoltTailors" "past" "[LBoltTailors$Game;", Cond.methodLink RX2 212 yX2_dropOldest, Cond.instanceMethod yX2_dropOldest, Cond.selects RX2 yX2_dropOldest yX2_dropOldest, Cond.code yX2_dropOldest cX2_dropOldest 3 none, Cond.methodLink RX2 204 yX2_pastAt, Cond.instanceMethod yX2_pastAt, Cond.selects RX2 yX2_pastAt yX2_pastAt, Cond.code yX2_pastAt cX2_pastAt 2 (some (.object "BoltTailors$Game")), Cond.methodLink RX2 200 yX0_copyFrom, Cond.instanceMethod yX0_copyFrom]
def wsX2_cutBy_r7 : List Cond := [Cond.selects RX0 yX0_copyFrom yX0_copyFrom, Cond.code yX0_copyFrom cX0_copyFrom 2 none, Cond.methodLink RX0 66 arraycopyName, Cond.fieldLink RX0 24 "BoltTailors$Game" "pieceWorth" "[I", Cond.fieldLink RX0 27 "BoltTailors$Game" "pieceTraits" "[I", Cond.fieldLink RX0 38 "BoltTailors$Game" "stripes" "I", Cond.methodLink RX2 51 yX0_sew, Cond.instanceMethod yX0_sew, Cond.selects RX0 yX0_sew yX0_sew, Cond.code yX0_sew cX0_sew 6 (some .int)]
def wsX2_cutBy : List Cond := .code yX2_cutBy cX2_cutBy 3 (some .int) :: ((wsX2_cutBy_r1 ++ (wsX2_cutBy_r2 ++ (wsX2_cutBy_r3 ++ (wsX2_cutBy_r4 ++ (wsX2_cutBy_r5 ++ (wsX2_cutBy_r6 ++ wsX2_cutBy_r7)))))) ++ wsX20 ++ wsX00 ++ wsX10)
def wsX2_best_r1 : List Cond := [Cond.methodLink RX2 54 yX2_cutBy, Cond.instanceMethod yX2_cutBy, Cond.selects RX2 yX2_cutBy yX2_cutBy, Cond.initialized RX2, Cond.code yX2_cutBy cX2_cutBy 3 (some .int), Cond.fieldLink RX2 10 "BoltTailors" "now" "LBoltTailors$Game;", Cond.methodLink RX2 197 yX2_choice, Cond.instanceMethod yX2_choice, Cond.selects RX2 yX2_choice yX2_choice, Cond.code yX2_choice cX2_choice 12 (some .int), Cond.fieldLink RX2 37 "BoltTailors" "leadsByCuts" "LBoltTailors$Leads;", Cond.constant RX2 227 (-1000000), Cond.fieldLink RX2 156 "BoltTailors$Game" "first" "I", Cond.fieldLink RX2 159 "BoltTailors$Game" "end" "I", Cond.methodLink RX2 224 yX1_fitTo, Cond.instanceMethod yX1_fitTo, Cond.selects RX1 yX1_fitTo yX1_fitTo, Cond.initialized RX1, Cond.code yX1_fitTo cX1_fitTo 2 none, Cond.fieldLink RX1 25 "BoltTailors$Game" "colours" "[I", Cond.fieldLink RX1 9 "BoltTailors$Leads" "colours" "[I", Cond.methodLink RX1 28 arraycopyName, Cond.native arraycopyName, Cond.static arraycopyName]
def wsX2_best_r2 : List Cond := [Cond.initialized "java/lang/System", Cond.fieldLink RX1 34 "BoltTailors$Game" "settings" "[I", Cond.fieldLink RX1 15 "BoltTailors$Leads" "settings" "[I", Cond.fieldLink RX1 35 "BoltTailors$Game" "stripes" "I", Cond.fieldLink RX1 39 "BoltTailors$Leads" "stripes" "I", Cond.fieldLink RX1 18 "BoltTailors$Leads" "kept" "[I", Cond.constant RX1 40 (-1000000), Cond.methodLink RX1 21 yX1_isFor, Cond.instanceMethod yX1_isFor, Cond.selects RX1 yX1_isFor yX1_isFor, Cond.code yX1_isFor cX1_isFor 4 (some .boolean), Cond.static yX2_at, Cond.code yX2_at cX2_at 2 (some .int), Cond.methodLink RX1 41 yJ7_fill_53178, Cond.static yJ7_fill_53178, Cond.initialized RJ7, Cond.code yJ7_fill_53178 cJ7_fill_53178 4 none, Cond.methodLink RX2 162 yX0_onTurn, Cond.instanceMethod yX0_onTurn, Cond.selects RX0 yX0_onTurn yX0_onTurn, Cond.initialized RX0, Cond.code yX0_onTurn cX0_onTurn 1 (some .int), Cond.fieldLink RX0 48 "BoltTailors$Game" "cuts" "I", Cond.methodLink RX2 136 yX0_endOfCoat]
def wsX2_best_r3 : List Cond := [Cond.instanceMethod yX0_endOfCoat, Cond.selects RX0 yX0_endOfCoat yX0_endOfCoat, Cond.code yX0_endOfCoat cX0_endOfCoat 4 (some .int), Cond.fieldLink RX0 9 "BoltTailors$Game" "colours" "[I", Cond.fieldLink RX0 18 "BoltTailors$Game" "pieceFirst" "[I", Cond.fieldLink RX0 21 "BoltTailors$Game" "pieceSize" "[I", Cond.methodLink RX0 113 yX0_piecesOf, Cond.instanceMethod yX0_piecesOf, Cond.selects RX0 yX0_piecesOf yX0_piecesOf, Cond.code yX0_piecesOf cX0_piecesOf 2 (some .int), Cond.methodLink RX2 221 yX0_longestCut, Cond.instanceMethod yX0_longestCut, Cond.selects RX0 yX0_longestCut yX0_longestCut, Cond.code yX0_longestCut cX0_longestCut 1 (some .int), Cond.fieldLink RX0 15 "BoltTailors$Game" "settings" "[I", Cond.methodLink RX0 75 Lib.Math.min.name, Cond.static Lib.Math.min.name, Cond.initialized "java/lang/Math", Cond.code Lib.Math.min.name Lib.Math.min.code 2 (some .int), Cond.methodLink RX0 72 yX0_remaining, Cond.instanceMethod yX0_remaining, Cond.selects RX0 yX0_remaining yX0_remaining, Cond.code yX0_remaining cX0_remaining 1 (some .int), Cond.fieldLink RX0 45 "BoltTailors$Game" "end" "I"]
def wsX2_best_r4 : List Cond := [Cond.fieldLink RX0 42 "BoltTailors$Game" "first" "I", Cond.methodLink RX2 47 yX2_codeOf, Cond.static yX2_codeOf, Cond.code yX2_codeOf cX2_codeOf 2 (some .int), Cond.methodLink RX2 183 yX0_worthOfCut, Cond.instanceMethod yX0_worthOfCut, Cond.selects RX0 yX0_worthOfCut yX0_worthOfCut, Cond.code yX0_worthOfCut cX0_worthOfCut 4 (some .int), Cond.static yX2_sizeOf, Cond.code yX2_sizeOf cX2_sizeOf 1 (some .int), Cond.methodLink RX2 215 yX2_isFromLeft, Cond.static yX2_isFromLeft, Cond.code yX2_isFromLeft cX2_isFromLeft 1 (some .boolean), Cond.static yX2_pieceStart, Cond.code yX2_pieceStart cX2_pieceStart 3 (some .int), Cond.methodLink RX2 218 yX2_sizeOf, Cond.methodLink RX0 89 yX0_onTurn, Cond.methodLink RX0 92 yX0_endOfCoat, Cond.static yX2_traitsOf, Cond.code yX2_traitsOf cX2_traitsOf 5 (some .int), Cond.methodLink RX2 72 yX2_at, Cond.methodLink RX2 280 yX2_isFold, Cond.static yX2_isFold, Cond.code yX2_isFold cX2_isFold 4 (some .boolean)]
def wsX2_best_r5 : List Cond := [Cond.static yX2_worthOf, Cond.code yX2_worthOf cX2_worthOf 5 (some .int), Cond.methodLink RX2 228 yX2_goThrough, Cond.static yX2_goThrough, Cond.code yX2_goThrough cX2_goThrough 11 (some .int), Cond.fieldLink RX2 249 "BoltTailors$Leads" "colours" "[I", Cond.fieldLink RX2 240 "BoltTailors$Leads" "settings" "[I", Cond.methodLink RX2 245 yX2_pieceStart, Cond.methodLink RX2 250 yX2_traitsOf, Cond.methodLink RX2 254 yX2_worthOf, Cond.methodLink RX2 258 yX2_restStart, Cond.static yX2_restStart, Cond.code yX2_restStart cX2_restStart 2 (some .int), Cond.methodLink RX2 261 yX2_restEnd, Cond.static yX2_restEnd, Cond.code yX2_restEnd cX2_restEnd 2 (some .int), Cond.methodLink RX2 268 yX2_goInto, Cond.static yX2_goInto, Cond.code yX2_goInto cX2_goInto 9 (some .int), Cond.methodLink RX2 272 Lib.Math.min.name, Cond.methodLink RX2 277 Lib.Math.max.name, Cond.static Lib.Math.max.name, Cond.code Lib.Math.max.name Lib.Math.max.code 2 (some .int), Cond.methodLink RX2 232 yX1_told]
def wsX2_best_r6 : List Cond := [Cond.instanceMethod yX1_told, Cond.selects RX1 yX1_told yX1_told, Cond.code yX1_told cX1_told 5 (some .int), Cond.methodLink RX1 51 yX1_place, Cond.static yX1_place, Cond.code yX1_place cX1_place 4 (some .int), Cond.methodLink RX2 264 yX1_keep, Cond.instanceMethod yX1_keep, Cond.selects RX1 yX1_keep yX1_keep, Cond.code yX1_keep cX1_keep 6 none, Cond.static yX2_put, Cond.code yX2_put cX2_put 3 none, Cond.methodLink RX2 44 yX2_record, Cond.instanceMethod yX2_record, Cond.selects RX2 yX2_record yX2_record, Cond.code yX2_record cX2_record 2 none, Cond.fieldLink RX2 177 "BoltTailors" "states" "I", Cond.fieldLink RX2 22 "BoltTailors" "past" "[LBoltTailors$Game;", Cond.methodLink RX2 212 yX2_dropOldest, Cond.instanceMethod yX2_dropOldest, Cond.selects RX2 yX2_dropOldest yX2_dropOldest, Cond.code yX2_dropOldest cX2_dropOldest 3 none, Cond.methodLink RX2 204 yX2_pastAt, Cond.instanceMethod yX2_pastAt]
def wsX2_best_r7 : List Cond := [Cond.selects RX2 yX2_pastAt yX2_pastAt, Cond.code yX2_pastAt cX2_pastAt 2 (some (.object "BoltTailors$Game")), Cond.methodLink RX2 200 yX0_copyFrom, Cond.instanceMethod yX0_copyFrom, Cond.selects RX0 yX0_copyFrom yX0_copyFrom, Cond.code yX0_copyFrom cX0_copyFrom 2 none, Cond.methodLink RX0 66 arraycopyName, Cond.fieldLink RX0 24 "BoltTailors$Game" "pieceWorth" "[I", Cond.fieldLink RX0 27 "BoltTailors$Game" "pieceTraits" "[I", Cond.fieldLink RX0 38 "BoltTailors$Game" "stripes" "I", Cond.methodLink RX2 51 yX0_sew, Cond.instanceMethod yX0_sew, Cond.selects RX0 yX0_sew yX0_sew, Cond.code yX0_sew cX0_sew 6 (some .int)]
def wsX2_best : List Cond := .code yX2_best cX2_best 1 (some .int) :: ((wsX2_best_r1 ++ (wsX2_best_r2 ++ (wsX2_best_r3 ++ (wsX2_best_r4 ++ (wsX2_best_r5 ++ (wsX2_best_r6 ++ wsX2_best_r7)))))) ++ wsX20 ++ wsX00 ++ wsX10)
def wsX2_greedy_r1 : List Cond := [Cond.methodLink RX2 54 yX2_cutBy, Cond.instanceMethod yX2_cutBy, Cond.selects RX2 yX2_cutBy yX2_cutBy, Cond.initialized RX2, Cond.code yX2_cutBy cX2_cutBy 3 (some .int), Cond.fieldLink RX2 10 "BoltTailors" "now" "LBoltTailors$Game;", Cond.methodLink RX2 197 yX2_choice, Cond.instanceMethod yX2_choice, Cond.selects RX2 yX2_choice yX2_choice, Cond.code yX2_choice cX2_choice 12 (some .int), Cond.fieldLink RX2 37 "BoltTailors" "leadsByCuts" "LBoltTailors$Leads;", Cond.constant RX2 227 (-1000000), Cond.fieldLink RX2 156 "BoltTailors$Game" "first" "I", Cond.fieldLink RX2 159 "BoltTailors$Game" "end" "I", Cond.methodLink RX2 224 yX1_fitTo, Cond.instanceMethod yX1_fitTo, Cond.selects RX1 yX1_fitTo yX1_fitTo, Cond.initialized RX1, Cond.code yX1_fitTo cX1_fitTo 2 none, Cond.fieldLink RX1 25 "BoltTailors$Game" "colours" "[I", Cond.fieldLink RX1 9 "BoltTailors$Leads" "colours" "[I", Cond.methodLink RX1 28 arraycopyName, Cond.native arraycopyName, Cond.static arraycopyName]
def wsX2_greedy_r2 : List Cond := [Cond.initialized "java/lang/System", Cond.fieldLink RX1 34 "BoltTailors$Game" "settings" "[I", Cond.fieldLink RX1 15 "BoltTailors$Leads" "settings" "[I", Cond.fieldLink RX1 35 "BoltTailors$Game" "stripes" "I", Cond.fieldLink RX1 39 "BoltTailors$Leads" "stripes" "I", Cond.fieldLink RX1 18 "BoltTailors$Leads" "kept" "[I", Cond.constant RX1 40 (-1000000), Cond.methodLink RX1 21 yX1_isFor, Cond.instanceMethod yX1_isFor, Cond.selects RX1 yX1_isFor yX1_isFor, Cond.code yX1_isFor cX1_isFor 4 (some .boolean), Cond.static yX2_at, Cond.code yX2_at cX2_at 2 (some .int), Cond.methodLink RX1 41 yJ7_fill_53178, Cond.static yJ7_fill_53178, Cond.initialized RJ7, Cond.code yJ7_fill_53178 cJ7_fill_53178 4 none, Cond.methodLink RX2 162 yX0_onTurn, Cond.instanceMethod yX0_onTurn, Cond.selects RX0 yX0_onTurn yX0_onTurn, Cond.initialized RX0, Cond.code yX0_onTurn cX0_onTurn 1 (some .int), Cond.fieldLink RX0 48 "BoltTailors$Game" "cuts" "I", Cond.methodLink RX2 136 yX0_endOfCoat]
def wsX2_greedy_r3 : List Cond := [Cond.instanceMethod yX0_endOfCoat, Cond.selects RX0 yX0_endOfCoat yX0_endOfCoat, Cond.code yX0_endOfCoat cX0_endOfCoat 4 (some .int), Cond.fieldLink RX0 9 "BoltTailors$Game" "colours" "[I", Cond.fieldLink RX0 18 "BoltTailors$Game" "pieceFirst" "[I", Cond.fieldLink RX0 21 "BoltTailors$Game" "pieceSize" "[I", Cond.methodLink RX0 113 yX0_piecesOf, Cond.instanceMethod yX0_piecesOf, Cond.selects RX0 yX0_piecesOf yX0_piecesOf, Cond.code yX0_piecesOf cX0_piecesOf 2 (some .int), Cond.methodLink RX2 221 yX0_longestCut, Cond.instanceMethod yX0_longestCut, Cond.selects RX0 yX0_longestCut yX0_longestCut, Cond.code yX0_longestCut cX0_longestCut 1 (some .int), Cond.fieldLink RX0 15 "BoltTailors$Game" "settings" "[I", Cond.methodLink RX0 75 Lib.Math.min.name, Cond.static Lib.Math.min.name, Cond.initialized "java/lang/Math", Cond.code Lib.Math.min.name Lib.Math.min.code 2 (some .int), Cond.methodLink RX0 72 yX0_remaining, Cond.instanceMethod yX0_remaining, Cond.selects RX0 yX0_remaining yX0_remaining, Cond.code yX0_remaining cX0_remaining 1 (some .int), Cond.fieldLink RX0 45 "BoltTailors$Game" "end" "I"]
def wsX2_greedy_r4 : List Cond := [Cond.fieldLink RX0 42 "BoltTailors$Game" "first" "I", Cond.methodLink RX2 47 yX2_codeOf, Cond.static yX2_codeOf, Cond.code yX2_codeOf cX2_codeOf 2 (some .int), Cond.methodLink RX2 183 yX0_worthOfCut, Cond.instanceMethod yX0_worthOfCut, Cond.selects RX0 yX0_worthOfCut yX0_worthOfCut, Cond.code yX0_worthOfCut cX0_worthOfCut 4 (some .int), Cond.static yX2_sizeOf, Cond.code yX2_sizeOf cX2_sizeOf 1 (some .int), Cond.methodLink RX2 215 yX2_isFromLeft, Cond.static yX2_isFromLeft, Cond.code yX2_isFromLeft cX2_isFromLeft 1 (some .boolean), Cond.static yX2_pieceStart, Cond.code yX2_pieceStart cX2_pieceStart 3 (some .int), Cond.methodLink RX2 218 yX2_sizeOf, Cond.methodLink RX0 89 yX0_onTurn, Cond.methodLink RX0 92 yX0_endOfCoat, Cond.static yX2_traitsOf, Cond.code yX2_traitsOf cX2_traitsOf 5 (some .int), Cond.methodLink RX2 72 yX2_at, Cond.methodLink RX2 280 yX2_isFold, Cond.static yX2_isFold, Cond.code yX2_isFold cX2_isFold 4 (some .boolean)]
def wsX2_greedy_r5 : List Cond := [Cond.static yX2_worthOf, Cond.code yX2_worthOf cX2_worthOf 5 (some .int), Cond.methodLink RX2 228 yX2_goThrough, Cond.static yX2_goThrough, Cond.code yX2_goThrough cX2_goThrough 11 (some .int), Cond.fieldLink RX2 249 "BoltTailors$Leads" "colours" "[I", Cond.fieldLink RX2 240 "BoltTailors$Leads" "settings" "[I", Cond.methodLink RX2 245 yX2_pieceStart, Cond.methodLink RX2 250 yX2_traitsOf, Cond.methodLink RX2 254 yX2_worthOf, Cond.methodLink RX2 258 yX2_restStart, Cond.static yX2_restStart, Cond.code yX2_restStart cX2_restStart 2 (some .int), Cond.methodLink RX2 261 yX2_restEnd, Cond.static yX2_restEnd, Cond.code yX2_restEnd cX2_restEnd 2 (some .int), Cond.methodLink RX2 268 yX2_goInto, Cond.static yX2_goInto, Cond.code yX2_goInto cX2_goInto 9 (some .int), Cond.methodLink RX2 272 Lib.Math.min.name, Cond.methodLink RX2 277 Lib.Math.max.name, Cond.static Lib.Math.max.name, Cond.code Lib.Math.max.name Lib.Math.max.code 2 (some .int), Cond.methodLink RX2 232 yX1_told]
def wsX2_greedy_r6 : List Cond := [Cond.instanceMethod yX1_told, Cond.selects RX1 yX1_told yX1_told, Cond.code yX1_told cX1_told 5 (some .int), Cond.methodLink RX1 51 yX1_place, Cond.static yX1_place, Cond.code yX1_place cX1_place 4 (some .int), Cond.methodLink RX2 264 yX1_keep, Cond.instanceMethod yX1_keep, Cond.selects RX1 yX1_keep yX1_keep, Cond.code yX1_keep cX1_keep 6 none, Cond.static yX2_put, Cond.code yX2_put cX2_put 3 none, Cond.methodLink RX2 44 yX2_record, Cond.instanceMethod yX2_record, Cond.selects RX2 yX2_record yX2_record, Cond.code yX2_record cX2_record 2 none, Cond.fieldLink RX2 177 "BoltTailors" "states" "I", Cond.fieldLink RX2 22 "BoltTailors" "past" "[LBoltTailors$Game;", Cond.methodLink RX2 212 yX2_dropOldest, Cond.instanceMethod yX2_dropOldest, Cond.selects RX2 yX2_dropOldest yX2_dropOldest, Cond.code yX2_dropOldest cX2_dropOldest 3 none, Cond.methodLink RX2 204 yX2_pastAt, Cond.instanceMethod yX2_pastAt]
def wsX2_greedy_r7 : List Cond := [Cond.selects RX2 yX2_pastAt yX2_pastAt, Cond.code yX2_pastAt cX2_pastAt 2 (some (.object "BoltTailors$Game")), Cond.methodLink RX2 200 yX0_copyFrom, Cond.instanceMethod yX0_copyFrom, Cond.selects RX0 yX0_copyFrom yX0_copyFrom, Cond.code yX0_copyFrom cX0_copyFrom 2 none, Cond.methodLink RX0 66 arraycopyName, Cond.fieldLink RX0 24 "BoltTailors$Game" "pieceWorth" "[I", Cond.fieldLink RX0 27 "BoltTailors$Game" "pieceTraits" "[I", Cond.fieldLink RX0 38 "BoltTailors$Game" "stripes" "I", Cond.methodLink RX2 51 yX0_sew, Cond.instanceMethod yX0_sew, Cond.selects RX0 yX0_sew yX0_sew, Cond.code yX0_sew cX0_sew 6 (some .int)]
def wsX2_greedy : List Cond := .code yX2_greedy cX2_greedy 1 (some .int) :: ((wsX2_greedy_r1 ++ (wsX2_greedy_r2 ++ (wsX2_greedy_r3 ++ (wsX2_greedy_r4 ++ (wsX2_greedy_r5 ++ (wsX2_greedy_r6 ++ wsX2_greedy_r7)))))) ++ wsX20 ++ wsX00 ++ wsX10)
def wsX2_again_r1 : List Cond := [Cond.fieldLink RX2 10 "BoltTailors" "now" "LBoltTailors$Game;", Cond.fieldLink RX2 60 "BoltTailors$Game" "stripes" "I", Cond.methodLink RX2 44 yX2_record, Cond.instanceMethod yX2_record, Cond.selects RX2 yX2_record yX2_record, Cond.initialized RX2, Cond.code yX2_record cX2_record 2 none, Cond.fieldLink RX2 177 "BoltTailors" "states" "I", Cond.fieldLink RX2 22 "BoltTailors" "past" "[LBoltTailors$Game;", Cond.methodLink RX2 212 yX2_dropOldest, Cond.instanceMethod yX2_dropOldest, Cond.selects RX2 yX2_dropOldest yX2_dropOldest, Cond.code yX2_dropOldest cX2_dropOldest 3 none, Cond.methodLink RX2 204 yX2_pastAt, Cond.instanceMethod yX2_pastAt, Cond.selects RX2 yX2_pastAt yX2_pastAt, Cond.code yX2_pastAt cX2_pastAt 2 (some (.object "BoltTailors$Game")), Cond.methodLink RX2 200 yX0_copyFrom, Cond.instanceMethod yX0_copyFrom, Cond.selects RX0 yX0_copyFrom yX0_copyFrom, Cond.initialized RX0, Cond.code yX0_copyFrom cX0_copyFrom 2 none, Cond.fieldLink RX0 9 "BoltTailors$Game" "colours" "[I", Cond.methodLink RX0 66 arraycopyName]
def wsX2_again_r2 : List Cond := [Cond.native arraycopyName, Cond.static arraycopyName, Cond.initialized "java/lang/System", Cond.fieldLink RX0 15 "BoltTailors$Game" "settings" "[I", Cond.fieldLink RX0 18 "BoltTailors$Game" "pieceFirst" "[I", Cond.fieldLink RX0 21 "BoltTailors$Game" "pieceSize" "[I", Cond.fieldLink RX0 24 "BoltTailors$Game" "pieceWorth" "[I", Cond.fieldLink RX0 27 "BoltTailors$Game" "pieceTraits" "[I", Cond.fieldLink RX0 38 "BoltTailors$Game" "stripes" "I", Cond.fieldLink RX0 42 "BoltTailors$Game" "first" "I", Cond.fieldLink RX0 45 "BoltTailors$Game" "end" "I", Cond.fieldLink RX0 48 "BoltTailors$Game" "cuts" "I", Cond.methodLink RX2 57 yX0_begin, Cond.instanceMethod yX0_begin, Cond.selects RX0 yX0_begin yX0_begin, Cond.code yX0_begin cX0_begin 1 none]
def wsX2_again : List Cond := .code yX2_again cX2_again 1 (some .int) :: ((wsX2_again_r1 ++ wsX2_again_r2) ++ wsX20 ++ wsX00)
def wsX2_mirror_r1 : List Cond := [Cond.fieldLink RX2 10 "BoltTailors" "now" "LBoltTailors$Game;", Cond.methodLink RX2 44 yX2_record, Cond.instanceMethod yX2_record, Cond.selects RX2 yX2_record yX2_record, Cond.initialized RX2, Cond.code yX2_record cX2_record 2 none, Cond.fieldLink RX2 177 "BoltTailors" "states" "I", Cond.fieldLink RX2 22 "BoltTailors" "past" "[LBoltTailors$Game;", Cond.methodLink RX2 212 yX2_dropOldest, Cond.instanceMethod yX2_dropOldest, Cond.selects RX2 yX2_dropOldest yX2_dropOldest, Cond.code yX2_dropOldest cX2_dropOldest 3 none, Cond.methodLink RX2 204 yX2_pastAt, Cond.instanceMethod yX2_pastAt, Cond.selects RX2 yX2_pastAt yX2_pastAt, Cond.code yX2_pastAt cX2_pastAt 2 (some (.object "BoltTailors$Game")), Cond.methodLink RX2 200 yX0_copyFrom, Cond.instanceMethod yX0_copyFrom, Cond.selects RX0 yX0_copyFrom yX0_copyFrom, Cond.initialized RX0, Cond.code yX0_copyFrom cX0_copyFrom 2 none, Cond.fieldLink RX0 9 "BoltTailors$Game" "colours" "[I", Cond.methodLink RX0 66 arraycopyName, Cond.native arraycopyName]
def wsX2_mirror_r2 : List Cond := [Cond.static arraycopyName, Cond.initialized "java/lang/System", Cond.fieldLink RX0 15 "BoltTailors$Game" "settings" "[I", Cond.fieldLink RX0 18 "BoltTailors$Game" "pieceFirst" "[I", Cond.fieldLink RX0 21 "BoltTailors$Game" "pieceSize" "[I", Cond.fieldLink RX0 24 "BoltTailors$Game" "pieceWorth" "[I", Cond.fieldLink RX0 27 "BoltTailors$Game" "pieceTraits" "[I", Cond.fieldLink RX0 38 "BoltTailors$Game" "stripes" "I", Cond.fieldLink RX0 42 "BoltTailors$Game" "first" "I", Cond.fieldLink RX0 45 "BoltTailors$Game" "end" "I", Cond.fieldLink RX0 48 "BoltTailors$Game" "cuts" "I", Cond.methodLink RX2 64 yX0_turnRound, Cond.instanceMethod yX0_turnRound, Cond.selects RX0 yX0_turnRound yX0_turnRound, Cond.code yX0_turnRound cX0_turnRound 5 (some .int), Cond.static yX2_at, Cond.code yX2_at cX2_at 2 (some .int), Cond.static yX2_put, Cond.code yX2_put cX2_put 3 none]
def wsX2_mirror : List Cond := .code yX2_mirror cX2_mirror 1 (some .int) :: ((wsX2_mirror_r1 ++ wsX2_mirror_r2) ++ wsX20 ++ wsX00)
def wsX2_set_r1 : List Cond := [Cond.fieldLink RX2 68 "BoltTailors" "LOWEST_VALUES" "[I", Cond.fieldLink RX2 76 "BoltTailors" "HIGHEST_VALUES" "[I", Cond.fieldLink RX2 10 "BoltTailors" "now" "LBoltTailors$Game;", Cond.fieldLink RX2 79 "BoltTailors$Game" "settings" "[I", Cond.methodLink RX2 72 yX2_at, Cond.static yX2_at, Cond.initialized RX2, Cond.code yX2_at cX2_at 2 (some .int), Cond.methodLink RX2 44 yX2_record, Cond.instanceMethod yX2_record, Cond.selects RX2 yX2_record yX2_record, Cond.code yX2_record cX2_record 2 none, Cond.fieldLink RX2 177 "BoltTailors" "states" "I", Cond.fieldLink RX2 22 "BoltTailors" "past" "[LBoltTailors$Game;", Cond.methodLink RX2 212 yX2_dropOldest, Cond.instanceMethod yX2_dropOldest, Cond.selects RX2 yX2_dropOldest yX2_dropOldest, Cond.code yX2_dropOldest cX2_dropOldest 3 none, Cond.methodLink RX2 204 yX2_pastAt, Cond.instanceMethod yX2_pastAt, Cond.selects RX2 yX2_pastAt yX2_pastAt, Cond.code yX2_pastAt cX2_pastAt 2 (some (.object "BoltTailors$Game")), Cond.methodLink RX2 200 yX0_copyFrom, Cond.instanceMethod yX0_copyFrom]
def wsX2_set_r2 : List Cond := [Cond.selects RX0 yX0_copyFrom yX0_copyFrom, Cond.initialized RX0, Cond.code yX0_copyFrom cX0_copyFrom 2 none, Cond.fieldLink RX0 9 "BoltTailors$Game" "colours" "[I", Cond.methodLink RX0 66 arraycopyName, Cond.native arraycopyName, Cond.static arraycopyName, Cond.initialized "java/lang/System", Cond.fieldLink RX0 15 "BoltTailors$Game" "settings" "[I", Cond.fieldLink RX0 18 "BoltTailors$Game" "pieceFirst" "[I", Cond.fieldLink RX0 21 "BoltTailors$Game" "pieceSize" "[I", Cond.fieldLink RX0 24 "BoltTailors$Game" "pieceWorth" "[I", Cond.fieldLink RX0 27 "BoltTailors$Game" "pieceTraits" "[I", Cond.fieldLink RX0 38 "BoltTailors$Game" "stripes" "I", Cond.fieldLink RX0 42 "BoltTailors$Game" "first" "I", Cond.fieldLink RX0 45 "BoltTailors$Game" "end" "I", Cond.fieldLink RX0 48 "BoltTailors$Game" "cuts" "I", Cond.methodLink RX2 82 yX2_put, Cond.static yX2_put, Cond.code yX2_put cX2_put 3 none]
def wsX2_set : List Cond := .code yX2_set cX2_set 4 (some .int) :: ((wsX2_set_r1 ++ wsX2_set_r2) ++ wsX20 ++ wsX00)
def wsX2_append : List Cond := .code yX2_append cX2_append 2 (some .int) :: ([.fieldLink RX2 86 "BoltTailors" "signs" "I", .fieldLink RX2 26 "BoltTailors" "pad" "[C"] ++ wsX20)
def wsX2_clear : List Cond := .code yX2_clear cX2_clear 2 (some .int) :: ([.fieldLink RX2 86 "BoltTailors" "signs" "I"] ++ wsX20)
def wsX2_signAt : List Cond := .code yX2_signAt cX2_signAt 2 (some .char) :: ([.fieldLink RX2 86 "BoltTailors" "signs" "I", .fieldLink RX2 26 "BoltTailors" "pad" "[C"] ++ wsX20)
def wsX2_lettersAhead : List Cond := .code yX2_lettersAhead cX2_lettersAhead 2 (some .int) :: ([.methodLink RX2 98 yX2_signAt, .instanceMethod yX2_signAt, .selects RX2 yX2_signAt yX2_signAt, .initialized RX2, .code yX2_signAt cX2_signAt 2 (some .char), .fieldLink RX2 86 "BoltTailors" "signs" "I", .fieldLink RX2 26 "BoltTailors" "pad" "[C"] ++ wsX20)
def wsX2_digitAt : List Cond := .code yX2_digitAt cX2_digitAt 3 (some .int) :: ([.methodLink RX2 98 yX2_signAt, .instanceMethod yX2_signAt, .selects RX2 yX2_signAt yX2_signAt, .initialized RX2, .code yX2_signAt cX2_signAt 2 (some .char), .fieldLink RX2 86 "BoltTailors" "signs" "I", .fieldLink RX2 26 "BoltTailors" "pad" "[C"] ++ wsX20)
def wsX2_digitsOfNumber : List Cond := .code yX2_digitsOfNumber cX2_digitsOfNumber 4 (some .int) :: ([.methodLink RX2 290 yX2_digitAt, .instanceMethod yX2_digitAt, .selects RX2 yX2_digitAt yX2_digitAt, .initialized RX2, .code yX2_digitAt cX2_digitAt 3 (some .int), .methodLink RX2 98 yX2_signAt, .instanceMethod yX2_signAt, .selects RX2 yX2_signAt yX2_signAt, .code yX2_signAt cX2_signAt 2 (some .char), .fieldLink RX2 86 "BoltTailors" "signs" "I", .fieldLink RX2 26 "BoltTailors" "pad" "[C"] ++ wsX20)
def wsX2_faultBehindStar : List Cond := .code yX2_faultBehindStar cX2_faultBehindStar 5 (some .int) :: ([.fieldLink RX2 86 "BoltTailors" "signs" "I", .methodLink RX2 287 yX2_digitsOfNumber, .instanceMethod yX2_digitsOfNumber, .selects RX2 yX2_digitsOfNumber yX2_digitsOfNumber, .initialized RX2, .code yX2_digitsOfNumber cX2_digitsOfNumber 4 (some .int), .methodLink RX2 290 yX2_digitAt, .instanceMethod yX2_digitAt, .selects RX2 yX2_digitAt yX2_digitAt, .code yX2_digitAt cX2_digitAt 3 (some .int), .methodLink RX2 98 yX2_signAt, .instanceMethod yX2_signAt, .selects RX2 yX2_signAt yX2_signAt, .code yX2_signAt cX2_signAt 2 (some .char), .fieldLink RX2 26 "BoltTailors" "pad" "[C"] ++ wsX20)
def wsX2_faultAsBolt : List Cond := .code yX2_faultAsBolt cX2_faultAsBolt 2 (some .int) :: ([.fieldLink RX2 86 "BoltTailors" "signs" "I", .methodLink RX2 95 yX2_lettersAhead, .instanceMethod yX2_lettersAhead, .selects RX2 yX2_lettersAhead yX2_lettersAhead, .initialized RX2, .code yX2_lettersAhead cX2_lettersAhead 2 (some .int), .methodLink RX2 98 yX2_signAt, .instanceMethod yX2_signAt, .selects RX2 yX2_signAt yX2_signAt, .code yX2_signAt cX2_signAt 2 (some .char), .fieldLink RX2 26 "BoltTailors" "pad" "[C", .methodLink RX2 284 yX2_faultBehindStar, .instanceMethod yX2_faultBehindStar, .selects RX2 yX2_faultBehindStar yX2_faultBehindStar, .code yX2_faultBehindStar cX2_faultBehindStar 5 (some .int), .methodLink RX2 287 yX2_digitsOfNumber, .instanceMethod yX2_digitsOfNumber, .selects RX2 yX2_digitsOfNumber yX2_digitsOfNumber, .code yX2_digitsOfNumber cX2_digitsOfNumber 4 (some .int), .methodLink RX2 290 yX2_digitAt, .instanceMethod yX2_digitAt, .selects RX2 yX2_digitAt yX2_digitAt, .code yX2_digitAt cX2_digitAt 3 (some .int)] ++ wsX20)
def wsX2_isSide : List Cond := .code yX2_isSide cX2_isSide 1 (some .boolean) :: ([])
def wsX2_faultAsCuts : List Cond := .code yX2_faultAsCuts cX2_faultAsCuts 4 (some .int) :: ([.fieldLink RX2 86 "BoltTailors" "signs" "I", .methodLink RX2 290 yX2_digitAt, .instanceMethod yX2_digitAt, .selects RX2 yX2_digitAt yX2_digitAt, .initialized RX2, .code yX2_digitAt cX2_digitAt 3 (some .int), .methodLink RX2 98 yX2_signAt, .instanceMethod yX2_signAt, .selects RX2 yX2_signAt yX2_signAt, .code yX2_signAt cX2_signAt 2 (some .char), .fieldLink RX2 26 "BoltTailors" "pad" "[C", .methodLink RX2 113 yX2_isSide, .static yX2_isSide, .code yX2_isSide cX2_isSide 1 (some .boolean)] ++ wsX20)
def wsX2_fault_r1 : List Cond := [Cond.methodLink RX2 89 yX2_faultAsBolt, Cond.instanceMethod yX2_faultAsBolt, Cond.selects RX2 yX2_faultAsBolt yX2_faultAsBolt, Cond.initialized RX2, Cond.code yX2_faultAsBolt cX2_faultAsBolt 2 (some .int), Cond.fieldLink RX2 86 "BoltTailors" "signs" "I", Cond.methodLink RX2 95 yX2_lettersAhead, Cond.instanceMethod yX2_lettersAhead, Cond.selects RX2 yX2_lettersAhead yX2_lettersAhead, Cond.code yX2_lettersAhead cX2_lettersAhead 2 (some .int), Cond.methodLink RX2 98 yX2_signAt, Cond.instanceMethod yX2_signAt, Cond.selects RX2 yX2_signAt yX2_signAt, Cond.code yX2_signAt cX2_signAt 2 (some .char), Cond.fieldLink RX2 26 "BoltTailors" "pad" "[C", Cond.methodLink RX2 284 yX2_faultBehindStar, Cond.instanceMethod yX2_faultBehindStar, Cond.selects RX2 yX2_faultBehindStar yX2_faultBehindStar, Cond.code yX2_faultBehindStar cX2_faultBehindStar 5 (some .int), Cond.methodLink RX2 287 yX2_digitsOfNumber, Cond.instanceMethod yX2_digitsOfNumber, Cond.selects RX2 yX2_digitsOfNumber yX2_digitsOfNumber, Cond.code yX2_digitsOfNumber cX2_digitsOfNumber 4 (some .int), Cond.methodLink RX2 290 yX2_digitAt]
def wsX2_fault_r2 : List Cond := [Cond.instanceMethod yX2_digitAt, Cond.selects RX2 yX2_digitAt yX2_digitAt, Cond.code yX2_digitAt cX2_digitAt 3 (some .int), Cond.methodLink RX2 92 yX2_faultAsCuts, Cond.instanceMethod yX2_faultAsCuts, Cond.selects RX2 yX2_faultAsCuts yX2_faultAsCuts, Cond.code yX2_faultAsCuts cX2_faultAsCuts 4 (some .int), Cond.methodLink RX2 113 yX2_isSide, Cond.static yX2_isSide, Cond.code yX2_isSide cX2_isSide 1 (some .boolean)]
def wsX2_fault : List Cond := .code yX2_fault cX2_fault 2 (some .int) :: ((wsX2_fault_r1 ++ wsX2_fault_r2) ++ wsX20)
def wsX2_layLetters : List Cond := .code yX2_layLetters cX2_layLetters 5 none :: ([.fieldLink RX2 10 "BoltTailors" "now" "LBoltTailors$Game;", .fieldLink RX2 60 "BoltTailors$Game" "stripes" "I", .fieldLink RX2 117 "BoltTailors$Game" "colours" "[I", .methodLink RX2 98 yX2_signAt, .instanceMethod yX2_signAt, .selects RX2 yX2_signAt yX2_signAt, .initialized RX2, .code yX2_signAt cX2_signAt 2 (some .char), .fieldLink RX2 86 "BoltTailors" "signs" "I", .fieldLink RX2 26 "BoltTailors" "pad" "[C", .methodLink RX2 82 yX2_put, .static yX2_put, .code yX2_put cX2_put 3 none] ++ wsX20 ++ wsX00)
def wsX2_layPattern_r1 : List Cond := [Cond.methodLink RX2 287 yX2_digitsOfNumber, Cond.instanceMethod yX2_digitsOfNumber, Cond.selects RX2 yX2_digitsOfNumber yX2_digitsOfNumber, Cond.initialized RX2, Cond.code yX2_digitsOfNumber cX2_digitsOfNumber 4 (some .int), Cond.methodLink RX2 290 yX2_digitAt, Cond.instanceMethod yX2_digitAt, Cond.selects RX2 yX2_digitAt yX2_digitAt, Cond.code yX2_digitAt cX2_digitAt 3 (some .int), Cond.methodLink RX2 98 yX2_signAt, Cond.instanceMethod yX2_signAt, Cond.selects RX2 yX2_signAt yX2_signAt, Cond.code yX2_signAt cX2_signAt 2 (some .char), Cond.fieldLink RX2 86 "BoltTailors" "signs" "I", Cond.fieldLink RX2 26 "BoltTailors" "pad" "[C", Cond.methodLink RX2 106 yX2_layLetters, Cond.instanceMethod yX2_layLetters, Cond.selects RX2 yX2_layLetters yX2_layLetters, Cond.code yX2_layLetters cX2_layLetters 5 none, Cond.fieldLink RX2 10 "BoltTailors" "now" "LBoltTailors$Game;", Cond.fieldLink RX2 60 "BoltTailors$Game" "stripes" "I", Cond.fieldLink RX2 117 "BoltTailors$Game" "colours" "[I", Cond.methodLink RX2 82 yX2_put, Cond.static yX2_put]
def wsX2_layPattern_r2 : List Cond := [Cond.code yX2_put cX2_put 3 none]
def wsX2_layPattern : List Cond := .code yX2_layPattern cX2_layPattern 6 none :: ((wsX2_layPattern_r1 ++ wsX2_layPattern_r2) ++ wsX20 ++ wsX00)
def wsX2_load_r1 : List Cond := [Cond.fieldLink RX2 86 "BoltTailors" "signs" "I", Cond.fieldLink RX2 10 "BoltTailors" "now" "LBoltTailors$Game;", Cond.fieldLink RX2 60 "BoltTailors$Game" "stripes" "I", Cond.methodLink RX2 89 yX2_faultAsBolt, Cond.instanceMethod yX2_faultAsBolt, Cond.selects RX2 yX2_faultAsBolt yX2_faultAsBolt, Cond.initialized RX2, Cond.code yX2_faultAsBolt cX2_faultAsBolt 2 (some .int), Cond.methodLink RX2 95 yX2_lettersAhead, Cond.instanceMethod yX2_lettersAhead, Cond.selects RX2 yX2_lettersAhead yX2_lettersAhead, Cond.code yX2_lettersAhead cX2_lettersAhead 2 (some .int), Cond.methodLink RX2 98 yX2_signAt, Cond.instanceMethod yX2_signAt, Cond.selects RX2 yX2_signAt yX2_signAt, Cond.code yX2_signAt cX2_signAt 2 (some .char), Cond.fieldLink RX2 26 "BoltTailors" "pad" "[C", Cond.methodLink RX2 284 yX2_faultBehindStar, Cond.instanceMethod yX2_faultBehindStar, Cond.selects RX2 yX2_faultBehindStar yX2_faultBehindStar, Cond.code yX2_faultBehindStar cX2_faultBehindStar 5 (some .int), Cond.methodLink RX2 287 yX2_digitsOfNumber, Cond.instanceMethod yX2_digitsOfNumber, Cond.selects RX2 yX2_digitsOfNumber yX2_digitsOfNumber]
def wsX2_load_r2 : List Cond := [Cond.code yX2_digitsOfNumber cX2_digitsOfNumber 4 (some .int), Cond.methodLink RX2 290 yX2_digitAt, Cond.instanceMethod yX2_digitAt, Cond.selects RX2 yX2_digitAt yX2_digitAt, Cond.code yX2_digitAt cX2_digitAt 3 (some .int), Cond.methodLink RX2 44 yX2_record, Cond.instanceMethod yX2_record, Cond.selects RX2 yX2_record yX2_record, Cond.code yX2_record cX2_record 2 none, Cond.fieldLink RX2 177 "BoltTailors" "states" "I", Cond.fieldLink RX2 22 "BoltTailors" "past" "[LBoltTailors$Game;", Cond.methodLink RX2 212 yX2_dropOldest, Cond.instanceMethod yX2_dropOldest, Cond.selects RX2 yX2_dropOldest yX2_dropOldest, Cond.code yX2_dropOldest cX2_dropOldest 3 none, Cond.methodLink RX2 204 yX2_pastAt, Cond.instanceMethod yX2_pastAt, Cond.selects RX2 yX2_pastAt yX2_pastAt, Cond.code yX2_pastAt cX2_pastAt 2 (some (.object "BoltTailors$Game")), Cond.methodLink RX2 200 yX0_copyFrom, Cond.instanceMethod yX0_copyFrom, Cond.selects RX0 yX0_copyFrom yX0_copyFrom, Cond.initialized RX0, Cond.code yX0_copyFrom cX0_copyFrom 2 none]
def wsX2_load_r3 : List Cond := [Cond.fieldLink RX0 9 "BoltTailors$Game" "colours" "[I", Cond.methodLink RX0 66 arraycopyName, Cond.native arraycopyName, Cond.static arraycopyName, Cond.initialized "java/lang/System", Cond.fieldLink RX0 15 "BoltTailors$Game" "settings" "[I", Cond.fieldLink RX0 18 "BoltTailors$Game" "pieceFirst" "[I", Cond.fieldLink RX0 21 "BoltTailors$Game" "pieceSize" "[I", Cond.fieldLink RX0 24 "BoltTailors$Game" "pieceWorth" "[I", Cond.fieldLink RX0 27 "BoltTailors$Game" "pieceTraits" "[I", Cond.fieldLink RX0 38 "BoltTailors$Game" "stripes" "I", Cond.fieldLink RX0 42 "BoltTailors$Game" "first" "I", Cond.fieldLink RX0 45 "BoltTailors$Game" "end" "I", Cond.fieldLink RX0 48 "BoltTailors$Game" "cuts" "I", Cond.methodLink RX2 102 yX2_layPattern, Cond.instanceMethod yX2_layPattern, Cond.selects RX2 yX2_layPattern yX2_layPattern, Cond.code yX2_layPattern cX2_layPattern 6 none, Cond.methodLink RX2 106 yX2_layLetters, Cond.instanceMethod yX2_layLetters, Cond.selects RX2 yX2_layLetters yX2_layLetters, Cond.code yX2_layLetters cX2_layLetters 5 none, Cond.fieldLink RX2 117 "BoltTailors$Game" "colours" "[I", Cond.methodLink RX2 82 yX2_put]
def wsX2_load_r4 : List Cond := [Cond.static yX2_put, Cond.code yX2_put cX2_put 3 none, Cond.methodLink RX2 57 yX0_begin, Cond.instanceMethod yX0_begin, Cond.selects RX0 yX0_begin yX0_begin, Cond.code yX0_begin cX0_begin 1 none]
def wsX2_load : List Cond := .code yX2_load cX2_load 2 (some .int) :: ((wsX2_load_r1 ++ (wsX2_load_r2 ++ (wsX2_load_r3 ++ wsX2_load_r4))) ++ wsX20 ++ wsX00)
def wsX2_codeOnPad_r1 : List Cond := [Cond.fieldLink RX2 10 "BoltTailors" "now" "LBoltTailors$Game;", Cond.methodLink RX2 98 yX2_signAt, Cond.instanceMethod yX2_signAt, Cond.selects RX2 yX2_signAt yX2_signAt, Cond.initialized RX2, Cond.code yX2_signAt cX2_signAt 2 (some .char), Cond.fieldLink RX2 86 "BoltTailors" "signs" "I", Cond.fieldLink RX2 26 "BoltTailors" "pad" "[C", Cond.methodLink RX2 113 yX2_isSide, Cond.static yX2_isSide, Cond.code yX2_isSide cX2_isSide 1 (some .boolean), Cond.methodLink RX2 197 yX2_choice, Cond.instanceMethod yX2_choice, Cond.selects RX2 yX2_choice yX2_choice, Cond.code yX2_choice cX2_choice 12 (some .int), Cond.fieldLink RX2 37 "BoltTailors" "leadsByCuts" "LBoltTailors$Leads;", Cond.constant RX2 227 (-1000000), Cond.fieldLink RX2 156 "BoltTailors$Game" "first" "I", Cond.fieldLink RX2 159 "BoltTailors$Game" "end" "I", Cond.methodLink RX2 224 yX1_fitTo, Cond.instanceMethod yX1_fitTo, Cond.selects RX1 yX1_fitTo yX1_fitTo, Cond.initialized RX1, Cond.code yX1_fitTo cX1_fitTo 2 none]
def wsX2_codeOnPad_r2 : List Cond := [Cond.fieldLink RX1 25 "BoltTailors$Game" "colours" "[I", Cond.fieldLink RX1 9 "BoltTailors$Leads" "colours" "[I", Cond.methodLink RX1 28 arraycopyName, Cond.native arraycopyName, Cond.static arraycopyName, Cond.initialized "java/lang/System", Cond.fieldLink RX1 34 "BoltTailors$Game" "settings" "[I", Cond.fieldLink RX1 15 "BoltTailors$Leads" "settings" "[I", Cond.fieldLink RX1 35 "BoltTailors$Game" "stripes" "I", Cond.fieldLink RX1 39 "BoltTailors$Leads" "stripes" "I", Cond.fieldLink RX1 18 "BoltTailors$Leads" "kept" "[I", Cond.constant RX1 40 (-1000000), Cond.methodLink RX1 21 yX1_isFor, Cond.instanceMethod yX1_isFor, Cond.selects RX1 yX1_isFor yX1_isFor, Cond.code yX1_isFor cX1_isFor 4 (some .boolean), Cond.static yX2_at, Cond.code yX2_at cX2_at 2 (some .int), Cond.methodLink RX1 41 yJ7_fill_53178, Cond.static yJ7_fill_53178, Cond.initialized RJ7, Cond.code yJ7_fill_53178 cJ7_fill_53178 4 none, Cond.methodLink RX2 162 yX0_onTurn, Cond.instanceMethod yX0_onTurn]
def wsX2_codeOnPad_r3 : List Cond := [Cond.selects RX0 yX0_onTurn yX0_onTurn, Cond.initialized RX0, Cond.code yX0_onTurn cX0_onTurn 1 (some .int), Cond.fieldLink RX0 48 "BoltTailors$Game" "cuts" "I", Cond.methodLink RX2 136 yX0_endOfCoat, Cond.instanceMethod yX0_endOfCoat, Cond.selects RX0 yX0_endOfCoat yX0_endOfCoat, Cond.code yX0_endOfCoat cX0_endOfCoat 4 (some .int), Cond.fieldLink RX0 9 "BoltTailors$Game" "colours" "[I", Cond.fieldLink RX0 18 "BoltTailors$Game" "pieceFirst" "[I", Cond.fieldLink RX0 21 "BoltTailors$Game" "pieceSize" "[I", Cond.methodLink RX0 113 yX0_piecesOf, Cond.instanceMethod yX0_piecesOf, Cond.selects RX0 yX0_piecesOf yX0_piecesOf, Cond.code yX0_piecesOf cX0_piecesOf 2 (some .int), Cond.methodLink RX2 221 yX0_longestCut, Cond.instanceMethod yX0_longestCut, Cond.selects RX0 yX0_longestCut yX0_longestCut, Cond.code yX0_longestCut cX0_longestCut 1 (some .int), Cond.fieldLink RX0 15 "BoltTailors$Game" "settings" "[I", Cond.methodLink RX0 75 Lib.Math.min.name, Cond.static Lib.Math.min.name, Cond.initialized "java/lang/Math", Cond.code Lib.Math.min.name Lib.Math.min.code 2 (some .int)]
def wsX2_codeOnPad_r4 : List Cond := [Cond.methodLink RX0 72 yX0_remaining, Cond.instanceMethod yX0_remaining, Cond.selects RX0 yX0_remaining yX0_remaining, Cond.code yX0_remaining cX0_remaining 1 (some .int), Cond.fieldLink RX0 45 "BoltTailors$Game" "end" "I", Cond.fieldLink RX0 42 "BoltTailors$Game" "first" "I", Cond.methodLink RX2 47 yX2_codeOf, Cond.static yX2_codeOf, Cond.code yX2_codeOf cX2_codeOf 2 (some .int), Cond.methodLink RX2 183 yX0_worthOfCut, Cond.instanceMethod yX0_worthOfCut, Cond.selects RX0 yX0_worthOfCut yX0_worthOfCut, Cond.code yX0_worthOfCut cX0_worthOfCut 4 (some .int), Cond.static yX2_sizeOf, Cond.code yX2_sizeOf cX2_sizeOf 1 (some .int), Cond.methodLink RX2 215 yX2_isFromLeft, Cond.static yX2_isFromLeft, Cond.code yX2_isFromLeft cX2_isFromLeft 1 (some .boolean), Cond.static yX2_pieceStart, Cond.code yX2_pieceStart cX2_pieceStart 3 (some .int), Cond.methodLink RX2 218 yX2_sizeOf, Cond.methodLink RX0 89 yX0_onTurn, Cond.methodLink RX0 92 yX0_endOfCoat, Cond.static yX2_traitsOf]
def wsX2_codeOnPad_r5 : List Cond := [Cond.code yX2_traitsOf cX2_traitsOf 5 (some .int), Cond.methodLink RX2 72 yX2_at, Cond.methodLink RX2 280 yX2_isFold, Cond.static yX2_isFold, Cond.code yX2_isFold cX2_isFold 4 (some .boolean), Cond.static yX2_worthOf, Cond.code yX2_worthOf cX2_worthOf 5 (some .int), Cond.methodLink RX2 228 yX2_goThrough, Cond.static yX2_goThrough, Cond.code yX2_goThrough cX2_goThrough 11 (some .int), Cond.fieldLink RX2 249 "BoltTailors$Leads" "colours" "[I", Cond.fieldLink RX2 240 "BoltTailors$Leads" "settings" "[I", Cond.methodLink RX2 245 yX2_pieceStart, Cond.methodLink RX2 250 yX2_traitsOf, Cond.methodLink RX2 254 yX2_worthOf, Cond.methodLink RX2 258 yX2_restStart, Cond.static yX2_restStart, Cond.code yX2_restStart cX2_restStart 2 (some .int), Cond.methodLink RX2 261 yX2_restEnd, Cond.static yX2_restEnd, Cond.code yX2_restEnd cX2_restEnd 2 (some .int), Cond.methodLink RX2 268 yX2_goInto, Cond.static yX2_goInto, Cond.code yX2_goInto cX2_goInto 9 (some .int)]
def wsX2_codeOnPad_r6 : List Cond := [Cond.methodLink RX2 272 Lib.Math.min.name, Cond.methodLink RX2 277 Lib.Math.max.name, Cond.static Lib.Math.max.name, Cond.code Lib.Math.max.name Lib.Math.max.code 2 (some .int), Cond.methodLink RX2 232 yX1_told, Cond.instanceMethod yX1_told, Cond.selects RX1 yX1_told yX1_told, Cond.code yX1_told cX1_told 5 (some .int), Cond.methodLink RX1 51 yX1_place, Cond.static yX1_place, Cond.code yX1_place cX1_place 4 (some .int), Cond.methodLink RX2 264 yX1_keep, Cond.instanceMethod yX1_keep, Cond.selects RX1 yX1_keep yX1_keep, Cond.code yX1_keep cX1_keep 6 none, Cond.static yX2_put, Cond.code yX2_put cX2_put 3 none, Cond.methodLink RX2 290 yX2_digitAt, Cond.instanceMethod yX2_digitAt, Cond.selects RX2 yX2_digitAt yX2_digitAt, Cond.code yX2_digitAt cX2_digitAt 3 (some .int)]
def wsX2_codeOnPad : List Cond := .code yX2_codeOnPad cX2_codeOnPad 4 (some .int) :: ((wsX2_codeOnPad_r1 ++ (wsX2_codeOnPad_r2 ++ (wsX2_codeOnPad_r3 ++ (wsX2_codeOnPad_r4 ++ (wsX2_codeOnPad_r5 ++ wsX2_codeOnPad_r6))))) ++ wsX20 ++ wsX00 ++ wsX10)
def wsX2_play_r1 : List Cond := [Cond.fieldLink RX2 86 "BoltTailors" "signs" "I", Cond.fieldLink RX2 10 "BoltTailors" "now" "LBoltTailors$Game;", Cond.methodLink RX2 92 yX2_faultAsCuts, Cond.instanceMethod yX2_faultAsCuts, Cond.selects RX2 yX2_faultAsCuts yX2_faultAsCuts, Cond.initialized RX2, Cond.code yX2_faultAsCuts cX2_faultAsCuts 4 (some .int), Cond.methodLink RX2 290 yX2_digitAt, Cond.instanceMethod yX2_digitAt, Cond.selects RX2 yX2_digitAt yX2_digitAt, Cond.code yX2_digitAt cX2_digitAt 3 (some .int), Cond.methodLink RX2 98 yX2_signAt, Cond.instanceMethod yX2_signAt, Cond.selects RX2 yX2_signAt yX2_signAt, Cond.code yX2_signAt cX2_signAt 2 (some .char), Cond.fieldLink RX2 26 "BoltTailors" "pad" "[C", Cond.methodLink RX2 113 yX2_isSide, Cond.static yX2_isSide, Cond.code yX2_isSide cX2_isSide 1 (some .boolean), Cond.methodLink RX2 44 yX2_record, Cond.instanceMethod yX2_record, Cond.selects RX2 yX2_record yX2_record, Cond.code yX2_record cX2_record 2 none, Cond.fieldLink RX2 177 "BoltTailors" "states" "I"]
def wsX2_play_r2 : List Cond := [Cond.fieldLink RX2 22 "BoltTailors" "past" "[LBoltTailors$Game;", Cond.methodLink RX2 212 yX2_dropOldest, Cond.instanceMethod yX2_dropOldest, Cond.selects RX2 yX2_dropOldest yX2_dropOldest, Cond.code yX2_dropOldest cX2_dropOldest 3 none, Cond.methodLink RX2 204 yX2_pastAt, Cond.instanceMethod yX2_pastAt, Cond.selects RX2 yX2_pastAt yX2_pastAt, Cond.code yX2_pastAt cX2_pastAt 2 (some (.object "BoltTailors$Game")), Cond.methodLink RX2 200 yX0_copyFrom, Cond.instanceMethod yX0_copyFrom, Cond.selects RX0 yX0_copyFrom yX0_copyFrom, Cond.initialized RX0, Cond.code yX0_copyFrom cX0_copyFrom 2 none, Cond.fieldLink RX0 9 "BoltTailors$Game" "colours" "[I", Cond.methodLink RX0 66 arraycopyName, Cond.native arraycopyName, Cond.static arraycopyName, Cond.initialized "java/lang/System", Cond.fieldLink RX0 15 "BoltTailors$Game" "settings" "[I", Cond.fieldLink RX0 18 "BoltTailors$Game" "pieceFirst" "[I", Cond.fieldLink RX0 21 "BoltTailors$Game" "pieceSize" "[I", Cond.fieldLink RX0 24 "BoltTailors$Game" "pieceWorth" "[I", Cond.fieldLink RX0 27 "BoltTailors$Game" "pieceTraits" "[I"]
def wsX2_play_r3 : List Cond := [Cond.fieldLink RX0 38 "BoltTailors$Game" "stripes" "I", Cond.fieldLink RX0 42 "BoltTailors$Game" "first" "I", Cond.fieldLink RX0 45 "BoltTailors$Game" "end" "I", Cond.fieldLink RX0 48 "BoltTailors$Game" "cuts" "I", Cond.methodLink RX2 110 yX2_codeOnPad, Cond.instanceMethod yX2_codeOnPad, Cond.selects RX2 yX2_codeOnPad yX2_codeOnPad, Cond.code yX2_codeOnPad cX2_codeOnPad 4 (some .int), Cond.methodLink RX2 197 yX2_choice, Cond.instanceMethod yX2_choice, Cond.selects RX2 yX2_choice yX2_choice, Cond.code yX2_choice cX2_choice 12 (some .int), Cond.fieldLink RX2 37 "BoltTailors" "leadsByCuts" "LBoltTailors$Leads;", Cond.constant RX2 227 (-1000000), Cond.fieldLink RX2 156 "BoltTailors$Game" "first" "I", Cond.fieldLink RX2 159 "BoltTailors$Game" "end" "I", Cond.methodLink RX2 224 yX1_fitTo, Cond.instanceMethod yX1_fitTo, Cond.selects RX1 yX1_fitTo yX1_fitTo, Cond.initialized RX1, Cond.code yX1_fitTo cX1_fitTo 2 none, Cond.fieldLink RX1 25 "BoltTailors$Game" "colours" "[I", Cond.fieldLink RX1 9 "BoltTailors$Leads" "colours" "[I", Cond.methodLink RX1 28 arraycopyName]
def wsX2_play_r4 : List Cond := [Cond.fieldLink RX1 34 "BoltTailors$Game" "settings" "[I", Cond.fieldLink RX1 15 "BoltTailors$Leads" "settings" "[I", Cond.fieldLink RX1 35 "BoltTailors$Game" "stripes" "I", Cond.fieldLink RX1 39 "BoltTailors$Leads" "stripes" "I", Cond.fieldLink RX1 18 "BoltTailors$Leads" "kept" "[I", Cond.constant RX1 40 (-1000000), Cond.methodLink RX1 21 yX1_isFor, Cond.instanceMethod yX1_isFor, Cond.selects RX1 yX1_isFor yX1_isFor, Cond.code yX1_isFor cX1_isFor 4 (some .boolean), Cond.static yX2_at, Cond.code yX2_at cX2_at 2 (some .int), Cond.methodLink RX1 41 yJ7_fill_53178, Cond.static yJ7_fill_53178, Cond.initialized RJ7, Cond.code yJ7_fill_53178 cJ7_fill_53178 4 none, Cond.methodLink RX2 162 yX0_onTurn, Cond.instanceMethod yX0_onTurn, Cond.selects RX0 yX0_onTurn yX0_onTurn, Cond.code yX0_onTurn cX0_onTurn 1 (some .int), Cond.methodLink RX2 136 yX0_endOfCoat, Cond.instanceMethod yX0_endOfCoat, Cond.selects RX0 yX0_endOfCoat yX0_endOfCoat, Cond.code yX0_endOfCoat cX0_endOfCoat 4 (some .int)]
def wsX2_play_r5 : List Cond := [Cond.methodLink RX0 113 yX0_piecesOf, Cond.instanceMethod yX0_piecesOf, Cond.selects RX0 yX0_piecesOf yX0_piecesOf, Cond.code yX0_piecesOf cX0_piecesOf 2 (some .int), Cond.methodLink RX2 221 yX0_longestCut, Cond.instanceMethod yX0_longestCut, Cond.selects RX0 yX0_longestCut yX0_longestCut, Cond.code yX0_longestCut cX0_longestCut 1 (some .int), Cond.methodLink RX0 75 Lib.Math.min.name, Cond.static Lib.Math.min.name, Cond.initialized "java/lang/Math", Cond.code Lib.Math.min.name Lib.Math.min.code 2 (some .int), Cond.methodLink RX0 72 yX0_remaining, Cond.instanceMethod yX0_remaining, Cond.selects RX0 yX0_remaining yX0_remaining, Cond.code yX0_remaining cX0_remaining 1 (some .int), Cond.methodLink RX2 47 yX2_codeOf, Cond.static yX2_codeOf, Cond.code yX2_codeOf cX2_codeOf 2 (some .int), Cond.methodLink RX2 183 yX0_worthOfCut, Cond.instanceMethod yX0_worthOfCut, Cond.selects RX0 yX0_worthOfCut yX0_worthOfCut, Cond.code yX0_worthOfCut cX0_worthOfCut 4 (some .int), Cond.static yX2_sizeOf]
def wsX2_play_r6 : List Cond := [Cond.code yX2_sizeOf cX2_sizeOf 1 (some .int), Cond.methodLink RX2 215 yX2_isFromLeft, Cond.static yX2_isFromLeft, Cond.code yX2_isFromLeft cX2_isFromLeft 1 (some .boolean), Cond.static yX2_pieceStart, Cond.code yX2_pieceStart cX2_pieceStart 3 (some .int), Cond.methodLink RX2 218 yX2_sizeOf, Cond.methodLink RX0 89 yX0_onTurn, Cond.methodLink RX0 92 yX0_endOfCoat, Cond.static yX2_traitsOf, Cond.code yX2_traitsOf cX2_traitsOf 5 (some .int), Cond.methodLink RX2 72 yX2_at, Cond.methodLink RX2 280 yX2_isFold, Cond.static yX2_isFold, Cond.code yX2_isFold cX2_isFold 4 (some .boolean), Cond.static yX2_worthOf, Cond.code yX2_worthOf cX2_worthOf 5 (some .int), Cond.methodLink RX2 228 yX2_goThrough, Cond.static yX2_goThrough, Cond.code yX2_goThrough cX2_goThrough 11 (some .int), Cond.fieldLink RX2 249 "BoltTailors$Leads" "colours" "[I", Cond.fieldLink RX2 240 "BoltTailors$Leads" "settings" "[I", Cond.methodLink RX2 245 yX2_pieceStart, Cond.methodLink RX2 250 yX2_traitsOf]
def wsX2_play_r7 : List Cond := [Cond.methodLink RX2 254 yX2_worthOf, Cond.methodLink RX2 258 yX2_restStart, Cond.static yX2_restStart, Cond.code yX2_restStart cX2_restStart 2 (some .int), Cond.methodLink RX2 261 yX2_restEnd, Cond.static yX2_restEnd, Cond.code yX2_restEnd cX2_restEnd 2 (some .int), Cond.methodLink RX2 268 yX2_goInto, Cond.static yX2_goInto, Cond.code yX2_goInto cX2_goInto 9 (some .int), Cond.methodLink RX2 272 Lib.Math.min.name, Cond.methodLink RX2 277 Lib.Math.max.name, Cond.static Lib.Math.max.name, Cond.code Lib.Math.max.name Lib.Math.max.code 2 (some .int), Cond.methodLink RX2 232 yX1_told, Cond.instanceMethod yX1_told, Cond.selects RX1 yX1_told yX1_told, Cond.code yX1_told cX1_told 5 (some .int), Cond.methodLink RX1 51 yX1_place, Cond.static yX1_place, Cond.code yX1_place cX1_place 4 (some .int), Cond.methodLink RX2 264 yX1_keep, Cond.instanceMethod yX1_keep, Cond.selects RX1 yX1_keep yX1_keep]
def wsX2_play_r8 : List Cond := [Cond.code yX1_keep cX1_keep 6 none, Cond.static yX2_put, Cond.code yX2_put cX2_put 3 none, Cond.methodLink RX2 51 yX0_sew, Cond.instanceMethod yX0_sew, Cond.selects RX0 yX0_sew yX0_sew, Cond.code yX0_sew cX0_sew 6 (some .int)]
def wsX2_play : List Cond := .code yX2_play cX2_play 4 (some .int) :: ((wsX2_play_r1 ++ (wsX2_play_r2 ++ (wsX2_play_r3 ++ (wsX2_play_r4 ++ (wsX2_play_r5 ++ (wsX2_play_r6 ++ (wsX2_play_r7 ++ wsX2_play_r8))))))) ++ wsX20 ++ wsX00 ++ wsX10)
def wsX2_stripe : List Cond := .code yX2_stripe cX2_stripe 2 (some .int) :: ([.fieldLink RX2 10 "BoltTailors" "now" "LBoltTailors$Game;", .fieldLink RX2 60 "BoltTailors$Game" "stripes" "I", .fieldLink RX2 117 "BoltTailors$Game" "colours" "[I", .methodLink RX2 72 yX2_at, .static yX2_at, .initialized RX2, .code yX2_at cX2_at 2 (some .int)] ++ wsX20 ++ wsX00)
def wsX2_isNoTailor : List Cond := .code yX2_isNoTailor cX2_isNoTailor 1 (some .boolean) :: ([])
def wsX2_coat_r1 : List Cond := [Cond.fieldLink RX2 10 "BoltTailors" "now" "LBoltTailors$Game;", Cond.fieldLink RX2 124 "BoltTailors$Game" "pieceWorth" "[I", Cond.fieldLink RX2 133 "BoltTailors$Game" "pieceSize" "[I", Cond.methodLink RX2 120 yX2_isNoTailor, Cond.static yX2_isNoTailor, Cond.initialized RX2, Cond.code yX2_isNoTailor cX2_isNoTailor 1 (some .boolean), Cond.methodLink RX2 127 yX0_sumOfCoat, Cond.instanceMethod yX0_sumOfCoat, Cond.selects RX0 yX0_sumOfCoat yX0_sumOfCoat, Cond.initialized RX0, Cond.code yX0_sumOfCoat cX0_sumOfCoat 5 (some .int), Cond.fieldLink RX0 48 "BoltTailors$Game" "cuts" "I", Cond.static yX2_at, Cond.code yX2_at cX2_at 2 (some .int), Cond.methodLink RX2 130 yX0_piecesOf, Cond.instanceMethod yX0_piecesOf, Cond.selects RX0 yX0_piecesOf yX0_piecesOf, Cond.code yX0_piecesOf cX0_piecesOf 2 (some .int), Cond.methodLink RX2 136 yX0_endOfCoat, Cond.instanceMethod yX0_endOfCoat, Cond.selects RX0 yX0_endOfCoat yX0_endOfCoat, Cond.code yX0_endOfCoat cX0_endOfCoat 4 (some .int), Cond.fieldLink RX0 9 "BoltTailors$Game" "colours" "[I"]
def wsX2_coat_r2 : List Cond := [Cond.fieldLink RX0 18 "BoltTailors$Game" "pieceFirst" "[I", Cond.fieldLink RX0 21 "BoltTailors$Game" "pieceSize" "[I", Cond.methodLink RX0 113 yX0_piecesOf, Cond.methodLink RX2 139 yX0_piecesWith, Cond.instanceMethod yX0_piecesWith, Cond.selects RX0 yX0_piecesWith yX0_piecesWith, Cond.code yX0_piecesWith cX0_piecesWith 5 (some .int), Cond.fieldLink RX0 27 "BoltTailors$Game" "pieceTraits" "[I"]
def wsX2_coat : List Cond := .code yX2_coat cX2_coat 4 (some .int) :: ((wsX2_coat_r1 ++ wsX2_coat_r2) ++ wsX20 ++ wsX00)
def wsX2_piece : List Cond := .code yX2_piece cX2_piece 5 (some .int) :: ([.fieldLink RX2 10 "BoltTailors" "now" "LBoltTailors$Game;", .fieldLink RX2 143 "BoltTailors$Game" "pieceFirst" "[I", .fieldLink RX2 133 "BoltTailors$Game" "pieceSize" "[I", .fieldLink RX2 124 "BoltTailors$Game" "pieceWorth" "[I", .fieldLink RX2 146 "BoltTailors$Game" "pieceTraits" "[I", .methodLink RX2 120 yX2_isNoTailor, .static yX2_isNoTailor, .initialized RX2, .code yX2_isNoTailor cX2_isNoTailor 1 (some .boolean), .methodLink RX2 130 yX0_piecesOf, .instanceMethod yX0_piecesOf, .selects RX0 yX0_piecesOf yX0_piecesOf, .initialized RX0, .code yX0_piecesOf cX0_piecesOf 2 (some .int), .fieldLink RX0 48 "BoltTailors$Game" "cuts" "I", .methodLink RX2 72 yX2_at, .static yX2_at, .code yX2_at cX2_at 2 (some .int)] ++ wsX20 ++ wsX00)
def wsX2_count_r1 : List Cond := [Cond.fieldLink RX2 10 "BoltTailors" "now" "LBoltTailors$Game;", Cond.fieldLink RX2 60 "BoltTailors$Game" "stripes" "I", Cond.fieldLink RX2 156 "BoltTailors$Game" "first" "I", Cond.fieldLink RX2 159 "BoltTailors$Game" "end" "I", Cond.fieldLink RX2 165 "BoltTailors$Game" "cuts" "I", Cond.fieldLink RX2 79 "BoltTailors$Game" "settings" "[I", Cond.fieldLink RX2 86 "BoltTailors" "signs" "I", Cond.fieldLink RX2 177 "BoltTailors" "states" "I", Cond.methodLink RX2 149 yX0_isOver, Cond.instanceMethod yX0_isOver, Cond.selects RX0 yX0_isOver yX0_isOver, Cond.initialized RX0, Cond.code yX0_isOver cX0_isOver 1 (some .boolean), Cond.fieldLink RX0 42 "BoltTailors$Game" "first" "I", Cond.fieldLink RX0 45 "BoltTailors$Game" "end" "I", Cond.methodLink RX2 153 yX0_remaining, Cond.instanceMethod yX0_remaining, Cond.selects RX0 yX0_remaining yX0_remaining, Cond.code yX0_remaining cX0_remaining 1 (some .int), Cond.methodLink RX2 162 yX0_onTurn, Cond.instanceMethod yX0_onTurn, Cond.selects RX0 yX0_onTurn yX0_onTurn, Cond.code yX0_onTurn cX0_onTurn 1 (some .int), Cond.fieldLink RX0 48 "BoltTailors$Game" "cuts" "I"]
def wsX2_count_r2 : List Cond := [Cond.methodLink RX2 168 yX0_colourChanges, Cond.instanceMethod yX0_colourChanges, Cond.selects RX0 yX0_colourChanges yX0_colourChanges, Cond.code yX0_colourChanges cX0_colourChanges 3 (some .int), Cond.fieldLink RX0 9 "BoltTailors$Game" "colours" "[I", Cond.static yX2_at, Cond.initialized RX2, Cond.code yX2_at cX2_at 2 (some .int), Cond.methodLink RX2 171 yX0_coloursLeft, Cond.instanceMethod yX0_coloursLeft, Cond.selects RX0 yX0_coloursLeft yX0_coloursLeft, Cond.code yX0_coloursLeft cX0_coloursLeft 3 (some .int), Cond.methodLink RX0 116 yX0_stripesLeftOf, Cond.instanceMethod yX0_stripesLeftOf, Cond.selects RX0 yX0_stripesLeftOf yX0_stripesLeftOf, Cond.code yX0_stripesLeftOf cX0_stripesLeftOf 4 (some .int), Cond.methodLink RX2 174 yX0_longestFold, Cond.instanceMethod yX0_longestFold, Cond.selects RX0 yX0_longestFold yX0_longestFold, Cond.code yX0_longestFold cX0_longestFold 3 (some .int), Cond.methodLink RX0 72 yX0_remaining, Cond.static yX2_isFold, Cond.code yX2_isFold cX2_isFold 4 (some .boolean), Cond.methodLink RX2 72 yX2_at]
def wsX2_count : List Cond := .code yX2_count cX2_count 3 (some .int) :: ((wsX2_count_r1 ++ wsX2_count_r2) ++ wsX20 ++ wsX00)
def wsX2_left : List Cond := .code yX2_left cX2_left 2 (some .int) :: ([.fieldLink RX2 10 "BoltTailors" "now" "LBoltTailors$Game;", .methodLink RX2 180 yX0_stripesLeftOf, .instanceMethod yX0_stripesLeftOf, .selects RX0 yX0_stripesLeftOf yX0_stripesLeftOf, .initialized RX0, .code yX0_stripesLeftOf cX0_stripesLeftOf 4 (some .int), .fieldLink RX0 42 "BoltTailors$Game" "first" "I", .fieldLink RX0 45 "BoltTailors$Game" "end" "I", .fieldLink RX0 9 "BoltTailors$Game" "colours" "[I", .static yX2_at, .initialized RX2, .code yX2_at cX2_at 2 (some .int)] ++ wsX20 ++ wsX00)
def wsX2_worth_r1 : List Cond := [Cond.fieldLink RX2 10 "BoltTailors" "now" "LBoltTailors$Game;", Cond.methodLink RX2 40 yX2_errorOfCut, Cond.instanceMethod yX2_errorOfCut, Cond.selects RX2 yX2_errorOfCut yX2_errorOfCut, Cond.initialized RX2, Cond.code yX2_errorOfCut cX2_errorOfCut 2 (some .int), Cond.methodLink RX2 221 yX0_longestCut, Cond.instanceMethod yX0_longestCut, Cond.selects RX0 yX0_longestCut yX0_longestCut, Cond.initialized RX0, Cond.code yX0_longestCut cX0_longestCut 1 (some .int), Cond.fieldLink RX0 15 "BoltTailors$Game" "settings" "[I", Cond.methodLink RX0 75 Lib.Math.min.name, Cond.static Lib.Math.min.name, Cond.initialized "java/lang/Math", Cond.code Lib.Math.min.name Lib.Math.min.code 2 (some .int), Cond.static yX2_at, Cond.code yX2_at cX2_at 2 (some .int), Cond.methodLink RX0 72 yX0_remaining, Cond.instanceMethod yX0_remaining, Cond.selects RX0 yX0_remaining yX0_remaining, Cond.code yX0_remaining cX0_remaining 1 (some .int), Cond.fieldLink RX0 45 "BoltTailors$Game" "end" "I", Cond.fieldLink RX0 42 "BoltTailors$Game" "first" "I"]
def wsX2_worth_r2 : List Cond := [Cond.methodLink RX2 47 yX2_codeOf, Cond.static yX2_codeOf, Cond.code yX2_codeOf cX2_codeOf 2 (some .int), Cond.methodLink RX2 183 yX0_worthOfCut, Cond.instanceMethod yX0_worthOfCut, Cond.selects RX0 yX0_worthOfCut yX0_worthOfCut, Cond.code yX0_worthOfCut cX0_worthOfCut 4 (some .int), Cond.fieldLink RX0 9 "BoltTailors$Game" "colours" "[I", Cond.static yX2_sizeOf, Cond.code yX2_sizeOf cX2_sizeOf 1 (some .int), Cond.methodLink RX2 215 yX2_isFromLeft, Cond.static yX2_isFromLeft, Cond.code yX2_isFromLeft cX2_isFromLeft 1 (some .boolean), Cond.static yX2_pieceStart, Cond.code yX2_pieceStart cX2_pieceStart 3 (some .int), Cond.methodLink RX2 218 yX2_sizeOf, Cond.methodLink RX0 89 yX0_onTurn, Cond.instanceMethod yX0_onTurn, Cond.selects RX0 yX0_onTurn yX0_onTurn, Cond.code yX0_onTurn cX0_onTurn 1 (some .int), Cond.fieldLink RX0 48 "BoltTailors$Game" "cuts" "I", Cond.methodLink RX0 92 yX0_endOfCoat, Cond.instanceMethod yX0_endOfCoat, Cond.selects RX0 yX0_endOfCoat yX0_endOfCoat]
def wsX2_worth_r3 : List Cond := [Cond.code yX0_endOfCoat cX0_endOfCoat 4 (some .int), Cond.fieldLink RX0 18 "BoltTailors$Game" "pieceFirst" "[I", Cond.fieldLink RX0 21 "BoltTailors$Game" "pieceSize" "[I", Cond.methodLink RX0 113 yX0_piecesOf, Cond.instanceMethod yX0_piecesOf, Cond.selects RX0 yX0_piecesOf yX0_piecesOf, Cond.code yX0_piecesOf cX0_piecesOf 2 (some .int), Cond.static yX2_traitsOf, Cond.code yX2_traitsOf cX2_traitsOf 5 (some .int), Cond.methodLink RX2 72 yX2_at, Cond.methodLink RX2 280 yX2_isFold, Cond.static yX2_isFold, Cond.code yX2_isFold cX2_isFold 4 (some .boolean), Cond.static yX2_worthOf, Cond.code yX2_worthOf cX2_worthOf 5 (some .int)]
def wsX2_worth : List Cond := .code yX2_worth cX2_worth 4 (some .int) :: ((wsX2_worth_r1 ++ (wsX2_worth_r2 ++ wsX2_worth_r3)) ++ wsX20 ++ wsX00)
def wsX2_raiseRow_r1 : List Cond := [Cond.fieldLink RX2 249 "BoltTailors$Leads" "colours" "[I", Cond.fieldLink RX2 240 "BoltTailors$Leads" "settings" "[I", Cond.methodLink RX2 218 yX2_sizeOf, Cond.static yX2_sizeOf, Cond.initialized RX2, Cond.code yX2_sizeOf cX2_sizeOf 1 (some .int), Cond.methodLink RX2 215 yX2_isFromLeft, Cond.static yX2_isFromLeft, Cond.code yX2_isFromLeft cX2_isFromLeft 1 (some .boolean), Cond.methodLink RX2 245 yX2_pieceStart, Cond.static yX2_pieceStart, Cond.code yX2_pieceStart cX2_pieceStart 3 (some .int), Cond.methodLink RX2 72 yX2_at, Cond.static yX2_at, Cond.code yX2_at cX2_at 2 (some .int), Cond.methodLink RX2 250 yX2_traitsOf, Cond.static yX2_traitsOf, Cond.code yX2_traitsOf cX2_traitsOf 5 (some .int), Cond.methodLink RX2 280 yX2_isFold, Cond.static yX2_isFold, Cond.code yX2_isFold cX2_isFold 4 (some .boolean), Cond.methodLink RX2 254 yX2_worthOf, Cond.static yX2_worthOf, Cond.code yX2_worthOf cX2_worthOf 5 (some .int)]
def wsX2_raiseRow_r2 : List Cond := [Cond.methodLink RX2 258 yX2_restStart, Cond.static yX2_restStart, Cond.code yX2_restStart cX2_restStart 2 (some .int), Cond.methodLink RX2 261 yX2_restEnd, Cond.static yX2_restEnd, Cond.code yX2_restEnd cX2_restEnd 2 (some .int), Cond.methodLink RX2 232 yX1_told, Cond.instanceMethod yX1_told, Cond.selects RX1 yX1_told yX1_told, Cond.initialized RX1, Cond.code yX1_told cX1_told 5 (some .int), Cond.fieldLink RX1 18 "BoltTailors$Leads" "kept" "[I", Cond.methodLink RX1 51 yX1_place, Cond.static yX1_place, Cond.code yX1_place cX1_place 4 (some .int), Cond.methodLink RX2 264 yX1_keep, Cond.instanceMethod yX1_keep, Cond.selects RX1 yX1_keep yX1_keep, Cond.code yX1_keep cX1_keep 6 none, Cond.static yX2_put, Cond.code yX2_put cX2_put 3 none]
def wsX2_raiseRow : List Cond := .code yX2_raiseRow cX2_raiseRow 14 none :: ((wsX2_raiseRow_r1 ++ wsX2_raiseRow_r2) ++ wsX10)
def wsX2_tellRows_r1 : List Cond := [Cond.fieldLink RX2 240 "BoltTailors$Leads" "settings" "[I", Cond.methodLink RX2 72 yX2_at, Cond.static yX2_at, Cond.initialized RX2, Cond.code yX2_at cX2_at 2 (some .int), Cond.methodLink RX2 47 yX2_codeOf, Cond.static yX2_codeOf, Cond.code yX2_codeOf cX2_codeOf 2 (some .int), Cond.methodLink RX2 241 yX2_raiseRow, Cond.static yX2_raiseRow, Cond.code yX2_raiseRow cX2_raiseRow 14 none, Cond.fieldLink RX2 249 "BoltTailors$Leads" "colours" "[I", Cond.methodLink RX2 218 yX2_sizeOf, Cond.static yX2_sizeOf, Cond.code yX2_sizeOf cX2_sizeOf 1 (some .int), Cond.methodLink RX2 215 yX2_isFromLeft, Cond.static yX2_isFromLeft, Cond.code yX2_isFromLeft cX2_isFromLeft 1 (some .boolean), Cond.methodLink RX2 245 yX2_pieceStart, Cond.static yX2_pieceStart, Cond.code yX2_pieceStart cX2_pieceStart 3 (some .int), Cond.methodLink RX2 250 yX2_traitsOf, Cond.static yX2_traitsOf, Cond.code yX2_traitsOf cX2_traitsOf 5 (some .int)]
def wsX2_tellRows_r2 : List Cond := [Cond.methodLink RX2 280 yX2_isFold, Cond.static yX2_isFold, Cond.code yX2_isFold cX2_isFold 4 (some .boolean), Cond.methodLink RX2 254 yX2_worthOf, Cond.static yX2_worthOf, Cond.code yX2_worthOf cX2_worthOf 5 (some .int), Cond.methodLink RX2 258 yX2_restStart, Cond.static yX2_restStart, Cond.code yX2_restStart cX2_restStart 2 (some .int), Cond.methodLink RX2 261 yX2_restEnd, Cond.static yX2_restEnd, Cond.code yX2_restEnd cX2_restEnd 2 (some .int), Cond.methodLink RX2 232 yX1_told, Cond.instanceMethod yX1_told, Cond.selects RX1 yX1_told yX1_told, Cond.initialized RX1, Cond.code yX1_told cX1_told 5 (some .int), Cond.fieldLink RX1 18 "BoltTailors$Leads" "kept" "[I", Cond.methodLink RX1 51 yX1_place, Cond.static yX1_place, Cond.code yX1_place cX1_place 4 (some .int), Cond.methodLink RX2 264 yX1_keep, Cond.instanceMethod yX1_keep, Cond.selects RX1 yX1_keep yX1_keep]
def wsX2_tellRows_r3 : List Cond := [Cond.code yX1_keep cX1_keep 6 none, Cond.static yX2_put, Cond.code yX2_put cX2_put 3 none]
def wsX2_tellRows : List Cond := .code yX2_tellRows cX2_tellRows 7 none :: ((wsX2_tellRows_r1 ++ (wsX2_tellRows_r2 ++ wsX2_tellRows_r3)) ++ wsX10)
def wsX2_leadTold_r1 : List Cond := [Cond.fieldLink RX2 33 "BoltTailors" "leadsByRows" "LBoltTailors$Leads;", Cond.fieldLink RX2 156 "BoltTailors$Game" "first" "I", Cond.fieldLink RX2 159 "BoltTailors$Game" "end" "I", Cond.constant RX2 227 (-1000000), Cond.methodLink RX2 224 yX1_fitTo, Cond.instanceMethod yX1_fitTo, Cond.selects RX1 yX1_fitTo yX1_fitTo, Cond.initialized RX1, Cond.code yX1_fitTo cX1_fitTo 2 none, Cond.fieldLink RX1 25 "BoltTailors$Game" "colours" "[I", Cond.fieldLink RX1 9 "BoltTailors$Leads" "colours" "[I", Cond.methodLink RX1 28 arraycopyName, Cond.native arraycopyName, Cond.static arraycopyName, Cond.initialized "java/lang/System", Cond.fieldLink RX1 34 "BoltTailors$Game" "settings" "[I", Cond.fieldLink RX1 15 "BoltTailors$Leads" "settings" "[I", Cond.fieldLink RX1 35 "BoltTailors$Game" "stripes" "I", Cond.fieldLink RX1 39 "BoltTailors$Leads" "stripes" "I", Cond.fieldLink RX1 18 "BoltTailors$Leads" "kept" "[I", Cond.constant RX1 40 (-1000000), Cond.methodLink RX1 21 yX1_isFor, Cond.instanceMethod yX1_isFor, Cond.selects RX1 yX1_isFor yX1_isFor]
def wsX2_leadTold_r2 : List Cond := [Cond.code yX1_isFor cX1_isFor 4 (some .boolean), Cond.static yX2_at, Cond.initialized RX2, Cond.code yX2_at cX2_at 2 (some .int), Cond.methodLink RX1 41 yJ7_fill_53178, Cond.static yJ7_fill_53178, Cond.initialized RJ7, Cond.code yJ7_fill_53178 cJ7_fill_53178 4 none, Cond.methodLink RX2 162 yX0_onTurn, Cond.instanceMethod yX0_onTurn, Cond.selects RX0 yX0_onTurn yX0_onTurn, Cond.initialized RX0, Cond.code yX0_onTurn cX0_onTurn 1 (some .int), Cond.fieldLink RX0 48 "BoltTailors$Game" "cuts" "I", Cond.methodLink RX2 136 yX0_endOfCoat, Cond.instanceMethod yX0_endOfCoat, Cond.selects RX0 yX0_endOfCoat yX0_endOfCoat, Cond.code yX0_endOfCoat cX0_endOfCoat 4 (some .int), Cond.fieldLink RX0 9 "BoltTailors$Game" "colours" "[I", Cond.fieldLink RX0 18 "BoltTailors$Game" "pieceFirst" "[I", Cond.fieldLink RX0 21 "BoltTailors$Game" "pieceSize" "[I", Cond.methodLink RX0 113 yX0_piecesOf, Cond.instanceMethod yX0_piecesOf, Cond.selects RX0 yX0_piecesOf yX0_piecesOf]
def wsX2_leadTold_r3 : List Cond := [Cond.code yX0_piecesOf cX0_piecesOf 2 (some .int), Cond.methodLink RX2 232 yX1_told, Cond.instanceMethod yX1_told, Cond.selects RX1 yX1_told yX1_told, Cond.code yX1_told cX1_told 5 (some .int), Cond.methodLink RX1 51 yX1_place, Cond.static yX1_place, Cond.code yX1_place cX1_place 4 (some .int), Cond.methodLink RX2 236 yX2_tellRows, Cond.static yX2_tellRows, Cond.code yX2_tellRows cX2_tellRows 7 none, Cond.fieldLink RX2 240 "BoltTailors$Leads" "settings" "[I", Cond.methodLink RX2 72 yX2_at, Cond.methodLink RX2 47 yX2_codeOf, Cond.static yX2_codeOf, Cond.code yX2_codeOf cX2_codeOf 2 (some .int), Cond.methodLink RX2 241 yX2_raiseRow, Cond.static yX2_raiseRow, Cond.code yX2_raiseRow cX2_raiseRow 14 none, Cond.fieldLink RX2 249 "BoltTailors$Leads" "colours" "[I", Cond.methodLink RX2 218 yX2_sizeOf, Cond.static yX2_sizeOf, Cond.code yX2_sizeOf cX2_sizeOf 1 (some .int), Cond.methodLink RX2 215 yX2_isFromLeft]
def wsX2_leadTold_r4 : List Cond := [Cond.static yX2_isFromLeft, Cond.code yX2_isFromLeft cX2_isFromLeft 1 (some .boolean), Cond.methodLink RX2 245 yX2_pieceStart, Cond.static yX2_pieceStart, Cond.code yX2_pieceStart cX2_pieceStart 3 (some .int), Cond.methodLink RX2 250 yX2_traitsOf, Cond.static yX2_traitsOf, Cond.code yX2_traitsOf cX2_traitsOf 5 (some .int), Cond.methodLink RX2 280 yX2_isFold, Cond.static yX2_isFold, Cond.code yX2_isFold cX2_isFold 4 (some .boolean), Cond.methodLink RX2 254 yX2_worthOf, Cond.static yX2_worthOf, Cond.code yX2_worthOf cX2_worthOf 5 (some .int), Cond.methodLink RX2 258 yX2_restStart, Cond.static yX2_restStart, Cond.code yX2_restStart cX2_restStart 2 (some .int), Cond.methodLink RX2 261 yX2_restEnd, Cond.static yX2_restEnd, Cond.code yX2_restEnd cX2_restEnd 2 (some .int), Cond.methodLink RX2 264 yX1_keep, Cond.instanceMethod yX1_keep, Cond.selects RX1 yX1_keep yX1_keep, Cond.code yX1_keep cX1_keep 6 none]
def wsX2_leadTold_r5 : List Cond := [Cond.static yX2_put, Cond.code yX2_put cX2_put 3 none]
def wsX2_leadTold : List Cond := .code yX2_leadTold cX2_leadTold 4 (some .int) :: ((wsX2_leadTold_r1 ++ (wsX2_leadTold_r2 ++ (wsX2_leadTold_r3 ++ (wsX2_leadTold_r4 ++ wsX2_leadTold_r5)))) ++ wsX20 ++ wsX00 ++ wsX10)
def wsX2_leadGoneInto_r1 : List Cond := [Cond.fieldLink RX2 37 "BoltTailors" "leadsByCuts" "LBoltTailors$Leads;", Cond.fieldLink RX2 156 "BoltTailors$Game" "first" "I", Cond.fieldLink RX2 159 "BoltTailors$Game" "end" "I", Cond.methodLink RX2 224 yX1_fitTo, Cond.instanceMethod yX1_fitTo, Cond.selects RX1 yX1_fitTo yX1_fitTo, Cond.initialized RX1, Cond.code yX1_fitTo cX1_fitTo 2 none, Cond.fieldLink RX1 25 "BoltTailors$Game" "colours" "[I", Cond.fieldLink RX1 9 "BoltTailors$Leads" "colours" "[I", Cond.methodLink RX1 28 arraycopyName, Cond.native arraycopyName, Cond.static arraycopyName, Cond.initialized "java/lang/System", Cond.fieldLink RX1 34 "BoltTailors$Game" "settings" "[I", Cond.fieldLink RX1 15 "BoltTailors$Leads" "settings" "[I", Cond.fieldLink RX1 35 "BoltTailors$Game" "stripes" "I", Cond.fieldLink RX1 39 "BoltTailors$Leads" "stripes" "I", Cond.fieldLink RX1 18 "BoltTailors$Leads" "kept" "[I", Cond.constant RX1 40 (-1000000), Cond.methodLink RX1 21 yX1_isFor, Cond.instanceMethod yX1_isFor, Cond.selects RX1 yX1_isFor yX1_isFor, Cond.code yX1_isFor cX1_isFor 4 (some .boolean)]
def wsX2_leadGoneInto_r2 : List Cond := [Cond.static yX2_at, Cond.initialized RX2, Cond.code yX2_at cX2_at 2 (some .int), Cond.methodLink RX1 41 yJ7_fill_53178, Cond.static yJ7_fill_53178, Cond.initialized RJ7, Cond.code yJ7_fill_53178 cJ7_fill_53178 4 none, Cond.methodLink RX2 162 yX0_onTurn, Cond.instanceMethod yX0_onTurn, Cond.selects RX0 yX0_onTurn yX0_onTurn, Cond.initialized RX0, Cond.code yX0_onTurn cX0_onTurn 1 (some .int), Cond.fieldLink RX0 48 "BoltTailors$Game" "cuts" "I", Cond.methodLink RX2 136 yX0_endOfCoat, Cond.instanceMethod yX0_endOfCoat, Cond.selects RX0 yX0_endOfCoat yX0_endOfCoat, Cond.code yX0_endOfCoat cX0_endOfCoat 4 (some .int), Cond.fieldLink RX0 9 "BoltTailors$Game" "colours" "[I", Cond.fieldLink RX0 18 "BoltTailors$Game" "pieceFirst" "[I", Cond.fieldLink RX0 21 "BoltTailors$Game" "pieceSize" "[I", Cond.methodLink RX0 113 yX0_piecesOf, Cond.instanceMethod yX0_piecesOf, Cond.selects RX0 yX0_piecesOf yX0_piecesOf, Cond.code yX0_piecesOf cX0_piecesOf 2 (some .int)]
def wsX2_leadGoneInto_r3 : List Cond := [Cond.methodLink RX2 268 yX2_goInto, Cond.static yX2_goInto, Cond.code yX2_goInto cX2_goInto 9 (some .int), Cond.constant RX2 227 (-1000000), Cond.fieldLink RX2 240 "BoltTailors$Leads" "settings" "[I", Cond.methodLink RX2 272 Lib.Math.min.name, Cond.static Lib.Math.min.name, Cond.initialized "java/lang/Math", Cond.code Lib.Math.min.name Lib.Math.min.code 2 (some .int), Cond.methodLink RX2 277 Lib.Math.max.name, Cond.static Lib.Math.max.name, Cond.code Lib.Math.max.name Lib.Math.max.code 2 (some .int), Cond.methodLink RX2 232 yX1_told, Cond.instanceMethod yX1_told, Cond.selects RX1 yX1_told yX1_told, Cond.code yX1_told cX1_told 5 (some .int), Cond.methodLink RX1 51 yX1_place, Cond.static yX1_place, Cond.code yX1_place cX1_place 4 (some .int), Cond.methodLink RX2 72 yX2_at, Cond.methodLink RX2 47 yX2_codeOf, Cond.static yX2_codeOf, Cond.code yX2_codeOf cX2_codeOf 2 (some .int), Cond.methodLink RX2 228 yX2_goThrough]
def wsX2_leadGoneInto_r4 : List Cond := [Cond.static yX2_goThrough, Cond.methodLink RX2 264 yX1_keep, Cond.instanceMethod yX1_keep, Cond.selects RX1 yX1_keep yX1_keep, Cond.code yX1_keep cX1_keep 6 none, Cond.static yX2_put, Cond.code yX2_put cX2_put 3 none, Cond.code yX2_goThrough cX2_goThrough 11 (some .int), Cond.fieldLink RX2 249 "BoltTailors$Leads" "colours" "[I", Cond.methodLink RX2 218 yX2_sizeOf, Cond.static yX2_sizeOf, Cond.code yX2_sizeOf cX2_sizeOf 1 (some .int), Cond.methodLink RX2 215 yX2_isFromLeft, Cond.static yX2_isFromLeft, Cond.code yX2_isFromLeft cX2_isFromLeft 1 (some .boolean), Cond.methodLink RX2 245 yX2_pieceStart, Cond.static yX2_pieceStart, Cond.code yX2_pieceStart cX2_pieceStart 3 (some .int), Cond.methodLink RX2 250 yX2_traitsOf, Cond.static yX2_traitsOf, Cond.code yX2_traitsOf cX2_traitsOf 5 (some .int), Cond.methodLink RX2 280 yX2_isFold, Cond.static yX2_isFold, Cond.code yX2_isFold cX2_isFold 4 (some .boolean)]
def wsX2_leadGoneInto_r5 : List Cond := [Cond.methodLink RX2 254 yX2_worthOf, Cond.static yX2_worthOf, Cond.code yX2_worthOf cX2_worthOf 5 (some .int), Cond.methodLink RX2 258 yX2_restStart, Cond.static yX2_restStart, Cond.code yX2_restStart cX2_restStart 2 (some .int), Cond.methodLink RX2 261 yX2_restEnd, Cond.static yX2_restEnd, Cond.code yX2_restEnd cX2_restEnd 2 (some .int)]
def wsX2_leadGoneInto : List Cond := .code yX2_leadGoneInto cX2_leadGoneInto 4 (some .int) :: ((wsX2_leadGoneInto_r1 ++ (wsX2_leadGoneInto_r2 ++ (wsX2_leadGoneInto_r3 ++ (wsX2_leadGoneInto_r4 ++ wsX2_leadGoneInto_r5)))) ++ wsX20 ++ wsX00 ++ wsX10)
def wsX2_lead_r1 : List Cond := [Cond.fieldLink RX2 10 "BoltTailors" "now" "LBoltTailors$Game;", Cond.methodLink RX2 186 yX2_leadTold, Cond.instanceMethod yX2_leadTold, Cond.selects RX2 yX2_leadTold yX2_leadTold, Cond.initialized RX2, Cond.code yX2_leadTold cX2_leadTold 4 (some .int), Cond.fieldLink RX2 33 "BoltTailors" "leadsByRows" "LBoltTailors$Leads;", Cond.fieldLink RX2 156 "BoltTailors$Game" "first" "I", Cond.fieldLink RX2 159 "BoltTailors$Game" "end" "I", Cond.constant RX2 227 (-1000000), Cond.methodLink RX2 224 yX1_fitTo, Cond.instanceMethod yX1_fitTo, Cond.selects RX1 yX1_fitTo yX1_fitTo, Cond.initialized RX1, Cond.code yX1_fitTo cX1_fitTo 2 none, Cond.fieldLink RX1 25 "BoltTailors$Game" "colours" "[I", Cond.fieldLink RX1 9 "BoltTailors$Leads" "colours" "[I", Cond.methodLink RX1 28 arraycopyName, Cond.native arraycopyName, Cond.static arraycopyName, Cond.initialized "java/lang/System", Cond.fieldLink RX1 34 "BoltTailors$Game" "settings" "[I", Cond.fieldLink RX1 15 "BoltTailors$Leads" "settings" "[I", Cond.fieldLink RX1 35 "BoltTailors$Game" "stripes" "I"]
def wsX2_lead_r2 : List Cond := [Cond.fieldLink RX1 39 "BoltTailors$Leads" "stripes" "I", Cond.fieldLink RX1 18 "BoltTailors$Leads" "kept" "[I", Cond.constant RX1 40 (-1000000), Cond.methodLink RX1 21 yX1_isFor, Cond.instanceMethod yX1_isFor, Cond.selects RX1 yX1_isFor yX1_isFor, Cond.code yX1_isFor cX1_isFor 4 (some .boolean), Cond.static yX2_at, Cond.code yX2_at cX2_at 2 (some .int), Cond.methodLink RX1 41 yJ7_fill_53178, Cond.static yJ7_fill_53178, Cond.initialized RJ7, Cond.code yJ7_fill_53178 cJ7_fill_53178 4 none, Cond.methodLink RX2 162 yX0_onTurn, Cond.instanceMethod yX0_onTurn, Cond.selects RX0 yX0_onTurn yX0_onTurn, Cond.initialized RX0, Cond.code yX0_onTurn cX0_onTurn 1 (some .int), Cond.fieldLink RX0 48 "BoltTailors$Game" "cuts" "I", Cond.methodLink RX2 136 yX0_endOfCoat, Cond.instanceMethod yX0_endOfCoat, Cond.selects RX0 yX0_endOfCoat yX0_endOfCoat, Cond.code yX0_endOfCoat cX0_endOfCoat 4 (some .int), Cond.fieldLink RX0 9 "BoltTailors$Game" "colours" "[I"]
def wsX2_lead_r3 : List Cond := [Cond.fieldLink RX0 18 "BoltTailors$Game" "pieceFirst" "[I", Cond.fieldLink RX0 21 "BoltTailors$Game" "pieceSize" "[I", Cond.methodLink RX0 113 yX0_piecesOf, Cond.instanceMethod yX0_piecesOf, Cond.selects RX0 yX0_piecesOf yX0_piecesOf, Cond.code yX0_piecesOf cX0_piecesOf 2 (some .int), Cond.methodLink RX2 232 yX1_told, Cond.instanceMethod yX1_told, Cond.selects RX1 yX1_told yX1_told, Cond.code yX1_told cX1_told 5 (some .int), Cond.methodLink RX1 51 yX1_place, Cond.static yX1_place, Cond.code yX1_place cX1_place 4 (some .int), Cond.methodLink RX2 236 yX2_tellRows, Cond.static yX2_tellRows, Cond.code yX2_tellRows cX2_tellRows 7 none, Cond.fieldLink RX2 240 "BoltTailors$Leads" "settings" "[I", Cond.methodLink RX2 72 yX2_at, Cond.methodLink RX2 47 yX2_codeOf, Cond.static yX2_codeOf, Cond.code yX2_codeOf cX2_codeOf 2 (some .int), Cond.methodLink RX2 241 yX2_raiseRow, Cond.static yX2_raiseRow, Cond.code yX2_raiseRow cX2_raiseRow 14 none]
def wsX2_lead_r4 : List Cond := [Cond.fieldLink RX2 249 "BoltTailors$Leads" "colours" "[I", Cond.methodLink RX2 218 yX2_sizeOf, Cond.static yX2_sizeOf, Cond.code yX2_sizeOf cX2_sizeOf 1 (some .int), Cond.methodLink RX2 215 yX2_isFromLeft, Cond.static yX2_isFromLeft, Cond.code yX2_isFromLeft cX2_isFromLeft 1 (some .boolean), Cond.methodLink RX2 245 yX2_pieceStart, Cond.static yX2_pieceStart, Cond.code yX2_pieceStart cX2_pieceStart 3 (some .int), Cond.methodLink RX2 250 yX2_traitsOf, Cond.static yX2_traitsOf, Cond.code yX2_traitsOf cX2_traitsOf 5 (some .int), Cond.methodLink RX2 280 yX2_isFold, Cond.static yX2_isFold, Cond.code yX2_isFold cX2_isFold 4 (some .boolean), Cond.methodLink RX2 254 yX2_worthOf, Cond.static yX2_worthOf, Cond.code yX2_worthOf cX2_worthOf 5 (some .int), Cond.methodLink RX2 258 yX2_restStart, Cond.static yX2_restStart, Cond.code yX2_restStart cX2_restStart 2 (some .int), Cond.methodLink RX2 261 yX2_restEnd, Cond.static yX2_restEnd]
def wsX2_lead_r5 : List Cond := [Cond.code yX2_restEnd cX2_restEnd 2 (some .int), Cond.methodLink RX2 264 yX1_keep, Cond.instanceMethod yX1_keep, Cond.selects RX1 yX1_keep yX1_keep, Cond.code yX1_keep cX1_keep 6 none, Cond.static yX2_put, Cond.code yX2_put cX2_put 3 none, Cond.methodLink RX2 190 yX2_leadGoneInto, Cond.instanceMethod yX2_leadGoneInto, Cond.selects RX2 yX2_leadGoneInto yX2_leadGoneInto, Cond.code yX2_leadGoneInto cX2_leadGoneInto 4 (some .int), Cond.fieldLink RX2 37 "BoltTailors" "leadsByCuts" "LBoltTailors$Leads;", Cond.methodLink RX2 268 yX2_goInto, Cond.static yX2_goInto, Cond.code yX2_goInto cX2_goInto 9 (some .int), Cond.methodLink RX2 272 Lib.Math.min.name, Cond.static Lib.Math.min.name, Cond.initialized "java/lang/Math", Cond.code Lib.Math.min.name Lib.Math.min.code 2 (some .int), Cond.methodLink RX2 277 Lib.Math.max.name, Cond.static Lib.Math.max.name, Cond.code Lib.Math.max.name Lib.Math.max.code 2 (some .int), Cond.methodLink RX2 228 yX2_goThrough, Cond.static yX2_goThrough]
def wsX2_lead_r6 : List Cond := [Cond.code yX2_goThrough cX2_goThrough 11 (some .int)]
def wsX2_lead : List Cond := .code yX2_lead cX2_lead 2 (some .int) :: ((wsX2_lead_r1 ++ (wsX2_lead_r2 ++ (wsX2_lead_r3 ++ (wsX2_lead_r4 ++ (wsX2_lead_r5 ++ wsX2_lead_r6))))) ++ wsX20 ++ wsX00 ++ wsX10)
def wsX2_leadOfCut_r1 : List Cond := [Cond.fieldLink RX2 37 "BoltTailors" "leadsByCuts" "LBoltTailors$Leads;", Cond.fieldLink RX2 156 "BoltTailors$Game" "first" "I", Cond.fieldLink RX2 159 "BoltTailors$Game" "end" "I", Cond.methodLink RX2 224 yX1_fitTo, Cond.instanceMethod yX1_fitTo, Cond.selects RX1 yX1_fitTo yX1_fitTo, Cond.initialized RX1, Cond.code yX1_fitTo cX1_fitTo 2 none, Cond.fieldLink RX1 25 "BoltTailors$Game" "colours" "[I", Cond.fieldLink RX1 9 "BoltTailors$Leads" "colours" "[I", Cond.methodLink RX1 28 arraycopyName, Cond.native arraycopyName, Cond.static arraycopyName, Cond.initialized "java/lang/System", Cond.fieldLink RX1 34 "BoltTailors$Game" "settings" "[I", Cond.fieldLink RX1 15 "BoltTailors$Leads" "settings" "[I", Cond.fieldLink RX1 35 "BoltTailors$Game" "stripes" "I", Cond.fieldLink RX1 39 "BoltTailors$Leads" "stripes" "I", Cond.fieldLink RX1 18 "BoltTailors$Leads" "kept" "[I", Cond.constant RX1 40 (-1000000), Cond.methodLink RX1 21 yX1_isFor, Cond.instanceMethod yX1_isFor, Cond.selects RX1 yX1_isFor yX1_isFor, Cond.code yX1_isFor cX1_isFor 4 (some .boolean)]
def wsX2_leadOfCut_r2 : List Cond := [Cond.static yX2_at, Cond.initialized RX2, Cond.code yX2_at cX2_at 2 (some .int), Cond.methodLink RX1 41 yJ7_fill_53178, Cond.static yJ7_fill_53178, Cond.initialized RJ7, Cond.code yJ7_fill_53178 cJ7_fill_53178 4 none, Cond.methodLink RX2 162 yX0_onTurn, Cond.instanceMethod yX0_onTurn, Cond.selects RX0 yX0_onTurn yX0_onTurn, Cond.initialized RX0, Cond.code yX0_onTurn cX0_onTurn 1 (some .int), Cond.fieldLink RX0 48 "BoltTailors$Game" "cuts" "I", Cond.methodLink RX2 136 yX0_endOfCoat, Cond.instanceMethod yX0_endOfCoat, Cond.selects RX0 yX0_endOfCoat yX0_endOfCoat, Cond.code yX0_endOfCoat cX0_endOfCoat 4 (some .int), Cond.fieldLink RX0 9 "BoltTailors$Game" "colours" "[I", Cond.fieldLink RX0 18 "BoltTailors$Game" "pieceFirst" "[I", Cond.fieldLink RX0 21 "BoltTailors$Game" "pieceSize" "[I", Cond.methodLink RX0 113 yX0_piecesOf, Cond.instanceMethod yX0_piecesOf, Cond.selects RX0 yX0_piecesOf yX0_piecesOf, Cond.code yX0_piecesOf cX0_piecesOf 2 (some .int)]
def wsX2_leadOfCut_r3 : List Cond := [Cond.methodLink RX2 228 yX2_goThrough, Cond.static yX2_goThrough, Cond.code yX2_goThrough cX2_goThrough 11 (some .int), Cond.fieldLink RX2 249 "BoltTailors$Leads" "colours" "[I", Cond.fieldLink RX2 240 "BoltTailors$Leads" "settings" "[I", Cond.methodLink RX2 218 yX2_sizeOf, Cond.static yX2_sizeOf, Cond.code yX2_sizeOf cX2_sizeOf 1 (some .int), Cond.methodLink RX2 215 yX2_isFromLeft, Cond.static yX2_isFromLeft, Cond.code yX2_isFromLeft cX2_isFromLeft 1 (some .boolean), Cond.methodLink RX2 245 yX2_pieceStart, Cond.static yX2_pieceStart, Cond.code yX2_pieceStart cX2_pieceStart 3 (some .int), Cond.methodLink RX2 250 yX2_traitsOf, Cond.static yX2_traitsOf, Cond.code yX2_traitsOf cX2_traitsOf 5 (some .int), Cond.methodLink RX2 72 yX2_at, Cond.methodLink RX2 280 yX2_isFold, Cond.static yX2_isFold, Cond.code yX2_isFold cX2_isFold 4 (some .boolean), Cond.methodLink RX2 254 yX2_worthOf, Cond.static yX2_worthOf, Cond.code yX2_worthOf cX2_worthOf 5 (some .int)]
def wsX2_leadOfCut_r4 : List Cond := [Cond.methodLink RX2 258 yX2_restStart, Cond.static yX2_restStart, Cond.code yX2_restStart cX2_restStart 2 (some .int), Cond.methodLink RX2 261 yX2_restEnd, Cond.static yX2_restEnd, Cond.code yX2_restEnd cX2_restEnd 2 (some .int), Cond.methodLink RX2 268 yX2_goInto, Cond.static yX2_goInto, Cond.code yX2_goInto cX2_goInto 9 (some .int), Cond.constant RX2 227 (-1000000), Cond.methodLink RX2 272 Lib.Math.min.name, Cond.static Lib.Math.min.name, Cond.initialized "java/lang/Math", Cond.code Lib.Math.min.name Lib.Math.min.code 2 (some .int), Cond.methodLink RX2 277 Lib.Math.max.name, Cond.static Lib.Math.max.name, Cond.code Lib.Math.max.name Lib.Math.max.code 2 (some .int), Cond.methodLink RX2 232 yX1_told, Cond.instanceMethod yX1_told, Cond.selects RX1 yX1_told yX1_told, Cond.code yX1_told cX1_told 5 (some .int), Cond.methodLink RX1 51 yX1_place, Cond.static yX1_place, Cond.code yX1_place cX1_place 4 (some .int)]
def wsX2_leadOfCut_r5 : List Cond := [Cond.methodLink RX2 47 yX2_codeOf, Cond.static yX2_codeOf, Cond.code yX2_codeOf cX2_codeOf 2 (some .int), Cond.methodLink RX2 264 yX1_keep, Cond.instanceMethod yX1_keep, Cond.selects RX1 yX1_keep yX1_keep, Cond.code yX1_keep cX1_keep 6 none, Cond.static yX2_put, Cond.code yX2_put cX2_put 3 none]
def wsX2_leadOfCut : List Cond := .code yX2_leadOfCut cX2_leadOfCut 5 (some .int) :: ((wsX2_leadOfCut_r1 ++ (wsX2_leadOfCut_r2 ++ (wsX2_leadOfCut_r3 ++ (wsX2_leadOfCut_r4 ++ wsX2_leadOfCut_r5)))) ++ wsX20 ++ wsX00 ++ wsX10)
def wsX2_leadWith_r1 : List Cond := [Cond.fieldLink RX2 10 "BoltTailors" "now" "LBoltTailors$Game;", Cond.methodLink RX2 40 yX2_errorOfCut, Cond.instanceMethod yX2_errorOfCut, Cond.selects RX2 yX2_errorOfCut yX2_errorOfCut, Cond.initialized RX2, Cond.code yX2_errorOfCut cX2_errorOfCut 2 (some .int), Cond.methodLink RX2 221 yX0_longestCut, Cond.instanceMethod yX0_longestCut, Cond.selects RX0 yX0_longestCut yX0_longestCut, Cond.initialized RX0, Cond.code yX0_longestCut cX0_longestCut 1 (some .int), Cond.fieldLink RX0 15 "BoltTailors$Game" "settings" "[I", Cond.methodLink RX0 75 Lib.Math.min.name, Cond.static Lib.Math.min.name, Cond.initialized "java/lang/Math", Cond.code Lib.Math.min.name Lib.Math.min.code 2 (some .int), Cond.static yX2_at, Cond.code yX2_at cX2_at 2 (some .int), Cond.methodLink RX0 72 yX0_remaining, Cond.instanceMethod yX0_remaining, Cond.selects RX0 yX0_remaining yX0_remaining, Cond.code yX0_remaining cX0_remaining 1 (some .int), Cond.fieldLink RX0 45 "BoltTailors$Game" "end" "I", Cond.fieldLink RX0 42 "BoltTailors$Game" "first" "I"]
def wsX2_leadWith_r2 : List Cond := [Cond.methodLink RX2 47 yX2_codeOf, Cond.static yX2_codeOf, Cond.code yX2_codeOf cX2_codeOf 2 (some .int), Cond.methodLink RX2 193 yX2_leadOfCut, Cond.instanceMethod yX2_leadOfCut, Cond.selects RX2 yX2_leadOfCut yX2_leadOfCut, Cond.code yX2_leadOfCut cX2_leadOfCut 5 (some .int), Cond.fieldLink RX2 37 "BoltTailors" "leadsByCuts" "LBoltTailors$Leads;", Cond.fieldLink RX2 156 "BoltTailors$Game" "first" "I", Cond.fieldLink RX2 159 "BoltTailors$Game" "end" "I", Cond.methodLink RX2 224 yX1_fitTo, Cond.instanceMethod yX1_fitTo, Cond.selects RX1 yX1_fitTo yX1_fitTo, Cond.initialized RX1, Cond.code yX1_fitTo cX1_fitTo 2 none, Cond.fieldLink RX1 25 "BoltTailors$Game" "colours" "[I", Cond.fieldLink RX1 9 "BoltTailors$Leads" "colours" "[I", Cond.methodLink RX1 28 arraycopyName, Cond.native arraycopyName, Cond.static arraycopyName, Cond.initialized "java/lang/System", Cond.fieldLink RX1 34 "BoltTailors$Game" "settings" "[I", Cond.fieldLink RX1 15 "BoltTailors$Leads" "settings" "[I", Cond.fieldLink RX1 35 "BoltTailors$Game" "stripes" "I"]
def wsX2_leadWith_r3 : List Cond := [Cond.fieldLink RX1 39 "BoltTailors$Leads" "stripes" "I", Cond.fieldLink RX1 18 "BoltTailors$Leads" "kept" "[I", Cond.constant RX1 40 (-1000000), Cond.methodLink RX1 21 yX1_isFor, Cond.instanceMethod yX1_isFor, Cond.selects RX1 yX1_isFor yX1_isFor, Cond.code yX1_isFor cX1_isFor 4 (some .boolean), Cond.methodLink RX1 41 yJ7_fill_53178, Cond.static yJ7_fill_53178, Cond.initialized RJ7, Cond.code yJ7_fill_53178 cJ7_fill_53178 4 none, Cond.methodLink RX2 162 yX0_onTurn, Cond.instanceMethod yX0_onTurn, Cond.selects RX0 yX0_onTurn yX0_onTurn, Cond.code yX0_onTurn cX0_onTurn 1 (some .int), Cond.fieldLink RX0 48 "BoltTailors$Game" "cuts" "I", Cond.methodLink RX2 136 yX0_endOfCoat, Cond.instanceMethod yX0_endOfCoat, Cond.selects RX0 yX0_endOfCoat yX0_endOfCoat, Cond.code yX0_endOfCoat cX0_endOfCoat 4 (some .int), Cond.fieldLink RX0 9 "BoltTailors$Game" "colours" "[I", Cond.fieldLink RX0 18 "BoltTailors$Game" "pieceFirst" "[I", Cond.fieldLink RX0 21 "BoltTailors$Game" "pieceSize" "[I", Cond.methodLink RX0 113 yX0_piecesOf]
def wsX2_leadWith_r4 : List Cond := [Cond.instanceMethod yX0_piecesOf, Cond.selects RX0 yX0_piecesOf yX0_piecesOf, Cond.code yX0_piecesOf cX0_piecesOf 2 (some .int), Cond.methodLink RX2 228 yX2_goThrough, Cond.static yX2_goThrough, Cond.code yX2_goThrough cX2_goThrough 11 (some .int), Cond.fieldLink RX2 249 "BoltTailors$Leads" "colours" "[I", Cond.fieldLink RX2 240 "BoltTailors$Leads" "settings" "[I", Cond.methodLink RX2 218 yX2_sizeOf, Cond.static yX2_sizeOf, Cond.code yX2_sizeOf cX2_sizeOf 1 (some .int), Cond.methodLink RX2 215 yX2_isFromLeft, Cond.static yX2_isFromLeft, Cond.code yX2_isFromLeft cX2_isFromLeft 1 (some .boolean), Cond.methodLink RX2 245 yX2_pieceStart, Cond.static yX2_pieceStart, Cond.code yX2_pieceStart cX2_pieceStart 3 (some .int), Cond.methodLink RX2 250 yX2_traitsOf, Cond.static yX2_traitsOf, Cond.code yX2_traitsOf cX2_traitsOf 5 (some .int), Cond.methodLink RX2 72 yX2_at, Cond.methodLink RX2 280 yX2_isFold, Cond.static yX2_isFold, Cond.code yX2_isFold cX2_isFold 4 (some .boolean)]
def wsX2_leadWith_r5 : List Cond := [Cond.methodLink RX2 254 yX2_worthOf, Cond.static yX2_worthOf, Cond.code yX2_worthOf cX2_worthOf 5 (some .int), Cond.methodLink RX2 258 yX2_restStart, Cond.static yX2_restStart, Cond.code yX2_restStart cX2_restStart 2 (some .int), Cond.methodLink RX2 261 yX2_restEnd, Cond.static yX2_restEnd, Cond.code yX2_restEnd cX2_restEnd 2 (some .int), Cond.methodLink RX2 268 yX2_goInto, Cond.static yX2_goInto, Cond.code yX2_goInto cX2_goInto 9 (some .int), Cond.constant RX2 227 (-1000000), Cond.methodLink RX2 272 Lib.Math.min.name, Cond.methodLink RX2 277 Lib.Math.max.name, Cond.static Lib.Math.max.name, Cond.code Lib.Math.max.name Lib.Math.max.code 2 (some .int), Cond.methodLink RX2 232 yX1_told, Cond.instanceMethod yX1_told, Cond.selects RX1 yX1_told yX1_told, Cond.code yX1_told cX1_told 5 (some .int), Cond.methodLink RX1 51 yX1_place, Cond.static yX1_place, Cond.code yX1_place cX1_place 4 (some .int)]
def wsX2_leadWith_r6 : List Cond := [Cond.methodLink RX2 264 yX1_keep, Cond.instanceMethod yX1_keep, Cond.selects RX1 yX1_keep yX1_keep, Cond.code yX1_keep cX1_keep 6 none, Cond.static yX2_put, Cond.code yX2_put cX2_put 3 none]
def wsX2_leadWith : List Cond := .code yX2_leadWith cX2_leadWith 4 (some .int) :: ((wsX2_leadWith_r1 ++ (wsX2_leadWith_r2 ++ (wsX2_leadWith_r3 ++ (wsX2_leadWith_r4 ++ (wsX2_leadWith_r5 ++ wsX2_leadWith_r6))))) ++ wsX20 ++ wsX00 ++ wsX10)
def wsX2_bestCut_r1 : List Cond := [Cond.fieldLink RX2 10 "BoltTailors" "now" "LBoltTailors$Game;", Cond.methodLink RX2 197 yX2_choice, Cond.instanceMethod yX2_choice, Cond.selects RX2 yX2_choice yX2_choice, Cond.initialized RX2, Cond.code yX2_choice cX2_choice 12 (some .int), Cond.fieldLink RX2 37 "BoltTailors" "leadsByCuts" "LBoltTailors$Leads;", Cond.constant RX2 227 (-1000000), Cond.fieldLink RX2 156 "BoltTailors$Game" "first" "I", Cond.fieldLink RX2 159 "BoltTailors$Game" "end" "I", Cond.methodLink RX2 224 yX1_fitTo, Cond.instanceMethod yX1_fitTo, Cond.selects RX1 yX1_fitTo yX1_fitTo, Cond.initialized RX1, Cond.code yX1_fitTo cX1_fitTo 2 none, Cond.fieldLink RX1 25 "BoltTailors$Game" "colours" "[I", Cond.fieldLink RX1 9 "BoltTailors$Leads" "colours" "[I", Cond.methodLink RX1 28 arraycopyName, Cond.native arraycopyName, Cond.static arraycopyName, Cond.initialized "java/lang/System", Cond.fieldLink RX1 34 "BoltTailors$Game" "settings" "[I", Cond.fieldLink RX1 15 "BoltTailors$Leads" "settings" "[I", Cond.fieldLink RX1 35 "BoltTailors$Game" "stripes" "I"]
def wsX2_bestCut_r2 : List Cond := [Cond.fieldLink RX1 39 "BoltTailors$Leads" "stripes" "I", Cond.fieldLink RX1 18 "BoltTailors$Leads" "kept" "[I", Cond.constant RX1 40 (-1000000), Cond.methodLink RX1 21 yX1_isFor, Cond.instanceMethod yX1_isFor, Cond.selects RX1 yX1_isFor yX1_isFor, Cond.code yX1_isFor cX1_isFor 4 (some .boolean), Cond.static yX2_at, Cond.code yX2_at cX2_at 2 (some .int), Cond.methodLink RX1 41 yJ7_fill_53178, Cond.static yJ7_fill_53178, Cond.initialized RJ7, Cond.code yJ7_fill_53178 cJ7_fill_53178 4 none, Cond.methodLink RX2 162 yX0_onTurn, Cond.instanceMethod yX0_onTurn, Cond.selects RX0 yX0_onTurn yX0_onTurn, Cond.initialized RX0, Cond.code yX0_onTurn cX0_onTurn 1 (some .int), Cond.fieldLink RX0 48 "BoltTailors$Game" "cuts" "I", Cond.methodLink RX2 136 yX0_endOfCoat, Cond.instanceMethod yX0_endOfCoat, Cond.selects RX0 yX0_endOfCoat yX0_endOfCoat, Cond.code yX0_endOfCoat cX0_endOfCoat 4 (some .int), Cond.fieldLink RX0 9 "BoltTailors$Game" "colours" "[I"]
def wsX2_bestCut_r3 : List Cond := [Cond.fieldLink RX0 18 "BoltTailors$Game" "pieceFirst" "[I", Cond.fieldLink RX0 21 "BoltTailors$Game" "pieceSize" "[I", Cond.methodLink RX0 113 yX0_piecesOf, Cond.instanceMethod yX0_piecesOf, Cond.selects RX0 yX0_piecesOf yX0_piecesOf, Cond.code yX0_piecesOf cX0_piecesOf 2 (some .int), Cond.methodLink RX2 221 yX0_longestCut, Cond.instanceMethod yX0_longestCut, Cond.selects RX0 yX0_longestCut yX0_longestCut, Cond.code yX0_longestCut cX0_longestCut 1 (some .int), Cond.fieldLink RX0 15 "BoltTailors$Game" "settings" "[I", Cond.methodLink RX0 75 Lib.Math.min.name, Cond.static Lib.Math.min.name, Cond.initialized "java/lang/Math", Cond.code Lib.Math.min.name Lib.Math.min.code 2 (some .int), Cond.methodLink RX0 72 yX0_remaining, Cond.instanceMethod yX0_remaining, Cond.selects RX0 yX0_remaining yX0_remaining, Cond.code yX0_remaining cX0_remaining 1 (some .int), Cond.fieldLink RX0 45 "BoltTailors$Game" "end" "I", Cond.fieldLink RX0 42 "BoltTailors$Game" "first" "I", Cond.methodLink RX2 47 yX2_codeOf, Cond.static yX2_codeOf, Cond.code yX2_codeOf cX2_codeOf 2 (some .int)]
def wsX2_bestCut_r4 : List Cond := [Cond.methodLink RX2 183 yX0_worthOfCut, Cond.instanceMethod yX0_worthOfCut, Cond.selects RX0 yX0_worthOfCut yX0_worthOfCut, Cond.code yX0_worthOfCut cX0_worthOfCut 4 (some .int), Cond.static yX2_sizeOf, Cond.code yX2_sizeOf cX2_sizeOf 1 (some .int), Cond.methodLink RX2 215 yX2_isFromLeft, Cond.static yX2_isFromLeft, Cond.code yX2_isFromLeft cX2_isFromLeft 1 (some .boolean), Cond.static yX2_pieceStart, Cond.code yX2_pieceStart cX2_pieceStart 3 (some .int), Cond.methodLink RX2 218 yX2_sizeOf, Cond.methodLink RX0 89 yX0_onTurn, Cond.methodLink RX0 92 yX0_endOfCoat, Cond.static yX2_traitsOf, Cond.code yX2_traitsOf cX2_traitsOf 5 (some .int), Cond.methodLink RX2 72 yX2_at, Cond.methodLink RX2 280 yX2_isFold, Cond.static yX2_isFold, Cond.code yX2_isFold cX2_isFold 4 (some .boolean), Cond.static yX2_worthOf, Cond.code yX2_worthOf cX2_worthOf 5 (some .int), Cond.methodLink RX2 228 yX2_goThrough, Cond.static yX2_goThrough]
def wsX2_bestCut_r5 : List Cond := [Cond.code yX2_goThrough cX2_goThrough 11 (some .int), Cond.fieldLink RX2 249 "BoltTailors$Leads" "colours" "[I", Cond.fieldLink RX2 240 "BoltTailors$Leads" "settings" "[I", Cond.methodLink RX2 245 yX2_pieceStart, Cond.methodLink RX2 250 yX2_traitsOf, Cond.methodLink RX2 254 yX2_worthOf, Cond.methodLink RX2 258 yX2_restStart, Cond.static yX2_restStart, Cond.code yX2_restStart cX2_restStart 2 (some .int), Cond.methodLink RX2 261 yX2_restEnd, Cond.static yX2_restEnd, Cond.code yX2_restEnd cX2_restEnd 2 (some .int), Cond.methodLink RX2 268 yX2_goInto, Cond.static yX2_goInto, Cond.code yX2_goInto cX2_goInto 9 (some .int), Cond.methodLink RX2 272 Lib.Math.min.name, Cond.methodLink RX2 277 Lib.Math.max.name, Cond.static Lib.Math.max.name, Cond.code Lib.Math.max.name Lib.Math.max.code 2 (some .int), Cond.methodLink RX2 232 yX1_told, Cond.instanceMethod yX1_told, Cond.selects RX1 yX1_told yX1_told, Cond.code yX1_told cX1_told 5 (some .int), Cond.methodLink RX1 51 yX1_place]
def wsX2_bestCut_r6 : List Cond := [Cond.static yX1_place, Cond.code yX1_place cX1_place 4 (some .int), Cond.methodLink RX2 264 yX1_keep, Cond.instanceMethod yX1_keep, Cond.selects RX1 yX1_keep yX1_keep, Cond.code yX1_keep cX1_keep 6 none, Cond.static yX2_put, Cond.code yX2_put cX2_put 3 none]
def wsX2_bestCut : List Cond := .code yX2_bestCut cX2_bestCut 1 (some .int) :: ((wsX2_bestCut_r1 ++ (wsX2_bestCut_r2 ++ (wsX2_bestCut_r3 ++ (wsX2_bestCut_r4 ++ (wsX2_bestCut_r5 ++ wsX2_bestCut_r6))))) ++ wsX20 ++ wsX00 ++ wsX10)
def wsX2_ended_r1 : List Cond := [Cond.fieldLink RX2 16 "BoltTailors" "trial" "LBoltTailors$Game;", Cond.fieldLink RX2 10 "BoltTailors" "now" "LBoltTailors$Game;", Cond.fieldLink RX2 165 "BoltTailors$Game" "cuts" "I", Cond.fieldLink RX2 124 "BoltTailors$Game" "pieceWorth" "[I", Cond.methodLink RX2 200 yX0_copyFrom, Cond.instanceMethod yX0_copyFrom, Cond.selects RX0 yX0_copyFrom yX0_copyFrom, Cond.initialized RX0, Cond.code yX0_copyFrom cX0_copyFrom 2 none, Cond.fieldLink RX0 9 "BoltTailors$Game" "colours" "[I", Cond.methodLink RX0 66 arraycopyName, Cond.native arraycopyName, Cond.static arraycopyName, Cond.initialized "java/lang/System", Cond.fieldLink RX0 15 "BoltTailors$Game" "settings" "[I", Cond.fieldLink RX0 18 "BoltTailors$Game" "pieceFirst" "[I", Cond.fieldLink RX0 21 "BoltTailors$Game" "pieceSize" "[I", Cond.fieldLink RX0 24 "BoltTailors$Game" "pieceWorth" "[I", Cond.fieldLink RX0 27 "BoltTailors$Game" "pieceTraits" "[I", Cond.fieldLink RX0 38 "BoltTailors$Game" "stripes" "I", Cond.fieldLink RX0 42 "BoltTailors$Game" "first" "I", Cond.fieldLink RX0 45 "BoltTailors$Game" "end" "I", Cond.fieldLink RX0 48 "BoltTailors$Game" "cuts" "I", Cond.methodLink RX2 149 yX0_isOver]
def wsX2_ended_r2 : List Cond := [Cond.instanceMethod yX0_isOver, Cond.selects RX0 yX0_isOver yX0_isOver, Cond.code yX0_isOver cX0_isOver 1 (some .boolean), Cond.methodLink RX2 162 yX0_onTurn, Cond.instanceMethod yX0_onTurn, Cond.selects RX0 yX0_onTurn yX0_onTurn, Cond.code yX0_onTurn cX0_onTurn 1 (some .int), Cond.methodLink RX2 197 yX2_choice, Cond.instanceMethod yX2_choice, Cond.selects RX2 yX2_choice yX2_choice, Cond.initialized RX2, Cond.code yX2_choice cX2_choice 12 (some .int), Cond.fieldLink RX2 37 "BoltTailors" "leadsByCuts" "LBoltTailors$Leads;", Cond.constant RX2 227 (-1000000), Cond.fieldLink RX2 156 "BoltTailors$Game" "first" "I", Cond.fieldLink RX2 159 "BoltTailors$Game" "end" "I", Cond.methodLink RX2 224 yX1_fitTo, Cond.instanceMethod yX1_fitTo, Cond.selects RX1 yX1_fitTo yX1_fitTo, Cond.initialized RX1, Cond.code yX1_fitTo cX1_fitTo 2 none, Cond.fieldLink RX1 25 "BoltTailors$Game" "colours" "[I", Cond.fieldLink RX1 9 "BoltTailors$Leads" "colours" "[I", Cond.methodLink RX1 28 arraycopyName]
def wsX2_ended_r3 : List Cond := [Cond.fieldLink RX1 34 "BoltTailors$Game" "settings" "[I", Cond.fieldLink RX1 15 "BoltTailors$Leads" "settings" "[I", Cond.fieldLink RX1 35 "BoltTailors$Game" "stripes" "I", Cond.fieldLink RX1 39 "BoltTailors$Leads" "stripes" "I", Cond.fieldLink RX1 18 "BoltTailors$Leads" "kept" "[I", Cond.constant RX1 40 (-1000000), Cond.methodLink RX1 21 yX1_isFor, Cond.instanceMethod yX1_isFor, Cond.selects RX1 yX1_isFor yX1_isFor, Cond.code yX1_isFor cX1_isFor 4 (some .boolean), Cond.static yX2_at, Cond.code yX2_at cX2_at 2 (some .int), Cond.methodLink RX1 41 yJ7_fill_53178, Cond.static yJ7_fill_53178, Cond.initialized RJ7, Cond.code yJ7_fill_53178 cJ7_fill_53178 4 none, Cond.methodLink RX2 136 yX0_endOfCoat, Cond.instanceMethod yX0_endOfCoat, Cond.selects RX0 yX0_endOfCoat yX0_endOfCoat, Cond.code yX0_endOfCoat cX0_endOfCoat 4 (some .int), Cond.methodLink RX0 113 yX0_piecesOf, Cond.instanceMethod yX0_piecesOf, Cond.selects RX0 yX0_piecesOf yX0_piecesOf, Cond.code yX0_piecesOf cX0_piecesOf 2 (some .int)]
def wsX2_ended_r4 : List Cond := [Cond.methodLink RX2 221 yX0_longestCut, Cond.instanceMethod yX0_longestCut, Cond.selects RX0 yX0_longestCut yX0_longestCut, Cond.code yX0_longestCut cX0_longestCut 1 (some .int), Cond.methodLink RX0 75 Lib.Math.min.name, Cond.static Lib.Math.min.name, Cond.initialized "java/lang/Math", Cond.code Lib.Math.min.name Lib.Math.min.code 2 (some .int), Cond.methodLink RX0 72 yX0_remaining, Cond.instanceMethod yX0_remaining, Cond.selects RX0 yX0_remaining yX0_remaining, Cond.code yX0_remaining cX0_remaining 1 (some .int), Cond.methodLink RX2 47 yX2_codeOf, Cond.static yX2_codeOf, Cond.code yX2_codeOf cX2_codeOf 2 (some .int), Cond.methodLink RX2 183 yX0_worthOfCut, Cond.instanceMethod yX0_worthOfCut, Cond.selects RX0 yX0_worthOfCut yX0_worthOfCut, Cond.code yX0_worthOfCut cX0_worthOfCut 4 (some .int), Cond.static yX2_sizeOf, Cond.code yX2_sizeOf cX2_sizeOf 1 (some .int), Cond.methodLink RX2 215 yX2_isFromLeft, Cond.static yX2_isFromLeft, Cond.code yX2_isFromLeft cX2_isFromLeft 1 (some .boolean)]
def wsX2_ended_r5 : List Cond := [Cond.static yX2_pieceStart, Cond.code yX2_pieceStart cX2_pieceStart 3 (some .int), Cond.methodLink RX2 218 yX2_sizeOf, Cond.methodLink RX0 89 yX0_onTurn, Cond.methodLink RX0 92 yX0_endOfCoat, Cond.static yX2_traitsOf, Cond.code yX2_traitsOf cX2_traitsOf 5 (some .int), Cond.methodLink RX2 72 yX2_at, Cond.methodLink RX2 280 yX2_isFold, Cond.static yX2_isFold, Cond.code yX2_isFold cX2_isFold 4 (some .boolean), Cond.static yX2_worthOf, Cond.code yX2_worthOf cX2_worthOf 5 (some .int), Cond.methodLink RX2 228 yX2_goThrough, Cond.static yX2_goThrough, Cond.code yX2_goThrough cX2_goThrough 11 (some .int), Cond.fieldLink RX2 249 "BoltTailors$Leads" "colours" "[I", Cond.fieldLink RX2 240 "BoltTailors$Leads" "settings" "[I", Cond.methodLink RX2 245 yX2_pieceStart, Cond.methodLink RX2 250 yX2_traitsOf, Cond.methodLink RX2 254 yX2_worthOf, Cond.methodLink RX2 258 yX2_restStart, Cond.static yX2_restStart, Cond.code yX2_restStart cX2_restStart 2 (some .int)]
def wsX2_ended_r6 : List Cond := [Cond.methodLink RX2 261 yX2_restEnd, Cond.static yX2_restEnd, Cond.code yX2_restEnd cX2_restEnd 2 (some .int), Cond.methodLink RX2 268 yX2_goInto, Cond.static yX2_goInto, Cond.code yX2_goInto cX2_goInto 9 (some .int), Cond.methodLink RX2 272 Lib.Math.min.name, Cond.methodLink RX2 277 Lib.Math.max.name, Cond.static Lib.Math.max.name, Cond.code Lib.Math.max.name Lib.Math.max.code 2 (some .int), Cond.methodLink RX2 232 yX1_told, Cond.instanceMethod yX1_told, Cond.selects RX1 yX1_told yX1_told, Cond.code yX1_told cX1_told 5 (some .int), Cond.methodLink RX1 51 yX1_place, Cond.static yX1_place, Cond.code yX1_place cX1_place 4 (some .int), Cond.methodLink RX2 264 yX1_keep, Cond.instanceMethod yX1_keep, Cond.selects RX1 yX1_keep yX1_keep, Cond.code yX1_keep cX1_keep 6 none, Cond.static yX2_put, Cond.code yX2_put cX2_put 3 none, Cond.methodLink RX2 51 yX0_sew]
def wsX2_ended_r7 : List Cond := [Cond.instanceMethod yX0_sew, Cond.selects RX0 yX0_sew yX0_sew, Cond.code yX0_sew cX0_sew 6 (some .int), Cond.methodLink RX2 127 yX0_sumOfCoat, Cond.instanceMethod yX0_sumOfCoat, Cond.selects RX0 yX0_sumOfCoat yX0_sumOfCoat, Cond.code yX0_sumOfCoat cX0_sumOfCoat 5 (some .int)]
def wsX2_ended : List Cond := .code yX2_ended cX2_ended 5 (some .int) :: ((wsX2_ended_r1 ++ (wsX2_ended_r2 ++ (wsX2_ended_r3 ++ (wsX2_ended_r4 ++ (wsX2_ended_r5 ++ (wsX2_ended_r6 ++ wsX2_ended_r7)))))) ++ wsX20 ++ wsX00 ++ wsX10)
def wsX2_rate : List Cond := .code yX2_rate cX2_rate 3 (some .double) :: ([.fieldLink RX2 10 "BoltTailors" "now" "LBoltTailors$Game;", .fieldLink RX2 133 "BoltTailors$Game" "pieceSize" "[I", .fieldLink RX2 124 "BoltTailors$Game" "pieceWorth" "[I", .methodLink RX2 127 yX0_sumOfCoat, .instanceMethod yX0_sumOfCoat, .selects RX0 yX0_sumOfCoat yX0_sumOfCoat, .initialized RX0, .code yX0_sumOfCoat cX0_sumOfCoat 5 (some .int), .fieldLink RX0 48 "BoltTailors$Game" "cuts" "I", .static yX2_at, .initialized RX2, .code yX2_at cX2_at 2 (some .int)] ++ wsX20 ++ wsX00)
def wsX2_undo_r1 : List Cond := [Cond.fieldLink RX2 177 "BoltTailors" "states" "I", Cond.fieldLink RX2 10 "BoltTailors" "now" "LBoltTailors$Game;", Cond.methodLink RX2 204 yX2_pastAt, Cond.instanceMethod yX2_pastAt, Cond.selects RX2 yX2_pastAt yX2_pastAt, Cond.initialized RX2, Cond.code yX2_pastAt cX2_pastAt 2 (some (.object "BoltTailors$Game")), Cond.fieldLink RX2 22 "BoltTailors" "past" "[LBoltTailors$Game;", Cond.methodLink RX2 200 yX0_copyFrom, Cond.instanceMethod yX0_copyFrom, Cond.selects RX0 yX0_copyFrom yX0_copyFrom, Cond.initialized RX0, Cond.code yX0_copyFrom cX0_copyFrom 2 none, Cond.fieldLink RX0 9 "BoltTailors$Game" "colours" "[I", Cond.methodLink RX0 66 arraycopyName, Cond.native arraycopyName, Cond.static arraycopyName, Cond.initialized "java/lang/System", Cond.fieldLink RX0 15 "BoltTailors$Game" "settings" "[I", Cond.fieldLink RX0 18 "BoltTailors$Game" "pieceFirst" "[I", Cond.fieldLink RX0 21 "BoltTailors$Game" "pieceSize" "[I", Cond.fieldLink RX0 24 "BoltTailors$Game" "pieceWorth" "[I", Cond.fieldLink RX0 27 "BoltTailors$Game" "pieceTraits" "[I", Cond.fieldLink RX0 38 "BoltTailors$Game" "stripes" "I"]
def wsX2_undo_r2 : List Cond := [Cond.fieldLink RX0 42 "BoltTailors$Game" "first" "I", Cond.fieldLink RX0 45 "BoltTailors$Game" "end" "I", Cond.fieldLink RX0 48 "BoltTailors$Game" "cuts" "I"]
def wsX2_undo : List Cond := .code yX2_undo cX2_undo 2 (some .int) :: ((wsX2_undo_r1 ++ wsX2_undo_r2) ++ wsX20 ++ wsX00)
def wsX2_save_r1 : List Cond := [Cond.fieldLink RX2 19 "BoltTailors" "snapshot" "LBoltTailors$Game;", Cond.fieldLink RX2 10 "BoltTailors" "now" "LBoltTailors$Game;", Cond.fieldLink RX2 208 "BoltTailors" "hasSnapshot" "Z", Cond.methodLink RX2 200 yX0_copyFrom, Cond.instanceMethod yX0_copyFrom, Cond.selects RX0 yX0_copyFrom yX0_copyFrom, Cond.initialized RX0, Cond.code yX0_copyFrom cX0_copyFrom 2 none, Cond.fieldLink RX0 9 "BoltTailors$Game" "colours" "[I", Cond.methodLink RX0 66 arraycopyName, Cond.native arraycopyName, Cond.static arraycopyName, Cond.initialized "java/lang/System", Cond.fieldLink RX0 15 "BoltTailors$Game" "settings" "[I", Cond.fieldLink RX0 18 "BoltTailors$Game" "pieceFirst" "[I", Cond.fieldLink RX0 21 "BoltTailors$Game" "pieceSize" "[I", Cond.fieldLink RX0 24 "BoltTailors$Game" "pieceWorth" "[I", Cond.fieldLink RX0 27 "BoltTailors$Game" "pieceTraits" "[I", Cond.fieldLink RX0 38 "BoltTailors$Game" "stripes" "I", Cond.fieldLink RX0 42 "BoltTailors$Game" "first" "I", Cond.fieldLink RX0 45 "BoltTailors$Game" "end" "I", Cond.fieldLink RX0 48 "BoltTailors$Game" "cuts" "I", Cond.methodLink RX2 153 yX0_remaining, Cond.instanceMethod yX0_remaining]
def wsX2_save_r2 : List Cond := [Cond.selects RX0 yX0_remaining yX0_remaining, Cond.code yX0_remaining cX0_remaining 1 (some .int)]
def wsX2_save : List Cond := .code yX2_save cX2_save 1 (some .int) :: ((wsX2_save_r1 ++ wsX2_save_r2) ++ wsX20 ++ wsX00)
def wsX2_restore_r1 : List Cond := [Cond.fieldLink RX2 208 "BoltTailors" "hasSnapshot" "Z", Cond.fieldLink RX2 10 "BoltTailors" "now" "LBoltTailors$Game;", Cond.fieldLink RX2 19 "BoltTailors" "snapshot" "LBoltTailors$Game;", Cond.methodLink RX2 44 yX2_record, Cond.instanceMethod yX2_record, Cond.selects RX2 yX2_record yX2_record, Cond.initialized RX2, Cond.code yX2_record cX2_record 2 none, Cond.fieldLink RX2 177 "BoltTailors" "states" "I", Cond.fieldLink RX2 22 "BoltTailors" "past" "[LBoltTailors$Game;", Cond.methodLink RX2 212 yX2_dropOldest, Cond.instanceMethod yX2_dropOldest, Cond.selects RX2 yX2_dropOldest yX2_dropOldest, Cond.code yX2_dropOldest cX2_dropOldest 3 none, Cond.methodLink RX2 204 yX2_pastAt, Cond.instanceMethod yX2_pastAt, Cond.selects RX2 yX2_pastAt yX2_pastAt, Cond.code yX2_pastAt cX2_pastAt 2 (some (.object "BoltTailors$Game")), Cond.methodLink RX2 200 yX0_copyFrom, Cond.instanceMethod yX0_copyFrom, Cond.selects RX0 yX0_copyFrom yX0_copyFrom, Cond.initialized RX0, Cond.code yX0_copyFrom cX0_copyFrom 2 none, Cond.fieldLink RX0 9 "BoltTailors$Game" "colours" "[I"]
def wsX2_restore_r2 : List Cond := [Cond.methodLink RX0 66 arraycopyName, Cond.native arraycopyName, Cond.static arraycopyName, Cond.initialized "java/lang/System", Cond.fieldLink RX0 15 "BoltTailors$Game" "settings" "[I", Cond.fieldLink RX0 18 "BoltTailors$Game" "pieceFirst" "[I", Cond.fieldLink RX0 21 "BoltTailors$Game" "pieceSize" "[I", Cond.fieldLink RX0 24 "BoltTailors$Game" "pieceWorth" "[I", Cond.fieldLink RX0 27 "BoltTailors$Game" "pieceTraits" "[I", Cond.fieldLink RX0 38 "BoltTailors$Game" "stripes" "I", Cond.fieldLink RX0 42 "BoltTailors$Game" "first" "I", Cond.fieldLink RX0 45 "BoltTailors$Game" "end" "I", Cond.fieldLink RX0 48 "BoltTailors$Game" "cuts" "I", Cond.methodLink RX2 153 yX0_remaining, Cond.instanceMethod yX0_remaining, Cond.selects RX0 yX0_remaining yX0_remaining, Cond.code yX0_remaining cX0_remaining 1 (some .int)]
def wsX2_restore : List Cond := .code yX2_restore cX2_restore 1 (some .int) :: ((wsX2_restore_r1 ++ wsX2_restore_r2) ++ wsX20 ++ wsX00)
def wsX3_beginsAgain : List Cond := .code yX3_beginsAgain cX3_beginsAgain 2 none :: ([.fieldLink RX3 7 "BoltTailorsModel" "s" "[I"] ++ wsX30)
def wsX3_init : List Cond := .code yX3_init cX3_init 2 none :: ([.methodLink RX3 1 objectInit, .instanceMethod objectInit, .code objectInit ⟨#[0xb1]⟩ 1 none, .arrayClass .int, .fieldLink RX3 7 "BoltTailorsModel" "s" "[I", .fieldLink RX3 13 "BoltTailorsModel" "aside" "[I", .fieldLink RX3 16 "BoltTailorsModel" "past" "[I", .fieldLink RX3 19 "BoltTailorsModel" "kept" "[I", .fieldLink RX3 22 "BoltTailorsModel" "pad" "[I", .fieldLink RX3 25 "BoltTailorsModel" "leads" "[I", .methodLink RX3 28 yX3_beginsAgain, .instanceMethod yX3_beginsAgain, .selects RX3 yX3_beginsAgain yX3_beginsAgain, .initialized RX3, .code yX3_beginsAgain cX3_beginsAgain 2 none] ++ wsX30)
def wsX3_in : List Cond := .code yX3_in cX3_in 3 (some .boolean) :: ([])
def wsX3_copies : List Cond := .code yX3_copies cX3_copies 5 none :: ([])
def wsX3_records : List Cond := .code yX3_records cX3_records 2 none :: ([.fieldLink RX3 31 "BoltTailorsModel" "known" "I", .fieldLink RX3 16 "BoltTailorsModel" "past" "[I", .fieldLink RX3 7 "BoltTailorsModel" "s" "[I", .methodLink RX3 35 yX3_copies, .static yX3_copies, .initialized RX3, .code yX3_copies cX3_copies 5 none] ++ wsX30)
def wsX3_coatOf : List Cond := .code yX3_coatOf cX3_coatOf 3 (some .int) :: ([.fieldLink RX3 7 "BoltTailorsModel" "s" "[I"] ++ wsX30)
def wsX3_adds : List Cond := .code yX3_adds cX3_adds 4 none :: ([.fieldLink RX3 7 "BoltTailorsModel" "s" "[I"] ++ wsX30)
def wsX3_isOver : List Cond := .code yX3_isOver cX3_isOver 1 (some .boolean) :: ([.fieldLink RX3 7 "BoltTailorsModel" "s" "[I"] ++ wsX30)
def wsX3_firstOf : List Cond := .code yX3_firstOf cX3_firstOf 4 (some .int) :: ([])
def wsX3_folds : List Cond := .code yX3_folds cX3_folds 5 (some .boolean) :: ([.fieldLink RX3 7 "BoltTailorsModel" "s" "[I"] ++ wsX30)
def wsX3_matches : List Cond := .code yX3_matches cX3_matches 3 (some .boolean) :: ([.fieldLink RX3 7 "BoltTailorsModel" "s" "[I"] ++ wsX30)
def wsX3_worthOf : List Cond := .code yX3_worthOf cX3_worthOf 4 (some .int) :: ([.fieldLink RX3 7 "BoltTailorsModel" "s" "[I", .methodLink RX3 39 yX3_folds, .instanceMethod yX3_folds, .selects RX3 yX3_folds yX3_folds, .initialized RX3, .code yX3_folds cX3_folds 5 (some .boolean), .methodLink RX3 43 yX3_matches, .instanceMethod yX3_matches, .selects RX3 yX3_matches yX3_matches, .code yX3_matches cX3_matches 3 (some .boolean)] ++ wsX30)
def wsX3_goCut_r1 : List Cond := [Cond.fieldLink RX3 7 "BoltTailorsModel" "s" "[I", Cond.methodLink RX3 46 yX3_firstOf, Cond.static yX3_firstOf, Cond.initialized RX3, Cond.code yX3_firstOf cX3_firstOf 4 (some .int), Cond.methodLink RX3 50 yX3_coatOf, Cond.instanceMethod yX3_coatOf, Cond.selects RX3 yX3_coatOf yX3_coatOf, Cond.code yX3_coatOf cX3_coatOf 3 (some .int), Cond.methodLink RX3 54 yX3_worthOf, Cond.instanceMethod yX3_worthOf, Cond.selects RX3 yX3_worthOf yX3_worthOf, Cond.code yX3_worthOf cX3_worthOf 4 (some .int), Cond.methodLink RX3 39 yX3_folds, Cond.instanceMethod yX3_folds, Cond.selects RX3 yX3_folds yX3_folds, Cond.code yX3_folds cX3_folds 5 (some .boolean), Cond.methodLink RX3 43 yX3_matches, Cond.instanceMethod yX3_matches, Cond.selects RX3 yX3_matches yX3_matches, Cond.code yX3_matches cX3_matches 3 (some .boolean), Cond.methodLink RX3 58 yX3_adds, Cond.instanceMethod yX3_adds, Cond.selects RX3 yX3_adds yX3_adds]
def wsX3_goCut_r2 : List Cond := [Cond.code yX3_adds cX3_adds 4 none]
def wsX3_goCut : List Cond := .code yX3_goCut cX3_goCut 8 (some .int) :: ((wsX3_goCut_r1 ++ wsX3_goCut_r2) ++ wsX30)
def wsX3_errorCut : List Cond := .code yX3_errorCut cX3_errorCut 2 (some .int) :: ([.fieldLink RX3 7 "BoltTailorsModel" "s" "[I", .methodLink RX3 62 yX3_in, .static yX3_in, .initialized RX3, .code yX3_in cX3_in 3 (some .boolean)] ++ wsX30)
def wsX3_rowOf : List Cond := .code yX3_rowOf cX3_rowOf 2 (some .int) :: ([])
def wsX3_leadAt : List Cond := .code yX3_leadAt cX3_leadAt 5 (some .int) :: ([.fieldLink RX3 25 "BoltTailorsModel" "leads" "[I", .methodLink RX3 66 yX3_rowOf, .static yX3_rowOf, .initialized RX3, .code yX3_rowOf cX3_rowOf 2 (some .int)] ++ wsX30)
def wsX3_most : List Cond := .code yX3_most cX3_most 2 (some .int) :: ([.fieldLink RX3 7 "BoltTailorsModel" "s" "[I"] ++ wsX30)
def wsX3_leadBy_r1 : List Cond := [Cond.fieldLink RX3 7 "BoltTailorsModel" "s" "[I", Cond.methodLink RX3 46 yX3_firstOf, Cond.static yX3_firstOf, Cond.initialized RX3, Cond.code yX3_firstOf cX3_firstOf 4 (some .int), Cond.methodLink RX3 54 yX3_worthOf, Cond.instanceMethod yX3_worthOf, Cond.selects RX3 yX3_worthOf yX3_worthOf, Cond.code yX3_worthOf cX3_worthOf 4 (some .int), Cond.methodLink RX3 39 yX3_folds, Cond.instanceMethod yX3_folds, Cond.selects RX3 yX3_folds yX3_folds, Cond.code yX3_folds cX3_folds 5 (some .boolean), Cond.methodLink RX3 43 yX3_matches, Cond.instanceMethod yX3_matches, Cond.selects RX3 yX3_matches yX3_matches, Cond.code yX3_matches cX3_matches 3 (some .boolean), Cond.methodLink RX3 69 yX3_leadAt, Cond.instanceMethod yX3_leadAt, Cond.selects RX3 yX3_leadAt yX3_leadAt, Cond.code yX3_leadAt cX3_leadAt 5 (some .int), Cond.fieldLink RX3 25 "BoltTailorsModel" "leads" "[I", Cond.methodLink RX3 66 yX3_rowOf, Cond.static yX3_rowOf]
def wsX3_leadBy_r2 : List Cond := [Cond.code yX3_rowOf cX3_rowOf 2 (some .int)]
def wsX3_leadBy : List Cond := .code yX3_leadBy cX3_leadBy 9 (some .int) :: ((wsX3_leadBy_r1 ++ wsX3_leadBy_r2) ++ wsX30)
def wsX3_laysLead_r1 : List Cond := [Cond.fieldLink RX3 25 "BoltTailorsModel" "leads" "[I", Cond.methodLink RX3 73 yX3_most, Cond.instanceMethod yX3_most, Cond.selects RX3 yX3_most yX3_most, Cond.initialized RX3, Cond.code yX3_most cX3_most 2 (some .int), Cond.fieldLink RX3 7 "BoltTailorsModel" "s" "[I", Cond.methodLink RX3 77 yX3_leadBy, Cond.instanceMethod yX3_leadBy, Cond.selects RX3 yX3_leadBy yX3_leadBy, Cond.code yX3_leadBy cX3_leadBy 9 (some .int), Cond.methodLink RX3 46 yX3_firstOf, Cond.static yX3_firstOf, Cond.code yX3_firstOf cX3_firstOf 4 (some .int), Cond.methodLink RX3 54 yX3_worthOf, Cond.instanceMethod yX3_worthOf, Cond.selects RX3 yX3_worthOf yX3_worthOf, Cond.code yX3_worthOf cX3_worthOf 4 (some .int), Cond.methodLink RX3 39 yX3_folds, Cond.instanceMethod yX3_folds, Cond.selects RX3 yX3_folds yX3_folds, Cond.code yX3_folds cX3_folds 5 (some .boolean), Cond.methodLink RX3 43 yX3_matches, Cond.instanceMethod yX3_matches]
def wsX3_laysLead_r2 : List Cond := [Cond.selects RX3 yX3_matches yX3_matches, Cond.code yX3_matches cX3_matches 3 (some .boolean), Cond.methodLink RX3 69 yX3_leadAt, Cond.instanceMethod yX3_leadAt, Cond.selects RX3 yX3_leadAt yX3_leadAt, Cond.code yX3_leadAt cX3_leadAt 5 (some .int), Cond.methodLink RX3 66 yX3_rowOf, Cond.static yX3_rowOf, Cond.code yX3_rowOf cX3_rowOf 2 (some .int)]
def wsX3_laysLead : List Cond := .code yX3_laysLead cX3_laysLead 9 none :: ((wsX3_laysLead_r1 ++ wsX3_laysLead_r2) ++ wsX30)
def wsX3_laysLeads_r1 : List Cond := [Cond.fieldLink RX3 7 "BoltTailorsModel" "s" "[I", Cond.methodLink RX3 81 yX3_laysLead, Cond.instanceMethod yX3_laysLead, Cond.selects RX3 yX3_laysLead yX3_laysLead, Cond.initialized RX3, Cond.code yX3_laysLead cX3_laysLead 9 none, Cond.fieldLink RX3 25 "BoltTailorsModel" "leads" "[I", Cond.methodLink RX3 73 yX3_most, Cond.instanceMethod yX3_most, Cond.selects RX3 yX3_most yX3_most, Cond.code yX3_most cX3_most 2 (some .int), Cond.methodLink RX3 77 yX3_leadBy, Cond.instanceMethod yX3_leadBy, Cond.selects RX3 yX3_leadBy yX3_leadBy, Cond.code yX3_leadBy cX3_leadBy 9 (some .int), Cond.methodLink RX3 46 yX3_firstOf, Cond.static yX3_firstOf, Cond.code yX3_firstOf cX3_firstOf 4 (some .int), Cond.methodLink RX3 54 yX3_worthOf, Cond.instanceMethod yX3_worthOf, Cond.selects RX3 yX3_worthOf yX3_worthOf, Cond.code yX3_worthOf cX3_worthOf 4 (some .int), Cond.methodLink RX3 39 yX3_folds, Cond.instanceMethod yX3_folds]
def wsX3_laysLeads_r2 : List Cond := [Cond.selects RX3 yX3_folds yX3_folds, Cond.code yX3_folds cX3_folds 5 (some .boolean), Cond.methodLink RX3 43 yX3_matches, Cond.instanceMethod yX3_matches, Cond.selects RX3 yX3_matches yX3_matches, Cond.code yX3_matches cX3_matches 3 (some .boolean), Cond.methodLink RX3 69 yX3_leadAt, Cond.instanceMethod yX3_leadAt, Cond.selects RX3 yX3_leadAt yX3_leadAt, Cond.code yX3_leadAt cX3_leadAt 5 (some .int), Cond.methodLink RX3 66 yX3_rowOf, Cond.static yX3_rowOf, Cond.code yX3_rowOf cX3_rowOf 2 (some .int)]
def wsX3_laysLeads : List Cond := .code yX3_laysLeads cX3_laysLeads 4 none :: ((wsX3_laysLeads_r1 ++ wsX3_laysLeads_r2) ++ wsX30)
def wsX3_own : List Cond := .code yX3_own cX3_own 1 (some .int) :: ([.fieldLink RX3 7 "BoltTailorsModel" "s" "[I", .methodLink RX3 50 yX3_coatOf, .instanceMethod yX3_coatOf, .selects RX3 yX3_coatOf yX3_coatOf, .initialized RX3, .code yX3_coatOf cX3_coatOf 3 (some .int)] ++ wsX30)
def wsX3_others : List Cond := .code yX3_others cX3_others 1 (some .int) :: ([.fieldLink RX3 7 "BoltTailorsModel" "s" "[I", .methodLink RX3 50 yX3_coatOf, .instanceMethod yX3_coatOf, .selects RX3 yX3_coatOf yX3_coatOf, .initialized RX3, .code yX3_coatOf cX3_coatOf 3 (some .int)] ++ wsX30)
def wsX3_choice_r1 : List Cond := [Cond.fieldLink RX3 7 "BoltTailorsModel" "s" "[I", Cond.methodLink RX3 73 yX3_most, Cond.instanceMethod yX3_most, Cond.selects RX3 yX3_most yX3_most, Cond.initialized RX3, Cond.code yX3_most cX3_most 2 (some .int), Cond.methodLink RX3 46 yX3_firstOf, Cond.static yX3_firstOf, Cond.code yX3_firstOf cX3_firstOf 4 (some .int), Cond.methodLink RX3 85 yX3_own, Cond.instanceMethod yX3_own, Cond.selects RX3 yX3_own yX3_own, Cond.code yX3_own cX3_own 1 (some .int), Cond.methodLink RX3 50 yX3_coatOf, Cond.instanceMethod yX3_coatOf, Cond.selects RX3 yX3_coatOf yX3_coatOf, Cond.code yX3_coatOf cX3_coatOf 3 (some .int), Cond.methodLink RX3 54 yX3_worthOf, Cond.instanceMethod yX3_worthOf, Cond.selects RX3 yX3_worthOf yX3_worthOf, Cond.code yX3_worthOf cX3_worthOf 4 (some .int), Cond.methodLink RX3 39 yX3_folds, Cond.instanceMethod yX3_folds, Cond.selects RX3 yX3_folds yX3_folds]
def wsX3_choice_r2 : List Cond := [Cond.code yX3_folds cX3_folds 5 (some .boolean), Cond.methodLink RX3 43 yX3_matches, Cond.instanceMethod yX3_matches, Cond.selects RX3 yX3_matches yX3_matches, Cond.code yX3_matches cX3_matches 3 (some .boolean), Cond.methodLink RX3 89 yX3_others, Cond.instanceMethod yX3_others, Cond.selects RX3 yX3_others yX3_others, Cond.code yX3_others cX3_others 1 (some .int), Cond.methodLink RX3 77 yX3_leadBy, Cond.instanceMethod yX3_leadBy, Cond.selects RX3 yX3_leadBy yX3_leadBy, Cond.code yX3_leadBy cX3_leadBy 9 (some .int), Cond.methodLink RX3 69 yX3_leadAt, Cond.instanceMethod yX3_leadAt, Cond.selects RX3 yX3_leadAt yX3_leadAt, Cond.code yX3_leadAt cX3_leadAt 5 (some .int), Cond.fieldLink RX3 25 "BoltTailorsModel" "leads" "[I", Cond.methodLink RX3 66 yX3_rowOf, Cond.static yX3_rowOf, Cond.code yX3_rowOf cX3_rowOf 2 (some .int)]
def wsX3_choice : List Cond := .code yX3_choice cX3_choice 10 (some .int) :: ((wsX3_choice_r1 ++ wsX3_choice_r2) ++ wsX30)
def wsX3_cutsBy_r1 : List Cond := [Cond.methodLink RX3 92 yX3_choice, Cond.instanceMethod yX3_choice, Cond.selects RX3 yX3_choice yX3_choice, Cond.initialized RX3, Cond.code yX3_choice cX3_choice 10 (some .int), Cond.fieldLink RX3 7 "BoltTailorsModel" "s" "[I", Cond.methodLink RX3 73 yX3_most, Cond.instanceMethod yX3_most, Cond.selects RX3 yX3_most yX3_most, Cond.code yX3_most cX3_most 2 (some .int), Cond.methodLink RX3 46 yX3_firstOf, Cond.static yX3_firstOf, Cond.code yX3_firstOf cX3_firstOf 4 (some .int), Cond.methodLink RX3 85 yX3_own, Cond.instanceMethod yX3_own, Cond.selects RX3 yX3_own yX3_own, Cond.code yX3_own cX3_own 1 (some .int), Cond.methodLink RX3 50 yX3_coatOf, Cond.instanceMethod yX3_coatOf, Cond.selects RX3 yX3_coatOf yX3_coatOf, Cond.code yX3_coatOf cX3_coatOf 3 (some .int), Cond.methodLink RX3 54 yX3_worthOf, Cond.instanceMethod yX3_worthOf, Cond.selects RX3 yX3_worthOf yX3_worthOf]
def wsX3_cutsBy_r2 : List Cond := [Cond.code yX3_worthOf cX3_worthOf 4 (some .int), Cond.methodLink RX3 39 yX3_folds, Cond.instanceMethod yX3_folds, Cond.selects RX3 yX3_folds yX3_folds, Cond.code yX3_folds cX3_folds 5 (some .boolean), Cond.methodLink RX3 43 yX3_matches, Cond.instanceMethod yX3_matches, Cond.selects RX3 yX3_matches yX3_matches, Cond.code yX3_matches cX3_matches 3 (some .boolean), Cond.methodLink RX3 89 yX3_others, Cond.instanceMethod yX3_others, Cond.selects RX3 yX3_others yX3_others, Cond.code yX3_others cX3_others 1 (some .int), Cond.methodLink RX3 77 yX3_leadBy, Cond.instanceMethod yX3_leadBy, Cond.selects RX3 yX3_leadBy yX3_leadBy, Cond.code yX3_leadBy cX3_leadBy 9 (some .int), Cond.methodLink RX3 69 yX3_leadAt, Cond.instanceMethod yX3_leadAt, Cond.selects RX3 yX3_leadAt yX3_leadAt, Cond.code yX3_leadAt cX3_leadAt 5 (some .int), Cond.fieldLink RX3 25 "BoltTailorsModel" "leads" "[I", Cond.methodLink RX3 66 yX3_rowOf, Cond.static yX3_rowOf]
def wsX3_cutsBy_r3 : List Cond := [Cond.code yX3_rowOf cX3_rowOf 2 (some .int), Cond.methodLink RX3 96 yX3_goCut, Cond.instanceMethod yX3_goCut, Cond.selects RX3 yX3_goCut yX3_goCut, Cond.code yX3_goCut cX3_goCut 8 (some .int), Cond.methodLink RX3 58 yX3_adds, Cond.instanceMethod yX3_adds, Cond.selects RX3 yX3_adds yX3_adds, Cond.code yX3_adds cX3_adds 4 none]
def wsX3_cutsBy : List Cond := .code yX3_cutsBy cX3_cutsBy 3 (some .int) :: ((wsX3_cutsBy_r1 ++ (wsX3_cutsBy_r2 ++ wsX3_cutsBy_r3)) ++ wsX30)
def wsX3_cut_r1 : List Cond := [Cond.methodLink RX3 100 yX3_errorCut, Cond.instanceMethod yX3_errorCut, Cond.selects RX3 yX3_errorCut yX3_errorCut, Cond.initialized RX3, Cond.code yX3_errorCut cX3_errorCut 2 (some .int), Cond.fieldLink RX3 7 "BoltTailorsModel" "s" "[I", Cond.methodLink RX3 62 yX3_in, Cond.static yX3_in, Cond.code yX3_in cX3_in 3 (some .boolean), Cond.methodLink RX3 103 yX3_records, Cond.instanceMethod yX3_records, Cond.selects RX3 yX3_records yX3_records, Cond.code yX3_records cX3_records 2 none, Cond.fieldLink RX3 31 "BoltTailorsModel" "known" "I", Cond.fieldLink RX3 16 "BoltTailorsModel" "past" "[I", Cond.methodLink RX3 35 yX3_copies, Cond.static yX3_copies, Cond.code yX3_copies cX3_copies 5 none, Cond.methodLink RX3 96 yX3_goCut, Cond.instanceMethod yX3_goCut, Cond.selects RX3 yX3_goCut yX3_goCut, Cond.code yX3_goCut cX3_goCut 8 (some .int), Cond.methodLink RX3 46 yX3_firstOf, Cond.static yX3_firstOf]
def wsX3_cut_r2 : List Cond := [Cond.code yX3_firstOf cX3_firstOf 4 (some .int), Cond.methodLink RX3 50 yX3_coatOf, Cond.instanceMethod yX3_coatOf, Cond.selects RX3 yX3_coatOf yX3_coatOf, Cond.code yX3_coatOf cX3_coatOf 3 (some .int), Cond.methodLink RX3 54 yX3_worthOf, Cond.instanceMethod yX3_worthOf, Cond.selects RX3 yX3_worthOf yX3_worthOf, Cond.code yX3_worthOf cX3_worthOf 4 (some .int), Cond.methodLink RX3 39 yX3_folds, Cond.instanceMethod yX3_folds, Cond.selects RX3 yX3_folds yX3_folds, Cond.code yX3_folds cX3_folds 5 (some .boolean), Cond.methodLink RX3 43 yX3_matches, Cond.instanceMethod yX3_matches, Cond.selects RX3 yX3_matches yX3_matches, Cond.code yX3_matches cX3_matches 3 (some .boolean), Cond.methodLink RX3 58 yX3_adds, Cond.instanceMethod yX3_adds, Cond.selects RX3 yX3_adds yX3_adds, Cond.code yX3_adds cX3_adds 4 none]
def wsX3_cut : List Cond := .code yX3_cut cX3_cut 4 (some .int) :: ((wsX3_cut_r1 ++ wsX3_cut_r2) ++ wsX30)
def wsX3_best_r1 : List Cond := [Cond.methodLink RX3 106 yX3_isOver, Cond.instanceMethod yX3_isOver, Cond.selects RX3 yX3_isOver yX3_isOver, Cond.initialized RX3, Cond.code yX3_isOver cX3_isOver 1 (some .boolean), Cond.fieldLink RX3 7 "BoltTailorsModel" "s" "[I", Cond.methodLink RX3 103 yX3_records, Cond.instanceMethod yX3_records, Cond.selects RX3 yX3_records yX3_records, Cond.code yX3_records cX3_records 2 none, Cond.fieldLink RX3 31 "BoltTailorsModel" "known" "I", Cond.fieldLink RX3 16 "BoltTailorsModel" "past" "[I", Cond.methodLink RX3 35 yX3_copies, Cond.static yX3_copies, Cond.code yX3_copies cX3_copies 5 none, Cond.methodLink RX3 110 yX3_laysLeads, Cond.instanceMethod yX3_laysLeads, Cond.selects RX3 yX3_laysLeads yX3_laysLeads, Cond.code yX3_laysLeads cX3_laysLeads 4 none, Cond.methodLink RX3 81 yX3_laysLead, Cond.instanceMethod yX3_laysLead, Cond.selects RX3 yX3_laysLead yX3_laysLead, Cond.code yX3_laysLead cX3_laysLead 9 none, Cond.fieldLink RX3 25 "BoltTailorsModel" "leads" "[I"]
def wsX3_best_r2 : List Cond := [Cond.methodLink RX3 73 yX3_most, Cond.instanceMethod yX3_most, Cond.selects RX3 yX3_most yX3_most, Cond.code yX3_most cX3_most 2 (some .int), Cond.methodLink RX3 77 yX3_leadBy, Cond.instanceMethod yX3_leadBy, Cond.selects RX3 yX3_leadBy yX3_leadBy, Cond.code yX3_leadBy cX3_leadBy 9 (some .int), Cond.methodLink RX3 46 yX3_firstOf, Cond.static yX3_firstOf, Cond.code yX3_firstOf cX3_firstOf 4 (some .int), Cond.methodLink RX3 54 yX3_worthOf, Cond.instanceMethod yX3_worthOf, Cond.selects RX3 yX3_worthOf yX3_worthOf, Cond.code yX3_worthOf cX3_worthOf 4 (some .int), Cond.methodLink RX3 39 yX3_folds, Cond.instanceMethod yX3_folds, Cond.selects RX3 yX3_folds yX3_folds, Cond.code yX3_folds cX3_folds 5 (some .boolean), Cond.methodLink RX3 43 yX3_matches, Cond.instanceMethod yX3_matches, Cond.selects RX3 yX3_matches yX3_matches, Cond.code yX3_matches cX3_matches 3 (some .boolean), Cond.methodLink RX3 69 yX3_leadAt]
def wsX3_best_r3 : List Cond := [Cond.instanceMethod yX3_leadAt, Cond.selects RX3 yX3_leadAt yX3_leadAt, Cond.code yX3_leadAt cX3_leadAt 5 (some .int), Cond.methodLink RX3 66 yX3_rowOf, Cond.static yX3_rowOf, Cond.code yX3_rowOf cX3_rowOf 2 (some .int), Cond.methodLink RX3 113 yX3_cutsBy, Cond.instanceMethod yX3_cutsBy, Cond.selects RX3 yX3_cutsBy yX3_cutsBy, Cond.code yX3_cutsBy cX3_cutsBy 3 (some .int), Cond.methodLink RX3 92 yX3_choice, Cond.instanceMethod yX3_choice, Cond.selects RX3 yX3_choice yX3_choice, Cond.code yX3_choice cX3_choice 10 (some .int), Cond.methodLink RX3 85 yX3_own, Cond.instanceMethod yX3_own, Cond.selects RX3 yX3_own yX3_own, Cond.code yX3_own cX3_own 1 (some .int), Cond.methodLink RX3 50 yX3_coatOf, Cond.instanceMethod yX3_coatOf, Cond.selects RX3 yX3_coatOf yX3_coatOf, Cond.code yX3_coatOf cX3_coatOf 3 (some .int), Cond.methodLink RX3 89 yX3_others, Cond.instanceMethod yX3_others]
def wsX3_best_r4 : List Cond := [Cond.selects RX3 yX3_others yX3_others, Cond.code yX3_others cX3_others 1 (some .int), Cond.methodLink RX3 96 yX3_goCut, Cond.instanceMethod yX3_goCut, Cond.selects RX3 yX3_goCut yX3_goCut, Cond.code yX3_goCut cX3_goCut 8 (some .int), Cond.methodLink RX3 58 yX3_adds, Cond.instanceMethod yX3_adds, Cond.selects RX3 yX3_adds yX3_adds, Cond.code yX3_adds cX3_adds 4 none]
def wsX3_best : List Cond := .code yX3_best cX3_best 1 (some .int) :: ((wsX3_best_r1 ++ (wsX3_best_r2 ++ (wsX3_best_r3 ++ wsX3_best_r4))) ++ wsX30)
def wsX3_greedy_r1 : List Cond := [Cond.methodLink RX3 106 yX3_isOver, Cond.instanceMethod yX3_isOver, Cond.selects RX3 yX3_isOver yX3_isOver, Cond.initialized RX3, Cond.code yX3_isOver cX3_isOver 1 (some .boolean), Cond.fieldLink RX3 7 "BoltTailorsModel" "s" "[I", Cond.methodLink RX3 103 yX3_records, Cond.instanceMethod yX3_records, Cond.selects RX3 yX3_records yX3_records, Cond.code yX3_records cX3_records 2 none, Cond.fieldLink RX3 31 "BoltTailorsModel" "known" "I", Cond.fieldLink RX3 16 "BoltTailorsModel" "past" "[I", Cond.methodLink RX3 35 yX3_copies, Cond.static yX3_copies, Cond.code yX3_copies cX3_copies 5 none, Cond.methodLink RX3 113 yX3_cutsBy, Cond.instanceMethod yX3_cutsBy, Cond.selects RX3 yX3_cutsBy yX3_cutsBy, Cond.code yX3_cutsBy cX3_cutsBy 3 (some .int), Cond.methodLink RX3 92 yX3_choice, Cond.instanceMethod yX3_choice, Cond.selects RX3 yX3_choice yX3_choice, Cond.code yX3_choice cX3_choice 10 (some .int), Cond.methodLink RX3 73 yX3_most]
def wsX3_greedy_r2 : List Cond := [Cond.instanceMethod yX3_most, Cond.selects RX3 yX3_most yX3_most, Cond.code yX3_most cX3_most 2 (some .int), Cond.methodLink RX3 46 yX3_firstOf, Cond.static yX3_firstOf, Cond.code yX3_firstOf cX3_firstOf 4 (some .int), Cond.methodLink RX3 85 yX3_own, Cond.instanceMethod yX3_own, Cond.selects RX3 yX3_own yX3_own, Cond.code yX3_own cX3_own 1 (some .int), Cond.methodLink RX3 50 yX3_coatOf, Cond.instanceMethod yX3_coatOf, Cond.selects RX3 yX3_coatOf yX3_coatOf, Cond.code yX3_coatOf cX3_coatOf 3 (some .int), Cond.methodLink RX3 54 yX3_worthOf, Cond.instanceMethod yX3_worthOf, Cond.selects RX3 yX3_worthOf yX3_worthOf, Cond.code yX3_worthOf cX3_worthOf 4 (some .int), Cond.methodLink RX3 39 yX3_folds, Cond.instanceMethod yX3_folds, Cond.selects RX3 yX3_folds yX3_folds, Cond.code yX3_folds cX3_folds 5 (some .boolean), Cond.methodLink RX3 43 yX3_matches, Cond.instanceMethod yX3_matches]
def wsX3_greedy_r3 : List Cond := [Cond.selects RX3 yX3_matches yX3_matches, Cond.code yX3_matches cX3_matches 3 (some .boolean), Cond.methodLink RX3 89 yX3_others, Cond.instanceMethod yX3_others, Cond.selects RX3 yX3_others yX3_others, Cond.code yX3_others cX3_others 1 (some .int), Cond.methodLink RX3 77 yX3_leadBy, Cond.instanceMethod yX3_leadBy, Cond.selects RX3 yX3_leadBy yX3_leadBy, Cond.code yX3_leadBy cX3_leadBy 9 (some .int), Cond.methodLink RX3 69 yX3_leadAt, Cond.instanceMethod yX3_leadAt, Cond.selects RX3 yX3_leadAt yX3_leadAt, Cond.code yX3_leadAt cX3_leadAt 5 (some .int), Cond.fieldLink RX3 25 "BoltTailorsModel" "leads" "[I", Cond.methodLink RX3 66 yX3_rowOf, Cond.static yX3_rowOf, Cond.code yX3_rowOf cX3_rowOf 2 (some .int), Cond.methodLink RX3 96 yX3_goCut, Cond.instanceMethod yX3_goCut, Cond.selects RX3 yX3_goCut yX3_goCut, Cond.code yX3_goCut cX3_goCut 8 (some .int), Cond.methodLink RX3 58 yX3_adds, Cond.instanceMethod yX3_adds]
def wsX3_greedy_r4 : List Cond := [Cond.selects RX3 yX3_adds yX3_adds, Cond.code yX3_adds cX3_adds 4 none]
def wsX3_greedy : List Cond := .code yX3_greedy cX3_greedy 1 (some .int) :: ((wsX3_greedy_r1 ++ (wsX3_greedy_r2 ++ (wsX3_greedy_r3 ++ wsX3_greedy_r4))) ++ wsX30)
def wsX3_again : List Cond := .code yX3_again cX3_again 1 (some .int) :: ([.fieldLink RX3 7 "BoltTailorsModel" "s" "[I", .methodLink RX3 103 yX3_records, .instanceMethod yX3_records, .selects RX3 yX3_records yX3_records, .initialized RX3, .code yX3_records cX3_records 2 none, .fieldLink RX3 31 "BoltTailorsModel" "known" "I", .fieldLink RX3 16 "BoltTailorsModel" "past" "[I", .methodLink RX3 35 yX3_copies, .static yX3_copies, .code yX3_copies cX3_copies 5 none, .methodLink RX3 28 yX3_beginsAgain, .instanceMethod yX3_beginsAgain, .selects RX3 yX3_beginsAgain yX3_beginsAgain, .code yX3_beginsAgain cX3_beginsAgain 2 none] ++ wsX30)
def wsX3_mirror : List Cond := .code yX3_mirror cX3_mirror 6 (some .int) :: ([.fieldLink RX3 7 "BoltTailorsModel" "s" "[I", .methodLink RX3 103 yX3_records, .instanceMethod yX3_records, .selects RX3 yX3_records yX3_records, .initialized RX3, .code yX3_records cX3_records 2 none, .fieldLink RX3 31 "BoltTailorsModel" "known" "I", .fieldLink RX3 16 "BoltTailorsModel" "past" "[I", .methodLink RX3 35 yX3_copies, .static yX3_copies, .code yX3_copies cX3_copies 5 none] ++ wsX30)
def wsX3_set : List Cond := .code yX3_set cX3_set 4 (some .int) :: ([.fieldLink RX3 7 "BoltTailorsModel" "s" "[I", .methodLink RX3 62 yX3_in, .static yX3_in, .initialized RX3, .code yX3_in cX3_in 3 (some .boolean), .methodLink RX3 103 yX3_records, .instanceMethod yX3_records, .selects RX3 yX3_records yX3_records, .code yX3_records cX3_records 2 none, .fieldLink RX3 31 "BoltTailorsModel" "known" "I", .fieldLink RX3 16 "BoltTailorsModel" "past" "[I", .methodLink RX3 35 yX3_copies, .static yX3_copies, .code yX3_copies cX3_copies 5 none] ++ wsX30)
def wsX3_append : List Cond := .code yX3_append cX3_append 2 (some .int) :: ([.fieldLink RX3 116 "BoltTailorsModel" "length" "I", .fieldLink RX3 22 "BoltTailorsModel" "pad" "[I", .methodLink RX3 62 yX3_in, .static yX3_in, .initialized RX3, .code yX3_in cX3_in 3 (some .boolean)] ++ wsX30)
def wsX3_clear : List Cond := .code yX3_clear cX3_clear 2 (some .int) :: ([.fieldLink RX3 116 "BoltTailorsModel" "length" "I"] ++ wsX30)
def wsX3_here : List Cond := .code yX3_here cX3_here 1 (some .int) :: ([.fieldLink RX3 119 "BoltTailorsModel" "spot" "I", .fieldLink RX3 116 "BoltTailorsModel" "length" "I", .fieldLink RX3 22 "BoltTailorsModel" "pad" "[I"] ++ wsX30)
def wsX3_takes : List Cond := .code yX3_takes cX3_takes 2 none :: ([.fieldLink RX3 122 "BoltTailorsModel" "isForm" "Z", .fieldLink RX3 119 "BoltTailorsModel" "spot" "I"] ++ wsX30)
def wsX3_takesDigit : List Cond := .code yX3_takesDigit cX3_takesDigit 4 (some .int) :: ([.methodLink RX3 126 yX3_here, .instanceMethod yX3_here, .selects RX3 yX3_here yX3_here, .initialized RX3, .code yX3_here cX3_here 1 (some .int), .fieldLink RX3 119 "BoltTailorsModel" "spot" "I", .fieldLink RX3 116 "BoltTailorsModel" "length" "I", .fieldLink RX3 22 "BoltTailorsModel" "pad" "[I", .methodLink RX3 62 yX3_in, .static yX3_in, .code yX3_in cX3_in 3 (some .boolean), .methodLink RX3 129 yX3_takes, .instanceMethod yX3_takes, .selects RX3 yX3_takes yX3_takes, .code yX3_takes cX3_takes 2 none, .fieldLink RX3 122 "BoltTailorsModel" "isForm" "Z"] ++ wsX30)
def wsX3_isLetter : List Cond := .code yX3_isLetter cX3_isLetter 1 (some .boolean) :: ([.methodLink RX3 62 yX3_in, .static yX3_in, .initialized RX3, .code yX3_in cX3_in 3 (some .boolean)])
def wsX3_takesRule : List Cond := .code yX3_takesRule cX3_takesRule 1 none :: ([.fieldLink RX3 136 "BoltTailorsModel" "toldMany" "I", .fieldLink RX3 122 "BoltTailorsModel" "isForm" "Z", .fieldLink RX3 119 "BoltTailorsModel" "spot" "I", .fieldLink RX3 139 "BoltTailorsModel" "letters" "I", .fieldLink RX3 142 "BoltTailorsModel" "toldPhase" "I", .methodLink RX3 129 yX3_takes, .instanceMethod yX3_takes, .selects RX3 yX3_takes yX3_takes, .initialized RX3, .code yX3_takes cX3_takes 2 none, .methodLink RX3 133 yX3_takesDigit, .instanceMethod yX3_takesDigit, .selects RX3 yX3_takesDigit yX3_takesDigit, .code yX3_takesDigit cX3_takesDigit 4 (some .int), .methodLink RX3 126 yX3_here, .instanceMethod yX3_here, .selects RX3 yX3_here yX3_here, .code yX3_here cX3_here 1 (some .int), .fieldLink RX3 116 "BoltTailorsModel" "length" "I", .fieldLink RX3 22 "BoltTailorsModel" "pad" "[I", .methodLink RX3 62 yX3_in, .static yX3_in, .code yX3_in cX3_in 3 (some .boolean)] ++ wsX30)
def wsX3_isBolt_r1 : List Cond := [Cond.fieldLink RX3 119 "BoltTailorsModel" "spot" "I", Cond.fieldLink RX3 122 "BoltTailorsModel" "isForm" "Z", Cond.fieldLink RX3 142 "BoltTailorsModel" "toldPhase" "I", Cond.fieldLink RX3 139 "BoltTailorsModel" "letters" "I", Cond.fieldLink RX3 136 "BoltTailorsModel" "toldMany" "I", Cond.fieldLink RX3 116 "BoltTailorsModel" "length" "I", Cond.methodLink RX3 126 yX3_here, Cond.instanceMethod yX3_here, Cond.selects RX3 yX3_here yX3_here, Cond.initialized RX3, Cond.code yX3_here cX3_here 1 (some .int), Cond.fieldLink RX3 22 "BoltTailorsModel" "pad" "[I", Cond.methodLink RX3 145 yX3_isLetter, Cond.static yX3_isLetter, Cond.code yX3_isLetter cX3_isLetter 1 (some .boolean), Cond.methodLink RX3 62 yX3_in, Cond.static yX3_in, Cond.code yX3_in cX3_in 3 (some .boolean), Cond.methodLink RX3 129 yX3_takes, Cond.instanceMethod yX3_takes, Cond.selects RX3 yX3_takes yX3_takes, Cond.code yX3_takes cX3_takes 2 none, Cond.methodLink RX3 149 yX3_takesRule, Cond.instanceMethod yX3_takesRule]
def wsX3_isBolt_r2 : List Cond := [Cond.selects RX3 yX3_takesRule yX3_takesRule, Cond.code yX3_takesRule cX3_takesRule 1 none, Cond.methodLink RX3 133 yX3_takesDigit, Cond.instanceMethod yX3_takesDigit, Cond.selects RX3 yX3_takesDigit yX3_takesDigit, Cond.code yX3_takesDigit cX3_takesDigit 4 (some .int)]
def wsX3_isBolt : List Cond := .code yX3_isBolt cX3_isBolt 1 (some .boolean) :: ((wsX3_isBolt_r1 ++ wsX3_isBolt_r2) ++ wsX30)
def wsX3_takesCut : List Cond := .code yX3_takesCut cX3_takesCut 3 none :: ([.methodLink RX3 126 yX3_here, .instanceMethod yX3_here, .selects RX3 yX3_here yX3_here, .initialized RX3, .code yX3_here cX3_here 1 (some .int), .fieldLink RX3 119 "BoltTailorsModel" "spot" "I", .fieldLink RX3 116 "BoltTailorsModel" "length" "I", .fieldLink RX3 22 "BoltTailorsModel" "pad" "[I", .methodLink RX3 129 yX3_takes, .instanceMethod yX3_takes, .selects RX3 yX3_takes yX3_takes, .code yX3_takes cX3_takes 2 none, .fieldLink RX3 122 "BoltTailorsModel" "isForm" "Z", .methodLink RX3 133 yX3_takesDigit, .instanceMethod yX3_takesDigit, .selects RX3 yX3_takesDigit yX3_takesDigit, .code yX3_takesDigit cX3_takesDigit 4 (some .int), .methodLink RX3 62 yX3_in, .static yX3_in, .code yX3_in cX3_in 3 (some .boolean)] ++ wsX30)
def wsX3_areCuts : List Cond := .code yX3_areCuts cX3_areCuts 1 (some .boolean) :: ([.fieldLink RX3 119 "BoltTailorsModel" "spot" "I", .fieldLink RX3 122 "BoltTailorsModel" "isForm" "Z", .fieldLink RX3 116 "BoltTailorsModel" "length" "I", .methodLink RX3 152 yX3_takesCut, .instanceMethod yX3_takesCut, .selects RX3 yX3_takesCut yX3_takesCut, .initialized RX3, .code yX3_takesCut cX3_takesCut 3 none, .methodLink RX3 126 yX3_here, .instanceMethod yX3_here, .selects RX3 yX3_here yX3_here, .code yX3_here cX3_here 1 (some .int), .fieldLink RX3 22 "BoltTailorsModel" "pad" "[I", .methodLink RX3 129 yX3_takes, .instanceMethod yX3_takes, .selects RX3 yX3_takes yX3_takes, .code yX3_takes cX3_takes 2 none, .methodLink RX3 133 yX3_takesDigit, .instanceMethod yX3_takesDigit, .selects RX3 yX3_takesDigit yX3_takesDigit, .code yX3_takesDigit cX3_takesDigit 4 (some .int), .methodLink RX3 62 yX3_in, .static yX3_in, .code yX3_in cX3_in 3 (some .boolean)] ++ wsX30)
def wsX3_fault_r1 : List Cond := [Cond.fieldLink RX3 119 "BoltTailorsModel" "spot" "I", Cond.methodLink RX3 62 yX3_in, Cond.static yX3_in, Cond.initialized RX3, Cond.code yX3_in cX3_in 3 (some .boolean), Cond.methodLink RX3 155 yX3_isBolt, Cond.instanceMethod yX3_isBolt, Cond.selects RX3 yX3_isBolt yX3_isBolt, Cond.code yX3_isBolt cX3_isBolt 1 (some .boolean), Cond.fieldLink RX3 122 "BoltTailorsModel" "isForm" "Z", Cond.fieldLink RX3 142 "BoltTailorsModel" "toldPhase" "I", Cond.fieldLink RX3 139 "BoltTailorsModel" "letters" "I", Cond.fieldLink RX3 136 "BoltTailorsModel" "toldMany" "I", Cond.fieldLink RX3 116 "BoltTailorsModel" "length" "I", Cond.methodLink RX3 126 yX3_here, Cond.instanceMethod yX3_here, Cond.selects RX3 yX3_here yX3_here, Cond.code yX3_here cX3_here 1 (some .int), Cond.fieldLink RX3 22 "BoltTailorsModel" "pad" "[I", Cond.methodLink RX3 145 yX3_isLetter, Cond.static yX3_isLetter, Cond.code yX3_isLetter cX3_isLetter 1 (some .boolean), Cond.methodLink RX3 129 yX3_takes, Cond.instanceMethod yX3_takes]
def wsX3_fault_r2 : List Cond := [Cond.selects RX3 yX3_takes yX3_takes, Cond.code yX3_takes cX3_takes 2 none, Cond.methodLink RX3 149 yX3_takesRule, Cond.instanceMethod yX3_takesRule, Cond.selects RX3 yX3_takesRule yX3_takesRule, Cond.code yX3_takesRule cX3_takesRule 1 none, Cond.methodLink RX3 133 yX3_takesDigit, Cond.instanceMethod yX3_takesDigit, Cond.selects RX3 yX3_takesDigit yX3_takesDigit, Cond.code yX3_takesDigit cX3_takesDigit 4 (some .int), Cond.methodLink RX3 158 yX3_areCuts, Cond.instanceMethod yX3_areCuts, Cond.selects RX3 yX3_areCuts yX3_areCuts, Cond.code yX3_areCuts cX3_areCuts 1 (some .boolean), Cond.methodLink RX3 152 yX3_takesCut, Cond.instanceMethod yX3_takesCut, Cond.selects RX3 yX3_takesCut yX3_takesCut, Cond.code yX3_takesCut cX3_takesCut 3 none]
def wsX3_fault : List Cond := .code yX3_fault cX3_fault 2 (some .int) :: ((wsX3_fault_r1 ++ wsX3_fault_r2) ++ wsX30)
def wsX3_load_r1 : List Cond := [Cond.fieldLink RX3 7 "BoltTailorsModel" "s" "[I", Cond.fieldLink RX3 136 "BoltTailorsModel" "toldMany" "I", Cond.fieldLink RX3 22 "BoltTailorsModel" "pad" "[I", Cond.fieldLink RX3 142 "BoltTailorsModel" "toldPhase" "I", Cond.fieldLink RX3 139 "BoltTailorsModel" "letters" "I", Cond.fieldLink RX3 116 "BoltTailorsModel" "length" "I", Cond.methodLink RX3 155 yX3_isBolt, Cond.instanceMethod yX3_isBolt, Cond.selects RX3 yX3_isBolt yX3_isBolt, Cond.initialized RX3, Cond.code yX3_isBolt cX3_isBolt 1 (some .boolean), Cond.fieldLink RX3 119 "BoltTailorsModel" "spot" "I", Cond.fieldLink RX3 122 "BoltTailorsModel" "isForm" "Z", Cond.methodLink RX3 126 yX3_here, Cond.instanceMethod yX3_here, Cond.selects RX3 yX3_here yX3_here, Cond.code yX3_here cX3_here 1 (some .int), Cond.methodLink RX3 145 yX3_isLetter, Cond.static yX3_isLetter, Cond.code yX3_isLetter cX3_isLetter 1 (some .boolean), Cond.methodLink RX3 62 yX3_in, Cond.static yX3_in, Cond.code yX3_in cX3_in 3 (some .boolean), Cond.methodLink RX3 129 yX3_takes]
def wsX3_load_r2 : List Cond := [Cond.instanceMethod yX3_takes, Cond.selects RX3 yX3_takes yX3_takes, Cond.code yX3_takes cX3_takes 2 none, Cond.methodLink RX3 149 yX3_takesRule, Cond.instanceMethod yX3_takesRule, Cond.selects RX3 yX3_takesRule yX3_takesRule, Cond.code yX3_takesRule cX3_takesRule 1 none, Cond.methodLink RX3 133 yX3_takesDigit, Cond.instanceMethod yX3_takesDigit, Cond.selects RX3 yX3_takesDigit yX3_takesDigit, Cond.code yX3_takesDigit cX3_takesDigit 4 (some .int), Cond.methodLink RX3 103 yX3_records, Cond.instanceMethod yX3_records, Cond.selects RX3 yX3_records yX3_records, Cond.code yX3_records cX3_records 2 none, Cond.fieldLink RX3 31 "BoltTailorsModel" "known" "I", Cond.fieldLink RX3 16 "BoltTailorsModel" "past" "[I", Cond.methodLink RX3 35 yX3_copies, Cond.static yX3_copies, Cond.code yX3_copies cX3_copies 5 none, Cond.methodLink RX3 28 yX3_beginsAgain, Cond.instanceMethod yX3_beginsAgain, Cond.selects RX3 yX3_beginsAgain yX3_beginsAgain, Cond.code yX3_beginsAgain cX3_beginsAgain 2 none]
def wsX3_load : List Cond := .code yX3_load cX3_load 2 (some .int) :: ((wsX3_load_r1 ++ wsX3_load_r2) ++ wsX30)
def wsX3_makes_r1 : List Cond := [Cond.fieldLink RX3 22 "BoltTailorsModel" "pad" "[I", Cond.methodLink RX3 106 yX3_isOver, Cond.instanceMethod yX3_isOver, Cond.selects RX3 yX3_isOver yX3_isOver, Cond.initialized RX3, Cond.code yX3_isOver cX3_isOver 1 (some .boolean), Cond.fieldLink RX3 7 "BoltTailorsModel" "s" "[I", Cond.methodLink RX3 113 yX3_cutsBy, Cond.instanceMethod yX3_cutsBy, Cond.selects RX3 yX3_cutsBy yX3_cutsBy, Cond.code yX3_cutsBy cX3_cutsBy 3 (some .int), Cond.methodLink RX3 92 yX3_choice, Cond.instanceMethod yX3_choice, Cond.selects RX3 yX3_choice yX3_choice, Cond.code yX3_choice cX3_choice 10 (some .int), Cond.methodLink RX3 73 yX3_most, Cond.instanceMethod yX3_most, Cond.selects RX3 yX3_most yX3_most, Cond.code yX3_most cX3_most 2 (some .int), Cond.methodLink RX3 46 yX3_firstOf, Cond.static yX3_firstOf, Cond.code yX3_firstOf cX3_firstOf 4 (some .int), Cond.methodLink RX3 85 yX3_own, Cond.instanceMethod yX3_own]
def wsX3_makes_r2 : List Cond := [Cond.selects RX3 yX3_own yX3_own, Cond.code yX3_own cX3_own 1 (some .int), Cond.methodLink RX3 50 yX3_coatOf, Cond.instanceMethod yX3_coatOf, Cond.selects RX3 yX3_coatOf yX3_coatOf, Cond.code yX3_coatOf cX3_coatOf 3 (some .int), Cond.methodLink RX3 54 yX3_worthOf, Cond.instanceMethod yX3_worthOf, Cond.selects RX3 yX3_worthOf yX3_worthOf, Cond.code yX3_worthOf cX3_worthOf 4 (some .int), Cond.methodLink RX3 39 yX3_folds, Cond.instanceMethod yX3_folds, Cond.selects RX3 yX3_folds yX3_folds, Cond.code yX3_folds cX3_folds 5 (some .boolean), Cond.methodLink RX3 43 yX3_matches, Cond.instanceMethod yX3_matches, Cond.selects RX3 yX3_matches yX3_matches, Cond.code yX3_matches cX3_matches 3 (some .boolean), Cond.methodLink RX3 89 yX3_others, Cond.instanceMethod yX3_others, Cond.selects RX3 yX3_others yX3_others, Cond.code yX3_others cX3_others 1 (some .int), Cond.methodLink RX3 77 yX3_leadBy, Cond.instanceMethod yX3_leadBy]
def wsX3_makes_r3 : List Cond := [Cond.selects RX3 yX3_leadBy yX3_leadBy, Cond.code yX3_leadBy cX3_leadBy 9 (some .int), Cond.methodLink RX3 69 yX3_leadAt, Cond.instanceMethod yX3_leadAt, Cond.selects RX3 yX3_leadAt yX3_leadAt, Cond.code yX3_leadAt cX3_leadAt 5 (some .int), Cond.fieldLink RX3 25 "BoltTailorsModel" "leads" "[I", Cond.methodLink RX3 66 yX3_rowOf, Cond.static yX3_rowOf, Cond.code yX3_rowOf cX3_rowOf 2 (some .int), Cond.methodLink RX3 96 yX3_goCut, Cond.instanceMethod yX3_goCut, Cond.selects RX3 yX3_goCut yX3_goCut, Cond.code yX3_goCut cX3_goCut 8 (some .int), Cond.methodLink RX3 58 yX3_adds, Cond.instanceMethod yX3_adds, Cond.selects RX3 yX3_adds yX3_adds, Cond.code yX3_adds cX3_adds 4 none, Cond.methodLink RX3 100 yX3_errorCut, Cond.instanceMethod yX3_errorCut, Cond.selects RX3 yX3_errorCut yX3_errorCut, Cond.code yX3_errorCut cX3_errorCut 2 (some .int), Cond.methodLink RX3 62 yX3_in, Cond.static yX3_in]
def wsX3_makes_r4 : List Cond := [Cond.code yX3_in cX3_in 3 (some .boolean)]
def wsX3_makes : List Cond := .code yX3_makes cX3_makes 6 (some .boolean) :: ((wsX3_makes_r1 ++ (wsX3_makes_r2 ++ (wsX3_makes_r3 ++ wsX3_makes_r4))) ++ wsX30)
def wsX3_play_r1 : List Cond := [Cond.fieldLink RX3 116 "BoltTailorsModel" "length" "I", Cond.fieldLink RX3 22 "BoltTailorsModel" "pad" "[I", Cond.methodLink RX3 158 yX3_areCuts, Cond.instanceMethod yX3_areCuts, Cond.selects RX3 yX3_areCuts yX3_areCuts, Cond.initialized RX3, Cond.code yX3_areCuts cX3_areCuts 1 (some .boolean), Cond.fieldLink RX3 119 "BoltTailorsModel" "spot" "I", Cond.fieldLink RX3 122 "BoltTailorsModel" "isForm" "Z", Cond.methodLink RX3 152 yX3_takesCut, Cond.instanceMethod yX3_takesCut, Cond.selects RX3 yX3_takesCut yX3_takesCut, Cond.code yX3_takesCut cX3_takesCut 3 none, Cond.methodLink RX3 126 yX3_here, Cond.instanceMethod yX3_here, Cond.selects RX3 yX3_here yX3_here, Cond.code yX3_here cX3_here 1 (some .int), Cond.methodLink RX3 129 yX3_takes, Cond.instanceMethod yX3_takes, Cond.selects RX3 yX3_takes yX3_takes, Cond.code yX3_takes cX3_takes 2 none, Cond.methodLink RX3 133 yX3_takesDigit, Cond.instanceMethod yX3_takesDigit, Cond.selects RX3 yX3_takesDigit yX3_takesDigit]
def wsX3_play_r2 : List Cond := [Cond.code yX3_takesDigit cX3_takesDigit 4 (some .int), Cond.methodLink RX3 62 yX3_in, Cond.static yX3_in, Cond.code yX3_in cX3_in 3 (some .boolean), Cond.methodLink RX3 103 yX3_records, Cond.instanceMethod yX3_records, Cond.selects RX3 yX3_records yX3_records, Cond.code yX3_records cX3_records 2 none, Cond.fieldLink RX3 31 "BoltTailorsModel" "known" "I", Cond.fieldLink RX3 16 "BoltTailorsModel" "past" "[I", Cond.fieldLink RX3 7 "BoltTailorsModel" "s" "[I", Cond.methodLink RX3 35 yX3_copies, Cond.static yX3_copies, Cond.code yX3_copies cX3_copies 5 none, Cond.methodLink RX3 110 yX3_laysLeads, Cond.instanceMethod yX3_laysLeads, Cond.selects RX3 yX3_laysLeads yX3_laysLeads, Cond.code yX3_laysLeads cX3_laysLeads 4 none, Cond.methodLink RX3 81 yX3_laysLead, Cond.instanceMethod yX3_laysLead, Cond.selects RX3 yX3_laysLead yX3_laysLead, Cond.code yX3_laysLead cX3_laysLead 9 none, Cond.fieldLink RX3 25 "BoltTailorsModel" "leads" "[I", Cond.methodLink RX3 73 yX3_most]
def wsX3_play_r3 : List Cond := [Cond.instanceMethod yX3_most, Cond.selects RX3 yX3_most yX3_most, Cond.code yX3_most cX3_most 2 (some .int), Cond.methodLink RX3 77 yX3_leadBy, Cond.instanceMethod yX3_leadBy, Cond.selects RX3 yX3_leadBy yX3_leadBy, Cond.code yX3_leadBy cX3_leadBy 9 (some .int), Cond.methodLink RX3 46 yX3_firstOf, Cond.static yX3_firstOf, Cond.code yX3_firstOf cX3_firstOf 4 (some .int), Cond.methodLink RX3 54 yX3_worthOf, Cond.instanceMethod yX3_worthOf, Cond.selects RX3 yX3_worthOf yX3_worthOf, Cond.code yX3_worthOf cX3_worthOf 4 (some .int), Cond.methodLink RX3 39 yX3_folds, Cond.instanceMethod yX3_folds, Cond.selects RX3 yX3_folds yX3_folds, Cond.code yX3_folds cX3_folds 5 (some .boolean), Cond.methodLink RX3 43 yX3_matches, Cond.instanceMethod yX3_matches, Cond.selects RX3 yX3_matches yX3_matches, Cond.code yX3_matches cX3_matches 3 (some .boolean), Cond.methodLink RX3 69 yX3_leadAt, Cond.instanceMethod yX3_leadAt]
def wsX3_play_r4 : List Cond := [Cond.selects RX3 yX3_leadAt yX3_leadAt, Cond.code yX3_leadAt cX3_leadAt 5 (some .int), Cond.methodLink RX3 66 yX3_rowOf, Cond.static yX3_rowOf, Cond.code yX3_rowOf cX3_rowOf 2 (some .int), Cond.methodLink RX3 161 yX3_makes, Cond.instanceMethod yX3_makes, Cond.selects RX3 yX3_makes yX3_makes, Cond.code yX3_makes cX3_makes 6 (some .boolean), Cond.methodLink RX3 106 yX3_isOver, Cond.instanceMethod yX3_isOver, Cond.selects RX3 yX3_isOver yX3_isOver, Cond.code yX3_isOver cX3_isOver 1 (some .boolean), Cond.methodLink RX3 113 yX3_cutsBy, Cond.instanceMethod yX3_cutsBy, Cond.selects RX3 yX3_cutsBy yX3_cutsBy, Cond.code yX3_cutsBy cX3_cutsBy 3 (some .int), Cond.methodLink RX3 92 yX3_choice, Cond.instanceMethod yX3_choice, Cond.selects RX3 yX3_choice yX3_choice, Cond.code yX3_choice cX3_choice 10 (some .int), Cond.methodLink RX3 85 yX3_own, Cond.instanceMethod yX3_own, Cond.selects RX3 yX3_own yX3_own]
def wsX3_play_r5 : List Cond := [Cond.code yX3_own cX3_own 1 (some .int), Cond.methodLink RX3 50 yX3_coatOf, Cond.instanceMethod yX3_coatOf, Cond.selects RX3 yX3_coatOf yX3_coatOf, Cond.code yX3_coatOf cX3_coatOf 3 (some .int), Cond.methodLink RX3 89 yX3_others, Cond.instanceMethod yX3_others, Cond.selects RX3 yX3_others yX3_others, Cond.code yX3_others cX3_others 1 (some .int), Cond.methodLink RX3 96 yX3_goCut, Cond.instanceMethod yX3_goCut, Cond.selects RX3 yX3_goCut yX3_goCut, Cond.code yX3_goCut cX3_goCut 8 (some .int), Cond.methodLink RX3 58 yX3_adds, Cond.instanceMethod yX3_adds, Cond.selects RX3 yX3_adds yX3_adds, Cond.code yX3_adds cX3_adds 4 none, Cond.methodLink RX3 100 yX3_errorCut, Cond.instanceMethod yX3_errorCut, Cond.selects RX3 yX3_errorCut yX3_errorCut, Cond.code yX3_errorCut cX3_errorCut 2 (some .int)]
def wsX3_play : List Cond := .code yX3_play cX3_play 4 (some .int) :: ((wsX3_play_r1 ++ (wsX3_play_r2 ++ (wsX3_play_r3 ++ (wsX3_play_r4 ++ wsX3_play_r5)))) ++ wsX30)
def wsX3_stripe : List Cond := .code yX3_stripe cX3_stripe 2 (some .int) :: ([.fieldLink RX3 7 "BoltTailorsModel" "s" "[I", .methodLink RX3 62 yX3_in, .static yX3_in, .initialized RX3, .code yX3_in cX3_in 3 (some .boolean)] ++ wsX30)
def wsX3_coat : List Cond := .code yX3_coat cX3_coat 3 (some .int) :: ([.methodLink RX3 62 yX3_in, .static yX3_in, .initialized RX3, .code yX3_in cX3_in 3 (some .boolean), .methodLink RX3 50 yX3_coatOf, .instanceMethod yX3_coatOf, .selects RX3 yX3_coatOf yX3_coatOf, .code yX3_coatOf cX3_coatOf 3 (some .int), .fieldLink RX3 7 "BoltTailorsModel" "s" "[I"] ++ wsX30)
def wsX3_piece : List Cond := .code yX3_piece cX3_piece 4 (some .int) :: ([.fieldLink RX3 7 "BoltTailorsModel" "s" "[I", .methodLink RX3 62 yX3_in, .static yX3_in, .initialized RX3, .code yX3_in cX3_in 3 (some .boolean), .methodLink RX3 50 yX3_coatOf, .instanceMethod yX3_coatOf, .selects RX3 yX3_coatOf yX3_coatOf, .code yX3_coatOf cX3_coatOf 3 (some .int)] ++ wsX30)
def wsX3_changes : List Cond := .code yX3_changes cX3_changes 3 (some .int) :: ([.fieldLink RX3 7 "BoltTailorsModel" "s" "[I"] ++ wsX30)
def wsX3_leftOf : List Cond := .code yX3_leftOf cX3_leftOf 4 (some .int) :: ([.fieldLink RX3 7 "BoltTailorsModel" "s" "[I"] ++ wsX30)
def wsX3_coloursLeft : List Cond := .code yX3_coloursLeft cX3_coloursLeft 3 (some .int) :: ([.methodLink RX3 164 yX3_leftOf, .instanceMethod yX3_leftOf, .selects RX3 yX3_leftOf yX3_leftOf, .initialized RX3, .code yX3_leftOf cX3_leftOf 4 (some .int), .fieldLink RX3 7 "BoltTailorsModel" "s" "[I"] ++ wsX30)
def wsX3_longestFold : List Cond := .code yX3_longestFold cX3_longestFold 4 (some .int) :: ([.fieldLink RX3 7 "BoltTailorsModel" "s" "[I", .methodLink RX3 39 yX3_folds, .instanceMethod yX3_folds, .selects RX3 yX3_folds yX3_folds, .initialized RX3, .code yX3_folds cX3_folds 5 (some .boolean)] ++ wsX30)
def wsX3_count_r1 : List Cond := [Cond.fieldLink RX3 7 "BoltTailorsModel" "s" "[I", Cond.fieldLink RX3 116 "BoltTailorsModel" "length" "I", Cond.fieldLink RX3 31 "BoltTailorsModel" "known" "I", Cond.methodLink RX3 106 yX3_isOver, Cond.instanceMethod yX3_isOver, Cond.selects RX3 yX3_isOver yX3_isOver, Cond.initialized RX3, Cond.code yX3_isOver cX3_isOver 1 (some .boolean), Cond.methodLink RX3 167 yX3_changes, Cond.instanceMethod yX3_changes, Cond.selects RX3 yX3_changes yX3_changes, Cond.code yX3_changes cX3_changes 3 (some .int), Cond.methodLink RX3 170 yX3_coloursLeft, Cond.instanceMethod yX3_coloursLeft, Cond.selects RX3 yX3_coloursLeft yX3_coloursLeft, Cond.code yX3_coloursLeft cX3_coloursLeft 3 (some .int), Cond.methodLink RX3 164 yX3_leftOf, Cond.instanceMethod yX3_leftOf, Cond.selects RX3 yX3_leftOf yX3_leftOf, Cond.code yX3_leftOf cX3_leftOf 4 (some .int), Cond.methodLink RX3 173 yX3_longestFold, Cond.instanceMethod yX3_longestFold, Cond.selects RX3 yX3_longestFold yX3_longestFold, Cond.code yX3_longestFold cX3_longestFold 4 (some .int)]
def wsX3_count_r2 : List Cond := [Cond.methodLink RX3 39 yX3_folds, Cond.instanceMethod yX3_folds, Cond.selects RX3 yX3_folds yX3_folds, Cond.code yX3_folds cX3_folds 5 (some .boolean)]
def wsX3_count : List Cond := .code yX3_count cX3_count 2 (some .int) :: ((wsX3_count_r1 ++ wsX3_count_r2) ++ wsX30)
def wsX3_left : List Cond := .code yX3_left cX3_left 2 (some .int) :: ([.methodLink RX3 62 yX3_in, .static yX3_in, .initialized RX3, .code yX3_in cX3_in 3 (some .boolean), .methodLink RX3 164 yX3_leftOf, .instanceMethod yX3_leftOf, .selects RX3 yX3_leftOf yX3_leftOf, .code yX3_leftOf cX3_leftOf 4 (some .int), .fieldLink RX3 7 "BoltTailorsModel" "s" "[I"] ++ wsX30)
def wsX3_worth_r1 : List Cond := [Cond.fieldLink RX3 7 "BoltTailorsModel" "s" "[I", Cond.methodLink RX3 100 yX3_errorCut, Cond.instanceMethod yX3_errorCut, Cond.selects RX3 yX3_errorCut yX3_errorCut, Cond.initialized RX3, Cond.code yX3_errorCut cX3_errorCut 2 (some .int), Cond.methodLink RX3 62 yX3_in, Cond.static yX3_in, Cond.code yX3_in cX3_in 3 (some .boolean), Cond.methodLink RX3 46 yX3_firstOf, Cond.static yX3_firstOf, Cond.code yX3_firstOf cX3_firstOf 4 (some .int), Cond.methodLink RX3 85 yX3_own, Cond.instanceMethod yX3_own, Cond.selects RX3 yX3_own yX3_own, Cond.code yX3_own cX3_own 1 (some .int), Cond.methodLink RX3 50 yX3_coatOf, Cond.instanceMethod yX3_coatOf, Cond.selects RX3 yX3_coatOf yX3_coatOf, Cond.code yX3_coatOf cX3_coatOf 3 (some .int), Cond.methodLink RX3 54 yX3_worthOf, Cond.instanceMethod yX3_worthOf, Cond.selects RX3 yX3_worthOf yX3_worthOf, Cond.code yX3_worthOf cX3_worthOf 4 (some .int)]
def wsX3_worth_r2 : List Cond := [Cond.methodLink RX3 39 yX3_folds, Cond.instanceMethod yX3_folds, Cond.selects RX3 yX3_folds yX3_folds, Cond.code yX3_folds cX3_folds 5 (some .boolean), Cond.methodLink RX3 43 yX3_matches, Cond.instanceMethod yX3_matches, Cond.selects RX3 yX3_matches yX3_matches, Cond.code yX3_matches cX3_matches 3 (some .boolean)]
def wsX3_worth : List Cond := .code yX3_worth cX3_worth 4 (some .int) :: ((wsX3_worth_r1 ++ wsX3_worth_r2) ++ wsX30)
def wsX3_lead_r1 : List Cond := [Cond.fieldLink RX3 7 "BoltTailorsModel" "s" "[I", Cond.methodLink RX3 62 yX3_in, Cond.static yX3_in, Cond.initialized RX3, Cond.code yX3_in cX3_in 3 (some .boolean), Cond.methodLink RX3 110 yX3_laysLeads, Cond.instanceMethod yX3_laysLeads, Cond.selects RX3 yX3_laysLeads yX3_laysLeads, Cond.code yX3_laysLeads cX3_laysLeads 4 none, Cond.methodLink RX3 81 yX3_laysLead, Cond.instanceMethod yX3_laysLead, Cond.selects RX3 yX3_laysLead yX3_laysLead, Cond.code yX3_laysLead cX3_laysLead 9 none, Cond.fieldLink RX3 25 "BoltTailorsModel" "leads" "[I", Cond.methodLink RX3 73 yX3_most, Cond.instanceMethod yX3_most, Cond.selects RX3 yX3_most yX3_most, Cond.code yX3_most cX3_most 2 (some .int), Cond.methodLink RX3 77 yX3_leadBy, Cond.instanceMethod yX3_leadBy, Cond.selects RX3 yX3_leadBy yX3_leadBy, Cond.code yX3_leadBy cX3_leadBy 9 (some .int), Cond.methodLink RX3 46 yX3_firstOf, Cond.static yX3_firstOf]
def wsX3_lead_r2 : List Cond := [Cond.code yX3_firstOf cX3_firstOf 4 (some .int), Cond.methodLink RX3 54 yX3_worthOf, Cond.instanceMethod yX3_worthOf, Cond.selects RX3 yX3_worthOf yX3_worthOf, Cond.code yX3_worthOf cX3_worthOf 4 (some .int), Cond.methodLink RX3 39 yX3_folds, Cond.instanceMethod yX3_folds, Cond.selects RX3 yX3_folds yX3_folds, Cond.code yX3_folds cX3_folds 5 (some .boolean), Cond.methodLink RX3 43 yX3_matches, Cond.instanceMethod yX3_matches, Cond.selects RX3 yX3_matches yX3_matches, Cond.code yX3_matches cX3_matches 3 (some .boolean), Cond.methodLink RX3 69 yX3_leadAt, Cond.instanceMethod yX3_leadAt, Cond.selects RX3 yX3_leadAt yX3_leadAt, Cond.code yX3_leadAt cX3_leadAt 5 (some .int), Cond.methodLink RX3 66 yX3_rowOf, Cond.static yX3_rowOf, Cond.code yX3_rowOf cX3_rowOf 2 (some .int), Cond.methodLink RX3 85 yX3_own, Cond.instanceMethod yX3_own, Cond.selects RX3 yX3_own yX3_own, Cond.code yX3_own cX3_own 1 (some .int)]
def wsX3_lead_r3 : List Cond := [Cond.methodLink RX3 50 yX3_coatOf, Cond.instanceMethod yX3_coatOf, Cond.selects RX3 yX3_coatOf yX3_coatOf, Cond.code yX3_coatOf cX3_coatOf 3 (some .int), Cond.methodLink RX3 89 yX3_others, Cond.instanceMethod yX3_others, Cond.selects RX3 yX3_others yX3_others, Cond.code yX3_others cX3_others 1 (some .int)]
def wsX3_lead : List Cond := .code yX3_lead cX3_lead 2 (some .int) :: ((wsX3_lead_r1 ++ (wsX3_lead_r2 ++ wsX3_lead_r3)) ++ wsX30)
def wsX3_leadWith_r1 : List Cond := [Cond.fieldLink RX3 7 "BoltTailorsModel" "s" "[I", Cond.methodLink RX3 100 yX3_errorCut, Cond.instanceMethod yX3_errorCut, Cond.selects RX3 yX3_errorCut yX3_errorCut, Cond.initialized RX3, Cond.code yX3_errorCut cX3_errorCut 2 (some .int), Cond.methodLink RX3 62 yX3_in, Cond.static yX3_in, Cond.code yX3_in cX3_in 3 (some .boolean), Cond.methodLink RX3 110 yX3_laysLeads, Cond.instanceMethod yX3_laysLeads, Cond.selects RX3 yX3_laysLeads yX3_laysLeads, Cond.code yX3_laysLeads cX3_laysLeads 4 none, Cond.methodLink RX3 81 yX3_laysLead, Cond.instanceMethod yX3_laysLead, Cond.selects RX3 yX3_laysLead yX3_laysLead, Cond.code yX3_laysLead cX3_laysLead 9 none, Cond.fieldLink RX3 25 "BoltTailorsModel" "leads" "[I", Cond.methodLink RX3 73 yX3_most, Cond.instanceMethod yX3_most, Cond.selects RX3 yX3_most yX3_most, Cond.code yX3_most cX3_most 2 (some .int), Cond.methodLink RX3 77 yX3_leadBy, Cond.instanceMethod yX3_leadBy]
def wsX3_leadWith_r2 : List Cond := [Cond.selects RX3 yX3_leadBy yX3_leadBy, Cond.code yX3_leadBy cX3_leadBy 9 (some .int), Cond.methodLink RX3 46 yX3_firstOf, Cond.static yX3_firstOf, Cond.code yX3_firstOf cX3_firstOf 4 (some .int), Cond.methodLink RX3 54 yX3_worthOf, Cond.instanceMethod yX3_worthOf, Cond.selects RX3 yX3_worthOf yX3_worthOf, Cond.code yX3_worthOf cX3_worthOf 4 (some .int), Cond.methodLink RX3 39 yX3_folds, Cond.instanceMethod yX3_folds, Cond.selects RX3 yX3_folds yX3_folds, Cond.code yX3_folds cX3_folds 5 (some .boolean), Cond.methodLink RX3 43 yX3_matches, Cond.instanceMethod yX3_matches, Cond.selects RX3 yX3_matches yX3_matches, Cond.code yX3_matches cX3_matches 3 (some .boolean), Cond.methodLink RX3 69 yX3_leadAt, Cond.instanceMethod yX3_leadAt, Cond.selects RX3 yX3_leadAt yX3_leadAt, Cond.code yX3_leadAt cX3_leadAt 5 (some .int), Cond.methodLink RX3 66 yX3_rowOf, Cond.static yX3_rowOf, Cond.code yX3_rowOf cX3_rowOf 2 (some .int)]
def wsX3_leadWith_r3 : List Cond := [Cond.methodLink RX3 85 yX3_own, Cond.instanceMethod yX3_own, Cond.selects RX3 yX3_own yX3_own, Cond.code yX3_own cX3_own 1 (some .int), Cond.methodLink RX3 50 yX3_coatOf, Cond.instanceMethod yX3_coatOf, Cond.selects RX3 yX3_coatOf yX3_coatOf, Cond.code yX3_coatOf cX3_coatOf 3 (some .int), Cond.methodLink RX3 89 yX3_others, Cond.instanceMethod yX3_others, Cond.selects RX3 yX3_others yX3_others, Cond.code yX3_others cX3_others 1 (some .int)]
def wsX3_leadWith : List Cond := .code yX3_leadWith cX3_leadWith 4 (some .int) :: ((wsX3_leadWith_r1 ++ (wsX3_leadWith_r2 ++ wsX3_leadWith_r3)) ++ wsX30)
def wsX3_bestCut_r1 : List Cond := [Cond.methodLink RX3 106 yX3_isOver, Cond.instanceMethod yX3_isOver, Cond.selects RX3 yX3_isOver yX3_isOver, Cond.initialized RX3, Cond.code yX3_isOver cX3_isOver 1 (some .boolean), Cond.fieldLink RX3 7 "BoltTailorsModel" "s" "[I", Cond.methodLink RX3 110 yX3_laysLeads, Cond.instanceMethod yX3_laysLeads, Cond.selects RX3 yX3_laysLeads yX3_laysLeads, Cond.code yX3_laysLeads cX3_laysLeads 4 none, Cond.methodLink RX3 81 yX3_laysLead, Cond.instanceMethod yX3_laysLead, Cond.selects RX3 yX3_laysLead yX3_laysLead, Cond.code yX3_laysLead cX3_laysLead 9 none, Cond.fieldLink RX3 25 "BoltTailorsModel" "leads" "[I", Cond.methodLink RX3 73 yX3_most, Cond.instanceMethod yX3_most, Cond.selects RX3 yX3_most yX3_most, Cond.code yX3_most cX3_most 2 (some .int), Cond.methodLink RX3 77 yX3_leadBy, Cond.instanceMethod yX3_leadBy, Cond.selects RX3 yX3_leadBy yX3_leadBy, Cond.code yX3_leadBy cX3_leadBy 9 (some .int), Cond.methodLink RX3 46 yX3_firstOf]
def wsX3_bestCut_r2 : List Cond := [Cond.static yX3_firstOf, Cond.code yX3_firstOf cX3_firstOf 4 (some .int), Cond.methodLink RX3 54 yX3_worthOf, Cond.instanceMethod yX3_worthOf, Cond.selects RX3 yX3_worthOf yX3_worthOf, Cond.code yX3_worthOf cX3_worthOf 4 (some .int), Cond.methodLink RX3 39 yX3_folds, Cond.instanceMethod yX3_folds, Cond.selects RX3 yX3_folds yX3_folds, Cond.code yX3_folds cX3_folds 5 (some .boolean), Cond.methodLink RX3 43 yX3_matches, Cond.instanceMethod yX3_matches, Cond.selects RX3 yX3_matches yX3_matches, Cond.code yX3_matches cX3_matches 3 (some .boolean), Cond.methodLink RX3 69 yX3_leadAt, Cond.instanceMethod yX3_leadAt, Cond.selects RX3 yX3_leadAt yX3_leadAt, Cond.code yX3_leadAt cX3_leadAt 5 (some .int), Cond.methodLink RX3 66 yX3_rowOf, Cond.static yX3_rowOf, Cond.code yX3_rowOf cX3_rowOf 2 (some .int), Cond.methodLink RX3 92 yX3_choice, Cond.instanceMethod yX3_choice, Cond.selects RX3 yX3_choice yX3_choice]
def wsX3_bestCut_r3 : List Cond := [Cond.code yX3_choice cX3_choice 10 (some .int), Cond.methodLink RX3 85 yX3_own, Cond.instanceMethod yX3_own, Cond.selects RX3 yX3_own yX3_own, Cond.code yX3_own cX3_own 1 (some .int), Cond.methodLink RX3 50 yX3_coatOf, Cond.instanceMethod yX3_coatOf, Cond.selects RX3 yX3_coatOf yX3_coatOf, Cond.code yX3_coatOf cX3_coatOf 3 (some .int), Cond.methodLink RX3 89 yX3_others, Cond.instanceMethod yX3_others, Cond.selects RX3 yX3_others yX3_others, Cond.code yX3_others cX3_others 1 (some .int)]
def wsX3_bestCut : List Cond := .code yX3_bestCut cX3_bestCut 1 (some .int) :: ((wsX3_bestCut_r1 ++ (wsX3_bestCut_r2 ++ wsX3_bestCut_r3)) ++ wsX30)
def wsX3_ended_r1 : List Cond := [Cond.fieldLink RX3 7 "BoltTailorsModel" "s" "[I", Cond.fieldLink RX3 13 "BoltTailorsModel" "aside" "[I", Cond.methodLink RX3 62 yX3_in, Cond.static yX3_in, Cond.initialized RX3, Cond.code yX3_in cX3_in 3 (some .boolean), Cond.methodLink RX3 110 yX3_laysLeads, Cond.instanceMethod yX3_laysLeads, Cond.selects RX3 yX3_laysLeads yX3_laysLeads, Cond.code yX3_laysLeads cX3_laysLeads 4 none, Cond.methodLink RX3 81 yX3_laysLead, Cond.instanceMethod yX3_laysLead, Cond.selects RX3 yX3_laysLead yX3_laysLead, Cond.code yX3_laysLead cX3_laysLead 9 none, Cond.fieldLink RX3 25 "BoltTailorsModel" "leads" "[I", Cond.methodLink RX3 73 yX3_most, Cond.instanceMethod yX3_most, Cond.selects RX3 yX3_most yX3_most, Cond.code yX3_most cX3_most 2 (some .int), Cond.methodLink RX3 77 yX3_leadBy, Cond.instanceMethod yX3_leadBy, Cond.selects RX3 yX3_leadBy yX3_leadBy, Cond.code yX3_leadBy cX3_leadBy 9 (some .int), Cond.methodLink RX3 46 yX3_firstOf]
def wsX3_ended_r2 : List Cond := [Cond.static yX3_firstOf, Cond.code yX3_firstOf cX3_firstOf 4 (some .int), Cond.methodLink RX3 54 yX3_worthOf, Cond.instanceMethod yX3_worthOf, Cond.selects RX3 yX3_worthOf yX3_worthOf, Cond.code yX3_worthOf cX3_worthOf 4 (some .int), Cond.methodLink RX3 39 yX3_folds, Cond.instanceMethod yX3_folds, Cond.selects RX3 yX3_folds yX3_folds, Cond.code yX3_folds cX3_folds 5 (some .boolean), Cond.methodLink RX3 43 yX3_matches, Cond.instanceMethod yX3_matches, Cond.selects RX3 yX3_matches yX3_matches, Cond.code yX3_matches cX3_matches 3 (some .boolean), Cond.methodLink RX3 69 yX3_leadAt, Cond.instanceMethod yX3_leadAt, Cond.selects RX3 yX3_leadAt yX3_leadAt, Cond.code yX3_leadAt cX3_leadAt 5 (some .int), Cond.methodLink RX3 66 yX3_rowOf, Cond.static yX3_rowOf, Cond.code yX3_rowOf cX3_rowOf 2 (some .int), Cond.methodLink RX3 35 yX3_copies, Cond.static yX3_copies, Cond.code yX3_copies cX3_copies 5 none]
def wsX3_ended_r3 : List Cond := [Cond.methodLink RX3 106 yX3_isOver, Cond.instanceMethod yX3_isOver, Cond.selects RX3 yX3_isOver yX3_isOver, Cond.code yX3_isOver cX3_isOver 1 (some .boolean), Cond.methodLink RX3 113 yX3_cutsBy, Cond.instanceMethod yX3_cutsBy, Cond.selects RX3 yX3_cutsBy yX3_cutsBy, Cond.code yX3_cutsBy cX3_cutsBy 3 (some .int), Cond.methodLink RX3 92 yX3_choice, Cond.instanceMethod yX3_choice, Cond.selects RX3 yX3_choice yX3_choice, Cond.code yX3_choice cX3_choice 10 (some .int), Cond.methodLink RX3 85 yX3_own, Cond.instanceMethod yX3_own, Cond.selects RX3 yX3_own yX3_own, Cond.code yX3_own cX3_own 1 (some .int), Cond.methodLink RX3 50 yX3_coatOf, Cond.instanceMethod yX3_coatOf, Cond.selects RX3 yX3_coatOf yX3_coatOf, Cond.code yX3_coatOf cX3_coatOf 3 (some .int), Cond.methodLink RX3 89 yX3_others, Cond.instanceMethod yX3_others, Cond.selects RX3 yX3_others yX3_others, Cond.code yX3_others cX3_others 1 (some .int)]
def wsX3_ended_r4 : List Cond := [Cond.methodLink RX3 96 yX3_goCut, Cond.instanceMethod yX3_goCut, Cond.selects RX3 yX3_goCut yX3_goCut, Cond.code yX3_goCut cX3_goCut 8 (some .int), Cond.methodLink RX3 58 yX3_adds, Cond.instanceMethod yX3_adds, Cond.selects RX3 yX3_adds yX3_adds, Cond.code yX3_adds cX3_adds 4 none]
def wsX3_ended : List Cond := .code yX3_ended cX3_ended 5 (some .int) :: ((wsX3_ended_r1 ++ (wsX3_ended_r2 ++ (wsX3_ended_r3 ++ wsX3_ended_r4))) ++ wsX30)
def wsX3_rate : List Cond := .code yX3_rate cX3_rate 2 (some .double) :: ([.methodLink RX3 50 yX3_coatOf, .instanceMethod yX3_coatOf, .selects RX3 yX3_coatOf yX3_coatOf, .initialized RX3, .code yX3_coatOf cX3_coatOf 3 (some .int), .fieldLink RX3 7 "BoltTailorsModel" "s" "[I"] ++ wsX30)
def wsX3_undo : List Cond := .code yX3_undo cX3_undo 1 (some .int) :: ([.fieldLink RX3 31 "BoltTailorsModel" "known" "I", .fieldLink RX3 16 "BoltTailorsModel" "past" "[I", .fieldLink RX3 7 "BoltTailorsModel" "s" "[I", .methodLink RX3 35 yX3_copies, .static yX3_copies, .initialized RX3, .code yX3_copies cX3_copies 5 none] ++ wsX30)
def wsX3_save : List Cond := .code yX3_save cX3_save 1 (some .int) :: ([.fieldLink RX3 7 "BoltTailorsModel" "s" "[I", .fieldLink RX3 19 "BoltTailorsModel" "kept" "[I", .fieldLink RX3 176 "BoltTailorsModel" "isKept" "Z", .methodLink RX3 35 yX3_copies, .static yX3_copies, .initialized RX3, .code yX3_copies cX3_copies 5 none] ++ wsX30)
def wsX3_restore : List Cond := .code yX3_restore cX3_restore 1 (some .int) :: ([.fieldLink RX3 176 "BoltTailorsModel" "isKept" "Z", .fieldLink RX3 19 "BoltTailorsModel" "kept" "[I", .fieldLink RX3 7 "BoltTailorsModel" "s" "[I", .methodLink RX3 103 yX3_records, .instanceMethod yX3_records, .selects RX3 yX3_records yX3_records, .initialized RX3, .code yX3_records cX3_records 2 none, .fieldLink RX3 31 "BoltTailorsModel" "known" "I", .fieldLink RX3 16 "BoltTailorsModel" "past" "[I", .methodLink RX3 35 yX3_copies, .static yX3_copies, .code yX3_copies cX3_copies 5 none] ++ wsX30)
def wsJ9_max_7cf53 : List Cond := .code yJ9_max_7cf53 cJ9_max_7cf53 2 (some .int) :: ([])
def wsJ9_min_7cf53 : List Cond := .code yJ9_min_7cf53 cJ9_min_7cf53 2 (some .int) :: ([])
abbrev vwCl : List vw_C := [(RX0, TX0, 10), (RX1, TX1, 4), (RX2, TX2, 10), (RX3, TX3, 14)]
end
section
/-- a method: name, code, locals, answer, kind (0 static, 1 by object, 2 constructor), arguments, class -/
abbrev qzMT : Type := MethodName × ByteArray × Nat × Option FieldType × Nat × Nat × Nat
def qzM_0 : List qzMT := [(yX0_init, cX0_init, 2, none, 2, 0, 0), (yX0_copyFrom, cX0_copyFrom, 2, none, 1, 1, 0), (yX0_begin, cX0_begin, 1, none, 1, 0, 0), (yX0_remaining, cX0_remaining, 1, (some .int), 1, 0, 0), (yX0_isOver, cX0_isOver, 1, (some .boolean), 1, 0, 0), (yX0_onTurn, cX0_onTurn, 1, (some .int), 1, 0, 0), (yX0_longestCut, cX0_longestCut, 1, (some .int), 1, 0, 0), (yX0_worthOfCut, cX0_worthOfCut, 4, (some .int), 1, 1, 0), (yX0_sew, cX0_sew, 6, (some .int), 1, 1, 0), (yX0_turnRound, cX0_turnRound, 5, (some .int), 1, 0, 0), (yX0_piecesOf, cX0_piecesOf, 2, (some .int), 1, 1, 0), (yX0_endOfCoat, cX0_endOfCoat, 4, (some .int), 1, 1, 0), (yX0_sumOfCoat, cX0_sumOfCoat, 5, (some .int), 1, 2, 0), (yX0_piecesWith, cX0_piecesWith, 5, (some .int), 1, 2, 0), (yX0_colourChanges, cX0_colourChanges, 3, (some .int), 1, 0, 0), (yX0_stripesLeftOf, cX0_stripesLeftOf, 4, (some .int), 1, 1, 0), (yX0_coloursLeft, cX0_coloursLeft, 3, (some .int), 1, 0, 0), (yX0_longestFold, cX0_longestFold, 3, (some .int), 1, 0, 0), (yX1_init, cX1_init, 1, none, 2, 0, 1), (yX1_fitTo, cX1_fitTo, 2, none, 1, 1, 1), (yX1_isFor, cX1_isFor, 4, (some .boolean), 1, 1, 1), (yX1_told, cX1_told, 5, (some .int), 1, 4, 1), (yX1_keep, cX1_keep, 6, none, 1, 5, 1), (yX1_place, cX1_place, 4, (some .int), 0, 4, 1), (yX2_init, cX2_init, 2, none, 2, 0, 2)]
def qzM_1 : List qzMT := [(yX2_cut, cX2_cut, 4, (some .int), 1, 2, 2), (yX2_best, cX2_best, 1, (some .int), 1, 0, 2), (yX2_greedy, cX2_greedy, 1, (some .int), 1, 0, 2), (yX2_again, cX2_again, 1, (some .int), 1, 0, 2), (yX2_mirror, cX2_mirror, 1, (some .int), 1, 0, 2), (yX2_set, cX2_set, 4, (some .int), 1, 2, 2), (yX2_append, cX2_append, 2, (some .int), 1, 1, 2), (yX2_clear, cX2_clear, 2, (some .int), 1, 0, 2), (yX2_fault, cX2_fault, 2, (some .int), 1, 1, 2), (yX2_load, cX2_load, 2, (some .int), 1, 0, 2), (yX2_play, cX2_play, 4, (some .int), 1, 0, 2), (yX2_stripe, cX2_stripe, 2, (some .int), 1, 1, 2), (yX2_coat, cX2_coat, 4, (some .int), 1, 2, 2), (yX2_piece, cX2_piece, 5, (some .int), 1, 3, 2), (yX2_count, cX2_count, 3, (some .int), 1, 1, 2), (yX2_left, cX2_left, 2, (some .int), 1, 1, 2), (yX2_worth, cX2_worth, 4, (some .int), 1, 2, 2), (yX2_lead, cX2_lead, 2, (some .int), 1, 1, 2), (yX2_leadWith, cX2_leadWith, 4, (some .int), 1, 2, 2), (yX2_bestCut, cX2_bestCut, 1, (some .int), 1, 0, 2), (yX2_ended, cX2_ended, 5, (some .int), 1, 3, 2), (yX2_rate, cX2_rate, 3, (some .double), 1, 0, 2), (yX2_undo, cX2_undo, 2, (some .int), 1, 0, 2), (yX2_save, cX2_save, 1, (some .int), 1, 0, 2), (yX2_restore, cX2_restore, 1, (some .int), 1, 0, 2)]
def qzM_2 : List qzMT := [(yX2_pastAt, cX2_pastAt, 2, (some (.object "BoltTailors$Game")), 1, 1, 2), (yX2_record, cX2_record, 2, none, 1, 0, 2), (yX2_dropOldest, cX2_dropOldest, 3, none, 1, 0, 2), (yX2_codeOf, cX2_codeOf, 2, (some .int), 0, 2, 2), (yX2_isFromLeft, cX2_isFromLeft, 1, (some .boolean), 0, 1, 2), (yX2_sizeOf, cX2_sizeOf, 1, (some .int), 0, 1, 2), (yX2_pieceStart, cX2_pieceStart, 3, (some .int), 0, 3, 2), (yX2_restStart, cX2_restStart, 2, (some .int), 0, 2, 2), (yX2_restEnd, cX2_restEnd, 2, (some .int), 0, 2, 2), (yX2_errorOfCut, cX2_errorOfCut, 2, (some .int), 1, 1, 2), (yX2_cutBy, cX2_cutBy, 3, (some .int), 1, 1, 2), (yX2_choice, cX2_choice, 12, (some .int), 1, 2, 2), (yX2_leadTold, cX2_leadTold, 4, (some .int), 1, 1, 2), (yX2_tellRows, cX2_tellRows, 7, none, 0, 3, 2), (yX2_raiseRow, cX2_raiseRow, 14, none, 0, 4, 2), (yX2_leadGoneInto, cX2_leadGoneInto, 4, (some .int), 1, 1, 2), (yX2_leadOfCut, cX2_leadOfCut, 5, (some .int), 1, 2, 2), (yX2_goInto, cX2_goInto, 9, (some .int), 0, 6, 2), (yX2_goThrough, cX2_goThrough, 11, (some .int), 0, 7, 2), (yX2_traitsOf, cX2_traitsOf, 5, (some .int), 0, 4, 2), (yX2_worthOf, cX2_worthOf, 5, (some .int), 0, 3, 2), (yX2_isFold, cX2_isFold, 4, (some .boolean), 0, 3, 2), (yX2_signAt, cX2_signAt, 2, (some .char), 1, 1, 2), (yX2_digitAt, cX2_digitAt, 3, (some .int), 1, 1, 2), (yX2_isSide, cX2_isSide, 1, (some .boolean), 0, 1, 2)]
def qzM_3 : List qzMT := [(yX2_lettersAhead, cX2_lettersAhead, 2, (some .int), 1, 0, 2), (yX2_faultAsBolt, cX2_faultAsBolt, 2, (some .int), 1, 0, 2), (yX2_faultBehindStar, cX2_faultBehindStar, 5, (some .int), 1, 1, 2), (yX2_digitsOfNumber, cX2_digitsOfNumber, 4, (some .int), 1, 1, 2), (yX2_faultAsCuts, cX2_faultAsCuts, 4, (some .int), 1, 0, 2), (yX2_layPattern, cX2_layPattern, 6, none, 1, 1, 2), (yX2_layLetters, cX2_layLetters, 5, none, 1, 3, 2), (yX2_codeOnPad, cX2_codeOnPad, 4, (some .int), 1, 1, 2), (yX2_isNoTailor, cX2_isNoTailor, 1, (some .boolean), 0, 1, 2), (yX2_at, cX2_at, 2, (some .int), 0, 2, 2), (yX2_put, cX2_put, 3, none, 0, 3, 2), (yX3_init, cX3_init, 2, none, 2, 0, 3), (yX3_in, cX3_in, 3, (some .boolean), 0, 3, 3), (yX3_copies, cX3_copies, 5, none, 0, 4, 3), (yX3_records, cX3_records, 2, none, 1, 0, 3), (yX3_beginsAgain, cX3_beginsAgain, 2, none, 1, 0, 3), (yX3_coatOf, cX3_coatOf, 3, (some .int), 1, 2, 3), (yX3_adds, cX3_adds, 4, none, 1, 3, 3), (yX3_isOver, cX3_isOver, 1, (some .boolean), 1, 0, 3), (yX3_firstOf, cX3_firstOf, 4, (some .int), 0, 4, 3), (yX3_folds, cX3_folds, 5, (some .boolean), 1, 2, 3), (yX3_matches, cX3_matches, 3, (some .boolean), 1, 2, 3), (yX3_worthOf, cX3_worthOf, 4, (some .int), 1, 3, 3), (yX3_goCut, cX3_goCut, 8, (some .int), 1, 2, 3), (yX3_errorCut, cX3_errorCut, 2, (some .int), 1, 1, 3)]
def qzM_4 : List qzMT := [(yX3_rowOf, cX3_rowOf, 2, (some .int), 0, 2, 3), (yX3_leadAt, cX3_leadAt, 5, (some .int), 1, 4, 3), (yX3_most, cX3_most, 2, (some .int), 1, 1, 3), (yX3_leadBy, cX3_leadBy, 9, (some .int), 1, 6, 3), (yX3_laysLead, cX3_laysLead, 9, none, 1, 4, 3), (yX3_laysLeads, cX3_laysLeads, 4, none, 1, 0, 3), (yX3_own, cX3_own, 1, (some .int), 1, 0, 3), (yX3_others, cX3_others, 1, (some .int), 1, 0, 3), (yX3_choice, cX3_choice, 10, (some .int), 1, 1, 3), (yX3_cutsBy, cX3_cutsBy, 3, (some .int), 1, 1, 3), (yX3_cut, cX3_cut, 4, (some .int), 1, 2, 3), (yX3_best, cX3_best, 1, (some .int), 1, 0, 3), (yX3_greedy, cX3_greedy, 1, (some .int), 1, 0, 3), (yX3_again, cX3_again, 1, (some .int), 1, 0, 3), (yX3_mirror, cX3_mirror, 6, (some .int), 1, 0, 3), (yX3_set, cX3_set, 4, (some .int), 1, 2, 3), (yX3_append, cX3_append, 2, (some .int), 1, 1, 3), (yX3_clear, cX3_clear, 2, (some .int), 1, 0, 3), (yX3_here, cX3_here, 1, (some .int), 1, 0, 3), (yX3_takes, cX3_takes, 2, none, 1, 1, 3), (yX3_takesDigit, cX3_takesDigit, 4, (some .int), 1, 2, 3), (yX3_isLetter, cX3_isLetter, 1, (some .boolean), 0, 1, 3), (yX3_takesRule, cX3_takesRule, 1, none, 1, 0, 3), (yX3_isBolt, cX3_isBolt, 1, (some .boolean), 1, 0, 3), (yX3_takesCut, cX3_takesCut, 3, none, 1, 0, 3)]
def qzM_5 : List qzMT := [(yX3_areCuts, cX3_areCuts, 1, (some .boolean), 1, 0, 3), (yX3_fault, cX3_fault, 2, (some .int), 1, 1, 3), (yX3_load, cX3_load, 2, (some .int), 1, 0, 3), (yX3_makes, cX3_makes, 6, (some .boolean), 1, 1, 3), (yX3_play, cX3_play, 4, (some .int), 1, 0, 3), (yX3_stripe, cX3_stripe, 2, (some .int), 1, 1, 3), (yX3_coat, cX3_coat, 3, (some .int), 1, 2, 3), (yX3_piece, cX3_piece, 4, (some .int), 1, 3, 3), (yX3_changes, cX3_changes, 3, (some .int), 1, 0, 3), (yX3_leftOf, cX3_leftOf, 4, (some .int), 1, 1, 3), (yX3_coloursLeft, cX3_coloursLeft, 3, (some .int), 1, 0, 3), (yX3_longestFold, cX3_longestFold, 4, (some .int), 1, 0, 3), (yX3_count, cX3_count, 2, (some .int), 1, 1, 3), (yX3_left, cX3_left, 2, (some .int), 1, 1, 3), (yX3_worth, cX3_worth, 4, (some .int), 1, 2, 3), (yX3_lead, cX3_lead, 2, (some .int), 1, 1, 3), (yX3_leadWith, cX3_leadWith, 4, (some .int), 1, 2, 3), (yX3_bestCut, cX3_bestCut, 1, (some .int), 1, 0, 3), (yX3_ended, cX3_ended, 5, (some .int), 1, 3, 3), (yX3_rate, cX3_rate, 2, (some .double), 1, 0, 3), (yX3_undo, cX3_undo, 1, (some .int), 1, 0, 3), (yX3_save, cX3_save, 1, (some .int), 1, 0, 3), (yX3_restore, cX3_restore, 1, (some .int), 1, 0, 3), (yJ7_fill_53178, cJ7_fill_53178, 4, none, 0, 2, 4)]
def qzM : List qzMT := qzM_0 ++ (qzM_1 ++ (qzM_2 ++ (qzM_3 ++ (qzM_4 ++ (qzM_5)))))
def qzMd (mi : Nat) : qzMT := qzM.getD mi (yX0_init, cX0_init, 1, none, 9, 0, 0)
/-- calls: (class, place) to (method, of a nest mate) -/
def qzCl_0 : List ((Nat × Nat) × (Nat × Bool)) := [((0, 54), (84, true)), ((0, 58), (85, true)), ((0, 72), (3, false)), ((0, 81), (55, true)), ((0, 85), (56, true)), ((0, 89), (5, false)), ((0, 92), (11, false)), ((0, 95), (69, true)), ((0, 99), (70, true)), ((0, 103), (54, true)), ((0, 107), (57, true)), ((0, 110), (58, true)), ((0, 113), (10, false)), ((0, 116), (15, false)), ((0, 119), (71, true)), ((1, 21), (20, false)), ((1, 41), (148, false)), ((1, 47), (84, true)), ((1, 51), (23, false)), ((1, 55), (85, true)), ((2, 9), (0, false)), ((2, 32), (18, true)), ((2, 40), (59, false)), ((2, 44), (51, false)), ((2, 47), (53, false)), ((2, 51), (8, false)), ((2, 54), (60, false)), ((2, 57), (2, false)), ((2, 64), (9, false)), ((2, 72), (84, false)), ((2, 82), (85, false)), ((2, 89), (76, false)), ((2, 92), (79, false)), ((2, 95), (75, false)), ((2, 98), (72, false)), ((2, 102), (80, false)), ((2, 106), (81, false)), ((2, 110), (82, false)), ((2, 113), (74, false)), ((2, 120), (83, false))]
def qzCl_1 : List ((Nat × Nat) × (Nat × Bool)) := [((2, 127), (12, false)), ((2, 130), (10, false)), ((2, 136), (11, false)), ((2, 139), (13, false)), ((2, 149), (4, false)), ((2, 153), (3, false)), ((2, 162), (5, false)), ((2, 168), (14, false)), ((2, 171), (16, false)), ((2, 174), (17, false)), ((2, 180), (15, false)), ((2, 183), (7, false)), ((2, 186), (62, false)), ((2, 190), (65, false)), ((2, 193), (66, false)), ((2, 197), (61, false)), ((2, 200), (1, false)), ((2, 204), (50, false)), ((2, 212), (52, false)), ((2, 215), (54, false)), ((2, 218), (55, false)), ((2, 221), (6, false)), ((2, 224), (19, false)), ((2, 228), (68, false)), ((2, 232), (21, false)), ((2, 236), (63, false)), ((2, 241), (64, false)), ((2, 245), (56, false)), ((2, 250), (69, false)), ((2, 254), (70, false)), ((2, 258), (57, false)), ((2, 261), (58, false)), ((2, 264), (22, false)), ((2, 268), (67, false)), ((2, 280), (71, false)), ((2, 284), (77, false)), ((2, 287), (78, false)), ((2, 290), (73, false)), ((3, 28), (90, false)), ((3, 35), (88, false))]
def qzCl_2 : List ((Nat × Nat) × (Nat × Bool)) := [((3, 39), (95, false)), ((3, 43), (96, false)), ((3, 46), (94, false)), ((3, 50), (91, false)), ((3, 54), (97, false)), ((3, 58), (92, false)), ((3, 62), (87, false)), ((3, 66), (100, false)), ((3, 69), (101, false)), ((3, 73), (102, false)), ((3, 77), (103, false)), ((3, 81), (104, false)), ((3, 85), (106, false)), ((3, 89), (107, false)), ((3, 92), (108, false)), ((3, 96), (98, false)), ((3, 100), (99, false)), ((3, 103), (89, false)), ((3, 106), (93, false)), ((3, 110), (105, false)), ((3, 113), (109, false)), ((3, 126), (118, false)), ((3, 129), (119, false)), ((3, 133), (120, false)), ((3, 145), (121, false)), ((3, 149), (122, false)), ((3, 152), (124, false)), ((3, 155), (123, false)), ((3, 158), (125, false)), ((3, 161), (128, false)), ((3, 164), (134, false)), ((3, 167), (133, false)), ((3, 170), (135, false)), ((3, 173), (136, false))]
def qzCl : List ((Nat × Nat) × (Nat × Bool)) := qzCl_0 ++ (qzCl_1 ++ (qzCl_2))
/-- fields: (class, place) to (class, slot) -/
def qzFl_0 : List ((Nat × Nat) × (Nat × Nat)) := [((0, 9), (0, 0)), ((0, 15), (0, 1)), ((0, 18), (0, 2)), ((0, 21), (0, 3)), ((0, 24), (0, 4)), ((0, 27), (0, 5)), ((0, 38), (0, 6)), ((0, 42), (0, 7)), ((0, 45), (0, 8)), ((0, 48), (0, 9)), ((1, 9), (1, 0)), ((1, 15), (1, 1)), ((1, 18), (1, 2)), ((1, 25), (0, 0)), ((1, 34), (0, 1)), ((1, 35), (0, 6)), ((1, 39), (1, 3)), ((2, 10), (2, 0)), ((2, 16), (2, 1)), ((2, 19), (2, 2)), ((2, 22), (2, 4)), ((2, 26), (2, 6)), ((2, 33), (2, 8)), ((2, 37), (2, 9)), ((2, 60), (0, 6)), ((2, 79), (0, 1)), ((2, 86), (2, 7)), ((2, 117), (0, 0)), ((2, 124), (0, 4)), ((2, 133), (0, 3)), ((2, 143), (0, 2)), ((2, 146), (0, 5)), ((2, 156), (0, 7)), ((2, 159), (0, 8)), ((2, 165), (0, 9)), ((2, 177), (2, 5)), ((2, 208), (2, 3)), ((2, 240), (1, 1)), ((2, 249), (1, 0)), ((3, 7), (3, 0))]
def qzFl_1 : List ((Nat × Nat) × (Nat × Nat)) := [((3, 13), (3, 1)), ((3, 16), (3, 2)), ((3, 19), (3, 4)), ((3, 22), (3, 6)), ((3, 25), (3, 8)), ((3, 31), (3, 3)), ((3, 116), (3, 7)), ((3, 119), (3, 9)), ((3, 122), (3, 10)), ((3, 136), (3, 12)), ((3, 139), (3, 11)), ((3, 142), (3, 13)), ((3, 176), (3, 5))]
def qzFl : List ((Nat × Nat) × (Nat × Nat)) := qzFl_0 ++ (qzFl_1)
def qzFind {α : Type} (l : List ((Nat × Nat) × α)) (a b : Nat) : Option α := match l with
  | [] => none
  | e :: l => if e.1.1 = a ∧ e.1.2 = b then some e.2 else qzFind l a b
def qzRs (oc : Nat) : String := match oc with | 0 => RX0 | 1 => RX1 | 2 => RX2 | 3 => RX3 | _ => RJ7
def qzTs (ci : Nat) : u_T := match ci with | 0 => TX0 | 1 => TX1 | 2 => TX2 | _ => TX3
def qzTy (ci : Nat) : Nat → FieldType := match ci with | 0 => tyX0 | 1 => tyX1 | 2 => tyX2 | _ => tyX3
def qzNf (ci : Nat) : Nat := match ci with | 0 => 10 | 1 => 4 | 2 => 10 | _ => 14
/-- the objects in the order in which they are made: kind (0 to 3 a class, 4 int[], 5 char[], 6 Game[]), fields or length -/
def qzK : List (Nat × Nat) := [(2, 10), (0, 10), (4, 20), (4, 3), (4, 20), (4, 20), (4, 20), (4, 20), (0, 10), (4, 20), (4, 3), (4, 20), (4, 20), (4, 20), (4, 20), (0, 10), (4, 20), (4, 3), (4, 20), (4, 20), (4, 20), (4, 20), (6, 4), (5, 60), (1, 4), (4, 20), (4, 3), (4, 10290), (1, 4), (4, 20), (4, 3), (4, 10290), (0, 10), (4, 20), (4, 3), (4, 20), (4, 20), (4, 20), (4, 20), (0, 10), (4, 20), (4, 3), (4, 20), (4, 20), (4, 20), (4, 20), (0, 10), (4, 20), (4, 3), (4, 20), (4, 20), (4, 20), (4, 20), (0, 10), (4, 20), (4, 3), (4, 20), (4, 20), (4, 20), (4, 20), (3, 14), (4, 120), (4, 120), (4, 480), (4, 120), (4, 60), (4, 10290)]
def qzk (i : Nat) : Nat × Nat := qzK.getD i (9, 0)
def qzSl (n : Nat) : Nat := ((qzK.take n).map (fun q => q.2)).sum
def qzNst : List (Nat × Nat × MethodName × String) := [(0, 54, yX2_at, "BoltTailors"), (0, 58, yX2_put, "BoltTailors"), (0, 81, yX2_sizeOf, "BoltTailors"), (0, 85, yX2_pieceStart, "BoltTailors"), (0, 95, yX2_traitsOf, "BoltTailors"), (0, 99, yX2_worthOf, "BoltTailors"), (0, 103, yX2_isFromLeft, "BoltTailors"), (0, 107, yX2_restStart, "BoltTailors"), (0, 110, yX2_restEnd, "BoltTailors"), (0, 119, yX2_isFold, "BoltTailors"), (1, 47, yX2_at, "BoltTailors"), (1, 55, yX2_put, "BoltTailors"), (2, 32, yX1_init, "BoltTailors")]
end
section
/-- the words that every contract of the interpreter stands on -/
def qzWs : List Cond := lw_tbl.filter goodWord
theorem qzWs_in {w : Cond} (i : Nat) (h : lw_tbl[i]? = some w) (hg : goodWord w = true) : w ∈ qzWs := List.mem_filter.mpr ⟨List.mem_of_getElem? h, hg⟩
theorem qzWs_good : GoodIn qzWs qzWs := fun w hw => ⟨hw, good_of_word (List.mem_filter.mp hw).2⟩
theorem qzWs_sub : ∀ w ∈ qzWs, w ∈ lw_tbl := fun _ hw => (List.mem_filter.mp hw).1
/-- what the tables say of a method -/
def qzPm (md : qzMT) : Prop := plainName md.1.cls = true ∧ Cond.code md.1 md.2.1 md.2.2.1 md.2.2.2.1 ∈ qzWs ∧ Cond.initialized md.1.cls ∈ qzWs ∧ (md.1.cls ≠ "java/lang/invoke/MethodHandle" ∧ md.1.cls ≠ "java/lang/invoke/VarHandle" ∧ (parseMethodDescriptor md.1.desc).map (fun d => d.parameters.length) = some md.2.2.2.2.2.1) ∧ (md.2.2.1 ≤ 41 ∧ md.2.2.2.2.2.1 + (if md.2.2.2.2.1 = 0 then 0 else 1) ≤ md.2.2.1 ∧ md.1.cls = qzRs md.2.2.2.2.2.2) ∧
  (md.2.2.2.2.1 = 0 → Cond.static md.1 ∈ qzWs) ∧ (md.2.2.2.2.1 = 1 → Cond.instanceMethod md.1 ∈ qzWs ∧ Cond.selects md.1.cls md.1 md.1 ∈ qzWs) ∧ (md.2.2.2.2.1 = 2 → md.1.name = "<init>" ∧ Cond.instanceMethod md.1 ∈ qzWs ∧ md.2.2.2.1 = none)
theorem qzi_RX2 : Cond.initialized RX2 ∈ qzWs := qzWs_in 51 (by decide +kernel) rfl
theorem qzi_RX0 : Cond.initialized RX0 ∈ qzWs := qzWs_in 52 (by decide +kernel) rfl
theorem qzi_RX1 : Cond.initialized RX1 ∈ qzWs := qzWs_in 57 (by decide +kernel) rfl
theorem qzi_RX3 : Cond.initialized RX3 ∈ qzWs := qzWs_in 58 (by decide +kernel) rfl
theorem qzi_RJ7 : Cond.initialized RJ7 ∈ qzWs := qzWs_in 61 (by decide +kernel) rfl
set_option maxRecDepth 20000 in
theorem qzm_0 : qzPm (yX0_init, cX0_init, 2, none, 2, 0, 0) := ⟨by decide +kernel, qzWs_in 74 (by decide +kernel) rfl, qzi_RX0, ⟨by decide +kernel, by decide +kernel, by decide +kernel⟩, ⟨by decide, by decide, rfl⟩, (fun h => absurd h (by decide)), (fun h => absurd h (by decide)), (fun _ => ⟨rfl, qzWs_in 73 (by decide +kernel) rfl, rfl⟩)⟩
set_option maxRecDepth 20000 in
theorem qzm_1 : qzPm (yX0_copyFrom, cX0_copyFrom, 2, none, 1, 1, 0) := ⟨by decide +kernel, qzWs_in 267 (by decide +kernel) rfl, qzi_RX0, ⟨by decide +kernel, by decide +kernel, by decide +kernel⟩, ⟨by decide, by decide, rfl⟩, (fun h => absurd h (by decide)), (fun _ => ⟨qzWs_in 265 (by decide +kernel) rfl, qzWs_in 266 (by decide +kernel) rfl⟩), (fun h => absurd h (by decide))⟩
set_option maxRecDepth 20000 in
theorem qzm_2 : qzPm (yX0_begin, cX0_begin, 1, none, 1, 0, 0) := ⟨by decide +kernel, qzWs_in 388 (by decide +kernel) rfl, qzi_RX0, ⟨by decide +kernel, by decide +kernel, by decide +kernel⟩, ⟨by decide, by decide, rfl⟩, (fun h => absurd h (by decide)), (fun _ => ⟨qzWs_in 386 (by decide +kernel) rfl, qzWs_in 387 (by decide +kernel) rfl⟩), (fun h => absurd h (by decide))⟩
set_option maxRecDepth 20000 in
theorem qzm_3 : qzPm (yX0_remaining, cX0_remaining, 1, (some .int), 1, 0, 0) := ⟨by decide +kernel, qzWs_in 248 (by decide +kernel) rfl, qzi_RX0, ⟨by decide +kernel, by decide +kernel, by decide +kernel⟩, ⟨by decide, by decide, rfl⟩, (fun h => absurd h (by decide)), (fun _ => ⟨qzWs_in 246 (by decide +kernel) rfl, qzWs_in 247 (by decide +kernel) rfl⟩), (fun h => absurd h (by decide))⟩
set_option maxRecDepth 20000 in
theorem qzm_4 : qzPm (yX0_isOver, cX0_isOver, 1, (some .boolean), 1, 0, 0) := ⟨by decide +kernel, qzWs_in 500 (by decide +kernel) rfl, qzi_RX0, ⟨by decide +kernel, by decide +kernel, by decide +kernel⟩, ⟨by decide, by decide, rfl⟩, (fun h => absurd h (by decide)), (fun _ => ⟨qzWs_in 498 (by decide +kernel) rfl, qzWs_in 499 (by decide +kernel) rfl⟩), (fun h => absurd h (by decide))⟩
set_option maxRecDepth 20000 in
theorem qzm_5 : qzPm (yX0_onTurn, cX0_onTurn, 1, (some .int), 1, 0, 0) := ⟨by decide +kernel, qzWs_in 291 (by decide +kernel) rfl, qzi_RX0, ⟨by decide +kernel, by decide +kernel, by decide +kernel⟩, ⟨by decide, by decide, rfl⟩, (fun h => absurd h (by decide)), (fun _ => ⟨qzWs_in 289 (by decide +kernel) rfl, qzWs_in 290 (by decide +kernel) rfl⟩), (fun h => absurd h (by decide))⟩
set_option maxRecDepth 20000 in
theorem qzm_6 : qzPm (yX0_longestCut, cX0_longestCut, 1, (some .int), 1, 0, 0) := ⟨by decide +kernel, qzWs_in 244 (by decide +kernel) rfl, qzi_RX0, ⟨by decide +kernel, by decide +kernel, by decide +kernel⟩, ⟨by decide, by decide, rfl⟩, (fun h => absurd h (by decide)), (fun _ => ⟨qzWs_in 242 (by decide +kernel) rfl, qzWs_in 243 (by decide +kernel) rfl⟩), (fun h => absurd h (by decide))⟩
set_option maxRecDepth 20000 in
theorem qzm_7 : qzPm (yX0_worthOfCut, cX0_worthOfCut, 4, (some .int), 1, 1, 0) := ⟨by decide +kernel, qzWs_in 349 (by decide +kernel) rfl, qzi_RX0, ⟨by decide +kernel, by decide +kernel, by decide +kernel⟩, ⟨by decide, by decide, rfl⟩, (fun h => absurd h (by decide)), (fun _ => ⟨qzWs_in 347 (by decide +kernel) rfl, qzWs_in 348 (by decide +kernel) rfl⟩), (fun h => absurd h (by decide))⟩
set_option maxRecDepth 20000 in
theorem qzm_8 : qzPm (yX0_sew, cX0_sew, 6, (some .int), 1, 1, 0) := ⟨by decide +kernel, qzWs_in 277 (by decide +kernel) rfl, qzi_RX0, ⟨by decide +kernel, by decide +kernel, by decide +kernel⟩, ⟨by decide, by decide, rfl⟩, (fun h => absurd h (by decide)), (fun _ => ⟨qzWs_in 275 (by decide +kernel) rfl, qzWs_in 276 (by decide +kernel) rfl⟩), (fun h => absurd h (by decide))⟩
set_option maxRecDepth 20000 in
theorem qzm_9 : qzPm (yX0_turnRound, cX0_turnRound, 5, (some .int), 1, 0, 0) := ⟨by decide +kernel, qzWs_in 396 (by decide +kernel) rfl, qzi_RX0, ⟨by decide +kernel, by decide +kernel, by decide +kernel⟩, ⟨by decide, by decide, rfl⟩, (fun h => absurd h (by decide)), (fun _ => ⟨qzWs_in 394 (by decide +kernel) rfl, qzWs_in 395 (by decide +kernel) rfl⟩), (fun h => absurd h (by decide))⟩
set_option maxRecDepth 20000 in
theorem qzm_10 : qzPm (yX0_piecesOf, cX0_piecesOf, 2, (some .int), 1, 1, 0) := ⟨by decide +kernel, qzWs_in 299 (by decide +kernel) rfl, qzi_RX0, ⟨by decide +kernel, by decide +kernel, by decide +kernel⟩, ⟨by decide, by decide, rfl⟩, (fun h => absurd h (by decide)), (fun _ => ⟨qzWs_in 297 (by decide +kernel) rfl, qzWs_in 298 (by decide +kernel) rfl⟩), (fun h => absurd h (by decide))⟩
set_option maxRecDepth 20000 in
theorem qzm_11 : qzPm (yX0_endOfCoat, cX0_endOfCoat, 4, (some .int), 1, 1, 0) := ⟨by decide +kernel, qzWs_in 295 (by decide +kernel) rfl, qzi_RX0, ⟨by decide +kernel, by decide +kernel, by decide +kernel⟩, ⟨by decide, by decide, rfl⟩, (fun h => absurd h (by decide)), (fun _ => ⟨qzWs_in 293 (by decide +kernel) rfl, qzWs_in 294 (by decide +kernel) rfl⟩), (fun h => absurd h (by decide))⟩
set_option maxRecDepth 20000 in
theorem qzm_12 : qzPm (yX0_sumOfCoat, cX0_sumOfCoat, 5, (some .int), 1, 2, 0) := ⟨by decide +kernel, qzWs_in 483 (by decide +kernel) rfl, qzi_RX0, ⟨by decide +kernel, by decide +kernel, by decide +kernel⟩, ⟨by decide, by decide, rfl⟩, (fun h => absurd h (by decide)), (fun _ => ⟨qzWs_in 481 (by decide +kernel) rfl, qzWs_in 482 (by decide +kernel) rfl⟩), (fun h => absurd h (by decide))⟩
set_option maxRecDepth 20000 in
theorem qzm_13 : qzPm (yX0_piecesWith, cX0_piecesWith, 5, (some .int), 1, 2, 0) := ⟨by decide +kernel, qzWs_in 488 (by decide +kernel) rfl, qzi_RX0, ⟨by decide +kernel, by decide +kernel, by decide +kernel⟩, ⟨by decide, by decide, rfl⟩, (fun h => absurd h (by decide)), (fun _ => ⟨qzWs_in 486 (by decide +kernel) rfl, qzWs_in 487 (by decide +kernel) rfl⟩), (fun h => absurd h (by decide))⟩
set_option maxRecDepth 20000 in
theorem qzm_14 : qzPm (yX0_colourChanges, cX0_colourChanges, 3, (some .int), 1, 0, 0) := ⟨by decide +kernel, qzWs_in 505 (by decide +kernel) rfl, qzi_RX0, ⟨by decide +kernel, by decide +kernel, by decide +kernel⟩, ⟨by decide, by decide, rfl⟩, (fun h => absurd h (by decide)), (fun _ => ⟨qzWs_in 503 (by decide +kernel) rfl, qzWs_in 504 (by decide +kernel) rfl⟩), (fun h => absurd h (by decide))⟩
set_option maxRecDepth 20000 in
theorem qzm_15 : qzPm (yX0_stripesLeftOf, cX0_stripesLeftOf, 4, (some .int), 1, 1, 0) := ⟨by decide +kernel, qzWs_in 513 (by decide +kernel) rfl, qzi_RX0, ⟨by decide +kernel, by decide +kernel, by decide +kernel⟩, ⟨by decide, by decide, rfl⟩, (fun h => absurd h (by decide)), (fun _ => ⟨qzWs_in 511 (by decide +kernel) rfl, qzWs_in 512 (by decide +kernel) rfl⟩), (fun h => absurd h (by decide))⟩
set_option maxRecDepth 20000 in
theorem qzm_16 : qzPm (yX0_coloursLeft, cX0_coloursLeft, 3, (some .int), 1, 0, 0) := ⟨by decide +kernel, qzWs_in 509 (by decide +kernel) rfl, qzi_RX0, ⟨by decide +kernel, by decide +kernel, by decide +kernel⟩, ⟨by decide, by decide, rfl⟩, (fun h => absurd h (by decide)), (fun _ => ⟨qzWs_in 507 (by decide +kernel) rfl, qzWs_in 508 (by decide +kernel) rfl⟩), (fun h => absurd h (by decide))⟩
set_option maxRecDepth 20000 in
theorem qzm_17 : qzPm (yX0_longestFold, cX0_longestFold, 3, (some .int), 1, 0, 0) := ⟨by decide +kernel, qzWs_in 517 (by decide +kernel) rfl, qzi_RX0, ⟨by decide +kernel, by decide +kernel, by decide +kernel⟩, ⟨by decide, by decide, rfl⟩, (fun h => absurd h (by decide)), (fun _ => ⟨qzWs_in 515 (by decide +kernel) rfl, qzWs_in 516 (by decide +kernel) rfl⟩), (fun h => absurd h (by decide))⟩
set_option maxRecDepth 20000 in
theorem qzm_18 : qzPm (yX1_init, cX1_init, 1, none, 2, 0, 1) := ⟨by decide +kernel, qzWs_in 184 (by decide +kernel) rfl, qzi_RX1, ⟨by decide +kernel, by decide +kernel, by decide +kernel⟩, ⟨by decide, by decide, rfl⟩, (fun h => absurd h (by decide)), (fun h => absurd h (by decide)), (fun _ => ⟨rfl, qzWs_in 183 (by decide +kernel) rfl, rfl⟩)⟩
set_option maxRecDepth 20000 in
theorem qzm_19 : qzPm (yX1_fitTo, cX1_fitTo, 2, none, 1, 1, 1) := ⟨by decide +kernel, qzWs_in 332 (by decide +kernel) rfl, qzi_RX1, ⟨by decide +kernel, by decide +kernel, by decide +kernel⟩, ⟨by decide, by decide, rfl⟩, (fun h => absurd h (by decide)), (fun _ => ⟨qzWs_in 330 (by decide +kernel) rfl, qzWs_in 331 (by decide +kernel) rfl⟩), (fun h => absurd h (by decide))⟩
set_option maxRecDepth 20000 in
theorem qzm_20 : qzPm (yX1_isFor, cX1_isFor, 4, (some .boolean), 1, 1, 1) := ⟨by decide +kernel, qzWs_in 336 (by decide +kernel) rfl, qzi_RX1, ⟨by decide +kernel, by decide +kernel, by decide +kernel⟩, ⟨by decide, by decide, rfl⟩, (fun h => absurd h (by decide)), (fun _ => ⟨qzWs_in 334 (by decide +kernel) rfl, qzWs_in 335 (by decide +kernel) rfl⟩), (fun h => absurd h (by decide))⟩
set_option maxRecDepth 20000 in
theorem qzm_21 : qzPm (yX1_told, cX1_told, 5, (some .int), 1, 4, 1) := ⟨by decide +kernel, qzWs_in 364 (by decide +kernel) rfl, qzi_RX1, ⟨by decide +kernel, by decide +kernel, by decide +kernel⟩, ⟨by decide, by decide, rfl⟩, (fun h => absurd h (by decide)), (fun _ => ⟨qzWs_in 362 (by decide +kernel) rfl, qzWs_in 363 (by decide +kernel) rfl⟩), (fun h => absurd h (by decide))⟩
set_option maxRecDepth 20000 in
theorem qzm_22 : qzPm (yX1_keep, cX1_keep, 6, none, 1, 5, 1) := ⟨by decide +kernel, qzWs_in 375 (by decide +kernel) rfl, qzi_RX1, ⟨by decide +kernel, by decide +kernel, by decide +kernel⟩, ⟨by decide, by decide, rfl⟩, (fun h => absurd h (by decide)), (fun _ => ⟨qzWs_in 373 (by decide +kernel) rfl, qzWs_in 374 (by decide +kernel) rfl⟩), (fun h => absurd h (by decide))⟩
set_option maxRecDepth 20000 in
theorem qzm_23 : qzPm (yX1_place, cX1_place, 4, (some .int), 0, 4, 1) := ⟨by decide +kernel, qzWs_in 367 (by decide +kernel) rfl, qzi_RX1, ⟨by decide +kernel, by decide +kernel, by decide +kernel⟩, ⟨by decide, by decide, rfl⟩, (fun _ => qzWs_in 366 (by decide +kernel) rfl), (fun h => absurd h (by decide)), (fun h => absurd h (by decide))⟩
set_option maxRecDepth 20000 in
theorem qzm_24 : qzPm (yX2_init, cX2_init, 2, none, 2, 0, 2) := ⟨by decide +kernel, qzWs_in 66 (by decide +kernel) rfl, qzi_RX2, ⟨by decide +kernel, by decide +kernel, by decide +kernel⟩, ⟨by decide, by decide, rfl⟩, (fun h => absurd h (by decide)), (fun h => absurd h (by decide)), (fun _ => ⟨rfl, qzWs_in 65 (by decide +kernel) rfl, rfl⟩)⟩
set_option maxRecDepth 20000 in
theorem qzm_25 : qzPm (yX2_cut, cX2_cut, 4, (some .int), 1, 2, 2) := ⟨by decide +kernel, qzWs_in 236 (by decide +kernel) rfl, qzi_RX2, ⟨by decide +kernel, by decide +kernel, by decide +kernel⟩, ⟨by decide, by decide, rfl⟩, (fun h => absurd h (by decide)), (fun _ => ⟨qzWs_in 234 (by decide +kernel) rfl, qzWs_in 235 (by decide +kernel) rfl⟩), (fun h => absurd h (by decide))⟩
set_option maxRecDepth 20000 in
theorem qzm_26 : qzPm (yX2_best, cX2_best, 1, (some .int), 1, 0, 2) := ⟨by decide +kernel, qzWs_in 320 (by decide +kernel) rfl, qzi_RX2, ⟨by decide +kernel, by decide +kernel, by decide +kernel⟩, ⟨by decide, by decide, rfl⟩, (fun h => absurd h (by decide)), (fun _ => ⟨qzWs_in 318 (by decide +kernel) rfl, qzWs_in 319 (by decide +kernel) rfl⟩), (fun h => absurd h (by decide))⟩
set_option maxRecDepth 20000 in
theorem qzm_27 : qzPm (yX2_greedy, cX2_greedy, 1, (some .int), 1, 0, 2) := ⟨by decide +kernel, qzWs_in 380 (by decide +kernel) rfl, qzi_RX2, ⟨by decide +kernel, by decide +kernel, by decide +kernel⟩, ⟨by decide, by decide, rfl⟩, (fun h => absurd h (by decide)), (fun _ => ⟨qzWs_in 378 (by decide +kernel) rfl, qzWs_in 379 (by decide +kernel) rfl⟩), (fun h => absurd h (by decide))⟩
set_option maxRecDepth 20000 in
theorem qzm_28 : qzPm (yX2_again, cX2_again, 1, (some .int), 1, 0, 2) := ⟨by decide +kernel, qzWs_in 384 (by decide +kernel) rfl, qzi_RX2, ⟨by decide +kernel, by decide +kernel, by decide +kernel⟩, ⟨by decide, by decide, rfl⟩, (fun h => absurd h (by decide)), (fun _ => ⟨qzWs_in 382 (by decide +kernel) rfl, qzWs_in 383 (by decide +kernel) rfl⟩), (fun h => absurd h (by decide))⟩
set_option maxRecDepth 20000 in
theorem qzm_29 : qzPm (yX2_mirror, cX2_mirror, 1, (some .int), 1, 0, 2) := ⟨by decide +kernel, qzWs_in 392 (by decide +kernel) rfl, qzi_RX2, ⟨by decide +kernel, by decide +kernel, by decide +kernel⟩, ⟨by decide, by decide, rfl⟩, (fun h => absurd h (by decide)), (fun _ => ⟨qzWs_in 390 (by decide +kernel) rfl, qzWs_in 391 (by decide +kernel) rfl⟩), (fun h => absurd h (by decide))⟩
set_option maxRecDepth 20000 in
theorem qzm_30 : qzPm (yX2_set, cX2_set, 4, (some .int), 1, 2, 2) := ⟨by decide +kernel, qzWs_in 400 (by decide +kernel) rfl, qzi_RX2, ⟨by decide +kernel, by decide +kernel, by decide +kernel⟩, ⟨by decide, by decide, rfl⟩, (fun h => absurd h (by decide)), (fun _ => ⟨qzWs_in 398 (by decide +kernel) rfl, qzWs_in 399 (by decide +kernel) rfl⟩), (fun h => absurd h (by decide))⟩
set_option maxRecDepth 20000 in
theorem qzm_31 : qzPm (yX2_append, cX2_append, 2, (some .int), 1, 1, 2) := ⟨by decide +kernel, qzWs_in 409 (by decide +kernel) rfl, qzi_RX2, ⟨by decide +kernel, by decide +kernel, by decide +kernel⟩, ⟨by decide, by decide, rfl⟩, (fun h => absurd h (by decide)), (fun _ => ⟨qzWs_in 407 (by decide +kernel) rfl, qzWs_in 408 (by decide +kernel) rfl⟩), (fun h => absurd h (by decide))⟩
set_option maxRecDepth 20000 in
theorem qzm_32 : qzPm (yX2_clear, cX2_clear, 2, (some .int), 1, 0, 2) := ⟨by decide +kernel, qzWs_in 413 (by decide +kernel) rfl, qzi_RX2, ⟨by decide +kernel, by decide +kernel, by decide +kernel⟩, ⟨by decide, by decide, rfl⟩, (fun h => absurd h (by decide)), (fun _ => ⟨qzWs_in 411 (by decide +kernel) rfl, qzWs_in 412 (by decide +kernel) rfl⟩), (fun h => absurd h (by decide))⟩
set_option maxRecDepth 20000 in
theorem qzm_33 : qzPm (yX2_fault, cX2_fault, 2, (some .int), 1, 1, 2) := ⟨by decide +kernel, qzWs_in 417 (by decide +kernel) rfl, qzi_RX2, ⟨by decide +kernel, by decide +kernel, by decide +kernel⟩, ⟨by decide, by decide, rfl⟩, (fun h => absurd h (by decide)), (fun _ => ⟨qzWs_in 415 (by decide +kernel) rfl, qzWs_in 416 (by decide +kernel) rfl⟩), (fun h => absurd h (by decide))⟩
set_option maxRecDepth 20000 in
theorem qzm_34 : qzPm (yX2_load, cX2_load, 2, (some .int), 1, 0, 2) := ⟨by decide +kernel, qzWs_in 452 (by decide +kernel) rfl, qzi_RX2, ⟨by decide +kernel, by decide +kernel, by decide +kernel⟩, ⟨by decide, by decide, rfl⟩, (fun h => absurd h (by decide)), (fun _ => ⟨qzWs_in 450 (by decide +kernel) rfl, qzWs_in 451 (by decide +kernel) rfl⟩), (fun h => absurd h (by decide))⟩
set_option maxRecDepth 20000 in
theorem qzm_35 : qzPm (yX2_play, cX2_play, 4, (some .int), 1, 0, 2) := ⟨by decide +kernel, qzWs_in 464 (by decide +kernel) rfl, qzi_RX2, ⟨by decide +kernel, by decide +kernel, by decide +kernel⟩, ⟨by decide, by decide, rfl⟩, (fun h => absurd h (by decide)), (fun _ => ⟨qzWs_in 462 (by decide +kernel) rfl, qzWs_in 463 (by decide +kernel) rfl⟩), (fun h => absurd h (by decide))⟩
set_option maxRecDepth 20000 in
theorem qzm_36 : qzPm (yX2_stripe, cX2_stripe, 2, (some .int), 1, 1, 2) := ⟨by decide +kernel, qzWs_in 472 (by decide +kernel) rfl, qzi_RX2, ⟨by decide +kernel, by decide +kernel, by decide +kernel⟩, ⟨by decide, by decide, rfl⟩, (fun h => absurd h (by decide)), (fun _ => ⟨qzWs_in 470 (by decide +kernel) rfl, qzWs_in 471 (by decide +kernel) rfl⟩), (fun h => absurd h (by decide))⟩
set_option maxRecDepth 20000 in
theorem qzm_37 : qzPm (yX2_coat, cX2_coat, 4, (some .int), 1, 2, 2) := ⟨by decide +kernel, qzWs_in 476 (by decide +kernel) rfl, qzi_RX2, ⟨by decide +kernel, by decide +kernel, by decide +kernel⟩, ⟨by decide, by decide, rfl⟩, (fun h => absurd h (by decide)), (fun _ => ⟨qzWs_in 474 (by decide +kernel) rfl, qzWs_in 475 (by decide +kernel) rfl⟩), (fun h => absurd h (by decide))⟩
set_option maxRecDepth 20000 in
theorem qzm_38 : qzPm (yX2_piece, cX2_piece, 5, (some .int), 1, 3, 2) := ⟨by decide +kernel, qzWs_in 492 (by decide +kernel) rfl, qzi_RX2, ⟨by decide +kernel, by decide +kernel, by decide +kernel⟩, ⟨by decide, by decide, rfl⟩, (fun h => absurd h (by decide)), (fun _ => ⟨qzWs_in 490 (by decide +kernel) rfl, qzWs_in 491 (by decide +kernel) rfl⟩), (fun h => absurd h (by decide))⟩
set_option maxRecDepth 20000 in
theorem qzm_39 : qzPm (yX2_count, cX2_count, 3, (some .int), 1, 1, 2) := ⟨by decide +kernel, qzWs_in 496 (by decide +kernel) rfl, qzi_RX2, ⟨by decide +kernel, by decide +kernel, by decide +kernel⟩, ⟨by decide, by decide, rfl⟩, (fun h => absurd h (by decide)), (fun _ => ⟨qzWs_in 494 (by decide +kernel) rfl, qzWs_in 495 (by decide +kernel) rfl⟩), (fun h => absurd h (by decide))⟩
set_option maxRecDepth 20000 in
theorem qzm_40 : qzPm (yX2_left, cX2_left, 2, (some .int), 1, 1, 2) := ⟨by decide +kernel, qzWs_in 522 (by decide +kernel) rfl, qzi_RX2, ⟨by decide +kernel, by decide +kernel, by decide +kernel⟩, ⟨by decide, by decide, rfl⟩, (fun h => absurd h (by decide)), (fun _ => ⟨qzWs_in 520 (by decide +kernel) rfl, qzWs_in 521 (by decide +kernel) rfl⟩), (fun h => absurd h (by decide))⟩
set_option maxRecDepth 20000 in
theorem qzm_41 : qzPm (yX2_worth, cX2_worth, 4, (some .int), 1, 2, 2) := ⟨by decide +kernel, qzWs_in 527 (by decide +kernel) rfl, qzi_RX2, ⟨by decide +kernel, by decide +kernel, by decide +kernel⟩, ⟨by decide, by decide, rfl⟩, (fun h => absurd h (by decide)), (fun _ => ⟨qzWs_in 525 (by decide +kernel) rfl, qzWs_in 526 (by decide +kernel) rfl⟩), (fun h => absurd h (by decide))⟩
set_option maxRecDepth 20000 in
theorem qzm_42 : qzPm (yX2_lead, cX2_lead, 2, (some .int), 1, 1, 2) := ⟨by decide +kernel, qzWs_in 531 (by decide +kernel) rfl, qzi_RX2, ⟨by decide +kernel, by decide +kernel, by decide +kernel⟩, ⟨by decide, by decide, rfl⟩, (fun h => absurd h (by decide)), (fun _ => ⟨qzWs_in 529 (by decide +kernel) rfl, qzWs_in 530 (by decide +kernel) rfl⟩), (fun h => absurd h (by decide))⟩
set_option maxRecDepth 20000 in
theorem qzm_43 : qzPm (yX2_leadWith, cX2_leadWith, 4, (some .int), 1, 2, 2) := ⟨by decide +kernel, qzWs_in 549 (by decide +kernel) rfl, qzi_RX2, ⟨by decide +kernel, by decide +kernel, by decide +kernel⟩, ⟨by decide, by decide, rfl⟩, (fun h => absurd h (by decide)), (fun _ => ⟨qzWs_in 547 (by decide +kernel) rfl, qzWs_in 548 (by decide +kernel) rfl⟩), (fun h => absurd h (by decide))⟩
set_option maxRecDepth 20000 in
theorem qzm_44 : qzPm (yX2_bestCut, cX2_bestCut, 1, (some .int), 1, 0, 2) := ⟨by decide +kernel, qzWs_in 557 (by decide +kernel) rfl, qzi_RX2, ⟨by decide +kernel, by decide +kernel, by decide +kernel⟩, ⟨by decide, by decide, rfl⟩, (fun h => absurd h (by decide)), (fun _ => ⟨qzWs_in 555 (by decide +kernel) rfl, qzWs_in 556 (by decide +kernel) rfl⟩), (fun h => absurd h (by decide))⟩
set_option maxRecDepth 20000 in
theorem qzm_45 : qzPm (yX2_ended, cX2_ended, 5, (some .int), 1, 3, 2) := ⟨by decide +kernel, qzWs_in 561 (by decide +kernel) rfl, qzi_RX2, ⟨by decide +kernel, by decide +kernel, by decide +kernel⟩, ⟨by decide, by decide, rfl⟩, (fun h => absurd h (by decide)), (fun _ => ⟨qzWs_in 559 (by decide +kernel) rfl, qzWs_in 560 (by decide +kernel) rfl⟩), (fun h => absurd h (by decide))⟩
set_option maxRecDepth 20000 in
theorem qzm_46 : qzPm (yX2_rate, cX2_rate, 3, (some .double), 1, 0, 2) := ⟨by decide +kernel, qzWs_in 565 (by decide +kernel) rfl, qzi_RX2, ⟨by decide +kernel, by decide +kernel, by decide +kernel⟩, ⟨by decide, by decide, rfl⟩, (fun h => absurd h (by decide)), (fun _ => ⟨qzWs_in 563 (by decide +kernel) rfl, qzWs_in 564 (by decide +kernel) rfl⟩), (fun h => absurd h (by decide))⟩
set_option maxRecDepth 20000 in
theorem qzm_47 : qzPm (yX2_undo, cX2_undo, 2, (some .int), 1, 0, 2) := ⟨by decide +kernel, qzWs_in 569 (by decide +kernel) rfl, qzi_RX2, ⟨by decide +kernel, by decide +kernel, by decide +kernel⟩, ⟨by decide, by decide, rfl⟩, (fun h => absurd h (by decide)), (fun _ => ⟨qzWs_in 567 (by decide +kernel) rfl, qzWs_in 568 (by decide +kernel) rfl⟩), (fun h => absurd h (by decide))⟩
set_option maxRecDepth 20000 in
theorem qzm_48 : qzPm (yX2_save, cX2_save, 1, (some .int), 1, 0, 2) := ⟨by decide +kernel, qzWs_in 573 (by decide +kernel) rfl, qzi_RX2, ⟨by decide +kernel, by decide +kernel, by decide +kernel⟩, ⟨by decide, by decide, rfl⟩, (fun h => absurd h (by decide)), (fun _ => ⟨qzWs_in 571 (by decide +kernel) rfl, qzWs_in 572 (by decide +kernel) rfl⟩), (fun h => absurd h (by decide))⟩
set_option maxRecDepth 20000 in
theorem qzm_49 : qzPm (yX2_restore, cX2_restore, 1, (some .int), 1, 0, 2) := ⟨by decide +kernel, qzWs_in 577 (by decide +kernel) rfl, qzi_RX2, ⟨by decide +kernel, by decide +kernel, by decide +kernel⟩, ⟨by decide, by decide, rfl⟩, (fun h => absurd h (by decide)), (fun _ => ⟨qzWs_in 575 (by decide +kernel) rfl, qzWs_in 576 (by decide +kernel) rfl⟩), (fun h => absurd h (by decide))⟩
set_option maxRecDepth 20000 in
theorem qzm_50 : qzPm (yX2_pastAt, cX2_pastAt, 2, (some (.object "BoltTailors$Game")), 1, 1, 2) := ⟨by decide +kernel, qzWs_in 263 (by decide +kernel) rfl, qzi_RX2, ⟨by decide +kernel, by decide +kernel, by decide +kernel⟩, ⟨by decide, by decide, rfl⟩, (fun h => absurd h (by decide)), (fun _ => ⟨qzWs_in 262 (by decide +kernel) rfl, qzWs_in 3 (by decide +kernel) rfl⟩), (fun h => absurd h (by decide))⟩
set_option maxRecDepth 20000 in
theorem qzm_51 : qzPm (yX2_record, cX2_record, 2, none, 1, 0, 2) := ⟨by decide +kernel, qzWs_in 255 (by decide +kernel) rfl, qzi_RX2, ⟨by decide +kernel, by decide +kernel, by decide +kernel⟩, ⟨by decide, by decide, rfl⟩, (fun h => absurd h (by decide)), (fun _ => ⟨qzWs_in 254 (by decide +kernel) rfl, qzWs_in 1 (by decide +kernel) rfl⟩), (fun h => absurd h (by decide))⟩
set_option maxRecDepth 20000 in
theorem qzm_52 : qzPm (yX2_dropOldest, cX2_dropOldest, 3, none, 1, 0, 2) := ⟨by decide +kernel, qzWs_in 259 (by decide +kernel) rfl, qzi_RX2, ⟨by decide +kernel, by decide +kernel, by decide +kernel⟩, ⟨by decide, by decide, rfl⟩, (fun h => absurd h (by decide)), (fun _ => ⟨qzWs_in 258 (by decide +kernel) rfl, qzWs_in 2 (by decide +kernel) rfl⟩), (fun h => absurd h (by decide))⟩
set_option maxRecDepth 20000 in
theorem qzm_53 : qzPm (yX2_codeOf, cX2_codeOf, 2, (some .int), 0, 2, 2) := ⟨by decide +kernel, qzWs_in 273 (by decide +kernel) rfl, qzi_RX2, ⟨by decide +kernel, by decide +kernel, by decide +kernel⟩, ⟨by decide, by decide, rfl⟩, (fun _ => qzWs_in 272 (by decide +kernel) rfl), (fun h => absurd h (by decide)), (fun h => absurd h (by decide))⟩
set_option maxRecDepth 20000 in
theorem qzm_54 : qzPm (yX2_isFromLeft, cX2_isFromLeft, 1, (some .boolean), 0, 1, 2) := ⟨by decide +kernel, qzWs_in 283 (by decide +kernel) rfl, qzi_RX2, ⟨by decide +kernel, by decide +kernel, by decide +kernel⟩, ⟨by decide, by decide, rfl⟩, (fun _ => qzWs_in 282 (by decide +kernel) rfl), (fun h => absurd h (by decide)), (fun h => absurd h (by decide))⟩
set_option maxRecDepth 20000 in
theorem qzm_55 : qzPm (yX2_sizeOf, cX2_sizeOf, 1, (some .int), 0, 1, 2) := ⟨by decide +kernel, qzWs_in 280 (by decide +kernel) rfl, qzi_RX2, ⟨by decide +kernel, by decide +kernel, by decide +kernel⟩, ⟨by decide, by decide, rfl⟩, (fun _ => qzWs_in 279 (by decide +kernel) rfl), (fun h => absurd h (by decide)), (fun h => absurd h (by decide))⟩
set_option maxRecDepth 20000 in
theorem qzm_56 : qzPm (yX2_pieceStart, cX2_pieceStart, 3, (some .int), 0, 3, 2) := ⟨by decide +kernel, qzWs_in 286 (by decide +kernel) rfl, qzi_RX2, ⟨by decide +kernel, by decide +kernel, by decide +kernel⟩, ⟨by decide, by decide, rfl⟩, (fun _ => qzWs_in 285 (by decide +kernel) rfl), (fun h => absurd h (by decide)), (fun h => absurd h (by decide))⟩
set_option maxRecDepth 20000 in
theorem qzm_57 : qzPm (yX2_restStart, cX2_restStart, 2, (some .int), 0, 2, 2) := ⟨by decide +kernel, qzWs_in 313 (by decide +kernel) rfl, qzi_RX2, ⟨by decide +kernel, by decide +kernel, by decide +kernel⟩, ⟨by decide, by decide, rfl⟩, (fun _ => qzWs_in 312 (by decide +kernel) rfl), (fun h => absurd h (by decide)), (fun h => absurd h (by decide))⟩
set_option maxRecDepth 20000 in
theorem qzm_58 : qzPm (yX2_restEnd, cX2_restEnd, 2, (some .int), 0, 2, 2) := ⟨by decide +kernel, qzWs_in 316 (by decide +kernel) rfl, qzi_RX2, ⟨by decide +kernel, by decide +kernel, by decide +kernel⟩, ⟨by decide, by decide, rfl⟩, (fun _ => qzWs_in 315 (by decide +kernel) rfl), (fun h => absurd h (by decide)), (fun h => absurd h (by decide))⟩
set_option maxRecDepth 20000 in
theorem qzm_59 : qzPm (yX2_errorOfCut, cX2_errorOfCut, 2, (some .int), 1, 1, 2) := ⟨by decide +kernel, qzWs_in 240 (by decide +kernel) rfl, qzi_RX2, ⟨by decide +kernel, by decide +kernel, by decide +kernel⟩, ⟨by decide, by decide, rfl⟩, (fun h => absurd h (by decide)), (fun _ => ⟨qzWs_in 239 (by decide +kernel) rfl, qzWs_in 0 (by decide +kernel) rfl⟩), (fun h => absurd h (by decide))⟩
set_option maxRecDepth 20000 in
theorem qzm_60 : qzPm (yX2_cutBy, cX2_cutBy, 3, (some .int), 1, 1, 2) := ⟨by decide +kernel, qzWs_in 324 (by decide +kernel) rfl, qzi_RX2, ⟨by decide +kernel, by decide +kernel, by decide +kernel⟩, ⟨by decide, by decide, rfl⟩, (fun h => absurd h (by decide)), (fun _ => ⟨qzWs_in 323 (by decide +kernel) rfl, qzWs_in 4 (by decide +kernel) rfl⟩), (fun h => absurd h (by decide))⟩
set_option maxRecDepth 20000 in
theorem qzm_61 : qzPm (yX2_choice, cX2_choice, 12, (some .int), 1, 2, 2) := ⟨by decide +kernel, qzWs_in 328 (by decide +kernel) rfl, qzi_RX2, ⟨by decide +kernel, by decide +kernel, by decide +kernel⟩, ⟨by decide, by decide, rfl⟩, (fun h => absurd h (by decide)), (fun _ => ⟨qzWs_in 327 (by decide +kernel) rfl, qzWs_in 5 (by decide +kernel) rfl⟩), (fun h => absurd h (by decide))⟩
set_option maxRecDepth 20000 in
theorem qzm_62 : qzPm (yX2_leadTold, cX2_leadTold, 4, (some .int), 1, 1, 2) := ⟨by decide +kernel, qzWs_in 535 (by decide +kernel) rfl, qzi_RX2, ⟨by decide +kernel, by decide +kernel, by decide +kernel⟩, ⟨by decide, by decide, rfl⟩, (fun h => absurd h (by decide)), (fun _ => ⟨qzWs_in 534 (by decide +kernel) rfl, qzWs_in 16 (by decide +kernel) rfl⟩), (fun h => absurd h (by decide))⟩
set_option maxRecDepth 20000 in
theorem qzm_63 : qzPm (yX2_tellRows, cX2_tellRows, 7, none, 0, 3, 2) := ⟨by decide +kernel, qzWs_in 538 (by decide +kernel) rfl, qzi_RX2, ⟨by decide +kernel, by decide +kernel, by decide +kernel⟩, ⟨by decide, by decide, rfl⟩, (fun _ => qzWs_in 537 (by decide +kernel) rfl), (fun h => absurd h (by decide)), (fun h => absurd h (by decide))⟩
set_option maxRecDepth 20000 in
theorem qzm_64 : qzPm (yX2_raiseRow, cX2_raiseRow, 14, none, 0, 4, 2) := ⟨by decide +kernel, qzWs_in 541 (by decide +kernel) rfl, qzi_RX2, ⟨by decide +kernel, by decide +kernel, by decide +kernel⟩, ⟨by decide, by decide, rfl⟩, (fun _ => qzWs_in 540 (by decide +kernel) rfl), (fun h => absurd h (by decide)), (fun h => absurd h (by decide))⟩
set_option maxRecDepth 20000 in
theorem qzm_65 : qzPm (yX2_leadGoneInto, cX2_leadGoneInto, 4, (some .int), 1, 1, 2) := ⟨by decide +kernel, qzWs_in 545 (by decide +kernel) rfl, qzi_RX2, ⟨by decide +kernel, by decide +kernel, by decide +kernel⟩, ⟨by decide, by decide, rfl⟩, (fun h => absurd h (by decide)), (fun _ => ⟨qzWs_in 544 (by decide +kernel) rfl, qzWs_in 17 (by decide +kernel) rfl⟩), (fun h => absurd h (by decide))⟩
set_option maxRecDepth 20000 in
theorem qzm_66 : qzPm (yX2_leadOfCut, cX2_leadOfCut, 5, (some .int), 1, 2, 2) := ⟨by decide +kernel, qzWs_in 553 (by decide +kernel) rfl, qzi_RX2, ⟨by decide +kernel, by decide +kernel, by decide +kernel⟩, ⟨by decide, by decide, rfl⟩, (fun h => absurd h (by decide)), (fun _ => ⟨qzWs_in 552 (by decide +kernel) rfl, qzWs_in 18 (by decide +kernel) rfl⟩), (fun h => absurd h (by decide))⟩
set_option maxRecDepth 20000 in
theorem qzm_67 : qzPm (yX2_goInto, cX2_goInto, 9, (some .int), 0, 6, 2) := ⟨by decide +kernel, qzWs_in 360 (by decide +kernel) rfl, qzi_RX2, ⟨by decide +kernel, by decide +kernel, by decide +kernel⟩, ⟨by decide, by decide, rfl⟩, (fun _ => qzWs_in 359 (by decide +kernel) rfl), (fun h => absurd h (by decide)), (fun h => absurd h (by decide))⟩
set_option maxRecDepth 20000 in
theorem qzm_68 : qzPm (yX2_goThrough, cX2_goThrough, 11, (some .int), 0, 7, 2) := ⟨by decide +kernel, qzWs_in 352 (by decide +kernel) rfl, qzi_RX2, ⟨by decide +kernel, by decide +kernel, by decide +kernel⟩, ⟨by decide, by decide, rfl⟩, (fun _ => qzWs_in 351 (by decide +kernel) rfl), (fun h => absurd h (by decide)), (fun h => absurd h (by decide))⟩
set_option maxRecDepth 20000 in
theorem qzm_69 : qzPm (yX2_traitsOf, cX2_traitsOf, 5, (some .int), 0, 4, 2) := ⟨by decide +kernel, qzWs_in 302 (by decide +kernel) rfl, qzi_RX2, ⟨by decide +kernel, by decide +kernel, by decide +kernel⟩, ⟨by decide, by decide, rfl⟩, (fun _ => qzWs_in 301 (by decide +kernel) rfl), (fun h => absurd h (by decide)), (fun h => absurd h (by decide))⟩
set_option maxRecDepth 20000 in
theorem qzm_70 : qzPm (yX2_worthOf, cX2_worthOf, 5, (some .int), 0, 3, 2) := ⟨by decide +kernel, qzWs_in 309 (by decide +kernel) rfl, qzi_RX2, ⟨by decide +kernel, by decide +kernel, by decide +kernel⟩, ⟨by decide, by decide, rfl⟩, (fun _ => qzWs_in 308 (by decide +kernel) rfl), (fun h => absurd h (by decide)), (fun h => absurd h (by decide))⟩
set_option maxRecDepth 20000 in
theorem qzm_71 : qzPm (yX2_isFold, cX2_isFold, 4, (some .boolean), 0, 3, 2) := ⟨by decide +kernel, qzWs_in 306 (by decide +kernel) rfl, qzi_RX2, ⟨by decide +kernel, by decide +kernel, by decide +kernel⟩, ⟨by decide, by decide, rfl⟩, (fun _ => qzWs_in 305 (by decide +kernel) rfl), (fun h => absurd h (by decide)), (fun h => absurd h (by decide))⟩
set_option maxRecDepth 20000 in
theorem qzm_72 : qzPm (yX2_signAt, cX2_signAt, 2, (some .char), 1, 1, 2) := ⟨by decide +kernel, qzWs_in 429 (by decide +kernel) rfl, qzi_RX2, ⟨by decide +kernel, by decide +kernel, by decide +kernel⟩, ⟨by decide, by decide, rfl⟩, (fun h => absurd h (by decide)), (fun _ => ⟨qzWs_in 428 (by decide +kernel) rfl, qzWs_in 8 (by decide +kernel) rfl⟩), (fun h => absurd h (by decide))⟩
set_option maxRecDepth 20000 in
theorem qzm_73 : qzPm (yX2_digitAt, cX2_digitAt, 3, (some .int), 1, 1, 2) := ⟨by decide +kernel, qzWs_in 441 (by decide +kernel) rfl, qzi_RX2, ⟨by decide +kernel, by decide +kernel, by decide +kernel⟩, ⟨by decide, by decide, rfl⟩, (fun h => absurd h (by decide)), (fun _ => ⟨qzWs_in 440 (by decide +kernel) rfl, qzWs_in 11 (by decide +kernel) rfl⟩), (fun h => absurd h (by decide))⟩
set_option maxRecDepth 20000 in
theorem qzm_74 : qzPm (yX2_isSide, cX2_isSide, 1, (some .boolean), 0, 1, 2) := ⟨by decide +kernel, qzWs_in 448 (by decide +kernel) rfl, qzi_RX2, ⟨by decide +kernel, by decide +kernel, by decide +kernel⟩, ⟨by decide, by decide, rfl⟩, (fun _ => qzWs_in 447 (by decide +kernel) rfl), (fun h => absurd h (by decide)), (fun h => absurd h (by decide))⟩
set_option maxRecDepth 20000 in
theorem qzm_75 : qzPm (yX2_lettersAhead, cX2_lettersAhead, 2, (some .int), 1, 0, 2) := ⟨by decide +kernel, qzWs_in 425 (by decide +kernel) rfl, qzi_RX2, ⟨by decide +kernel, by decide +kernel, by decide +kernel⟩, ⟨by decide, by decide, rfl⟩, (fun h => absurd h (by decide)), (fun _ => ⟨qzWs_in 424 (by decide +kernel) rfl, qzWs_in 7 (by decide +kernel) rfl⟩), (fun h => absurd h (by decide))⟩
set_option maxRecDepth 20000 in
theorem qzm_76 : qzPm (yX2_faultAsBolt, cX2_faultAsBolt, 2, (some .int), 1, 0, 2) := ⟨by decide +kernel, qzWs_in 421 (by decide +kernel) rfl, qzi_RX2, ⟨by decide +kernel, by decide +kernel, by decide +kernel⟩, ⟨by decide, by decide, rfl⟩, (fun h => absurd h (by decide)), (fun _ => ⟨qzWs_in 420 (by decide +kernel) rfl, qzWs_in 6 (by decide +kernel) rfl⟩), (fun h => absurd h (by decide))⟩
set_option maxRecDepth 20000 in
theorem qzm_77 : qzPm (yX2_faultBehindStar, cX2_faultBehindStar, 5, (some .int), 1, 1, 2) := ⟨by decide +kernel, qzWs_in 433 (by decide +kernel) rfl, qzi_RX2, ⟨by decide +kernel, by decide +kernel, by decide +kernel⟩, ⟨by decide, by decide, rfl⟩, (fun h => absurd h (by decide)), (fun _ => ⟨qzWs_in 432 (by decide +kernel) rfl, qzWs_in 9 (by decide +kernel) rfl⟩), (fun h => absurd h (by decide))⟩
set_option maxRecDepth 20000 in
theorem qzm_78 : qzPm (yX2_digitsOfNumber, cX2_digitsOfNumber, 4, (some .int), 1, 1, 2) := ⟨by decide +kernel, qzWs_in 437 (by decide +kernel) rfl, qzi_RX2, ⟨by decide +kernel, by decide +kernel, by decide +kernel⟩, ⟨by decide, by decide, rfl⟩, (fun h => absurd h (by decide)), (fun _ => ⟨qzWs_in 436 (by decide +kernel) rfl, qzWs_in 10 (by decide +kernel) rfl⟩), (fun h => absurd h (by decide))⟩
set_option maxRecDepth 20000 in
theorem qzm_79 : qzPm (yX2_faultAsCuts, cX2_faultAsCuts, 4, (some .int), 1, 0, 2) := ⟨by decide +kernel, qzWs_in 445 (by decide +kernel) rfl, qzi_RX2, ⟨by decide +kernel, by decide +kernel, by decide +kernel⟩, ⟨by decide, by decide, rfl⟩, (fun h => absurd h (by decide)), (fun _ => ⟨qzWs_in 444 (by decide +kernel) rfl, qzWs_in 12 (by decide +kernel) rfl⟩), (fun h => absurd h (by decide))⟩
set_option maxRecDepth 20000 in
theorem qzm_80 : qzPm (yX2_layPattern, cX2_layPattern, 6, none, 1, 1, 2) := ⟨by decide +kernel, qzWs_in 456 (by decide +kernel) rfl, qzi_RX2, ⟨by decide +kernel, by decide +kernel, by decide +kernel⟩, ⟨by decide, by decide, rfl⟩, (fun h => absurd h (by decide)), (fun _ => ⟨qzWs_in 455 (by decide +kernel) rfl, qzWs_in 13 (by decide +kernel) rfl⟩), (fun h => absurd h (by decide))⟩
set_option maxRecDepth 20000 in
theorem qzm_81 : qzPm (yX2_layLetters, cX2_layLetters, 5, none, 1, 3, 2) := ⟨by decide +kernel, qzWs_in 460 (by decide +kernel) rfl, qzi_RX2, ⟨by decide +kernel, by decide +kernel, by decide +kernel⟩, ⟨by decide, by decide, rfl⟩, (fun h => absurd h (by decide)), (fun _ => ⟨qzWs_in 459 (by decide +kernel) rfl, qzWs_in 14 (by decide +kernel) rfl⟩), (fun h => absurd h (by decide))⟩
set_option maxRecDepth 20000 in
theorem qzm_82 : qzPm (yX2_codeOnPad, cX2_codeOnPad, 4, (some .int), 1, 1, 2) := ⟨by decide +kernel, qzWs_in 468 (by decide +kernel) rfl, qzi_RX2, ⟨by decide +kernel, by decide +kernel, by decide +kernel⟩, ⟨by decide, by decide, rfl⟩, (fun h => absurd h (by decide)), (fun _ => ⟨qzWs_in 467 (by decide +kernel) rfl, qzWs_in 15 (by decide +kernel) rfl⟩), (fun h => absurd h (by decide))⟩
set_option maxRecDepth 20000 in
theorem qzm_83 : qzPm (yX2_isNoTailor, cX2_isNoTailor, 1, (some .boolean), 0, 1, 2) := ⟨by decide +kernel, qzWs_in 479 (by decide +kernel) rfl, qzi_RX2, ⟨by decide +kernel, by decide +kernel, by decide +kernel⟩, ⟨by decide, by decide, rfl⟩, (fun _ => qzWs_in 478 (by decide +kernel) rfl), (fun h => absurd h (by decide)), (fun h => absurd h (by decide))⟩
set_option maxRecDepth 20000 in
theorem qzm_84 : qzPm (yX2_at, cX2_at, 2, (some .int), 0, 2, 2) := ⟨by decide +kernel, qzWs_in 91 (by decide +kernel) rfl, qzi_RX2, ⟨by decide +kernel, by decide +kernel, by decide +kernel⟩, ⟨by decide, by decide, rfl⟩, (fun _ => qzWs_in 90 (by decide +kernel) rfl), (fun h => absurd h (by decide)), (fun h => absurd h (by decide))⟩
set_option maxRecDepth 20000 in
theorem qzm_85 : qzPm (yX2_put, cX2_put, 3, none, 0, 3, 2) := ⟨by decide +kernel, qzWs_in 94 (by decide +kernel) rfl, qzi_RX2, ⟨by decide +kernel, by decide +kernel, by decide +kernel⟩, ⟨by decide, by decide, rfl⟩, (fun _ => qzWs_in 93 (by decide +kernel) rfl), (fun h => absurd h (by decide)), (fun h => absurd h (by decide))⟩
set_option maxRecDepth 20000 in
theorem qzm_86 : qzPm (yX3_init, cX3_init, 2, none, 2, 0, 3) := ⟨by decide +kernel, qzWs_in 582 (by decide +kernel) rfl, qzi_RX3, ⟨by decide +kernel, by decide +kernel, by decide +kernel⟩, ⟨by decide, by decide, rfl⟩, (fun h => absurd h (by decide)), (fun h => absurd h (by decide)), (fun _ => ⟨rfl, qzWs_in 581 (by decide +kernel) rfl, rfl⟩)⟩
set_option maxRecDepth 20000 in
theorem qzm_87 : qzPm (yX3_in, cX3_in, 3, (some .boolean), 0, 3, 3) := ⟨by decide +kernel, qzWs_in 641 (by decide +kernel) rfl, qzi_RX3, ⟨by decide +kernel, by decide +kernel, by decide +kernel⟩, ⟨by decide, by decide, rfl⟩, (fun _ => qzWs_in 640 (by decide +kernel) rfl), (fun h => absurd h (by decide)), (fun h => absurd h (by decide))⟩
set_option maxRecDepth 20000 in
theorem qzm_88 : qzPm (yX3_copies, cX3_copies, 5, none, 0, 4, 3) := ⟨by decide +kernel, qzWs_in 648 (by decide +kernel) rfl, qzi_RX3, ⟨by decide +kernel, by decide +kernel, by decide +kernel⟩, ⟨by decide, by decide, rfl⟩, (fun _ => qzWs_in 647 (by decide +kernel) rfl), (fun h => absurd h (by decide)), (fun h => absurd h (by decide))⟩
set_option maxRecDepth 20000 in
theorem qzm_89 : qzPm (yX3_records, cX3_records, 2, none, 1, 0, 3) := ⟨by decide +kernel, qzWs_in 645 (by decide +kernel) rfl, qzi_RX3, ⟨by decide +kernel, by decide +kernel, by decide +kernel⟩, ⟨by decide, by decide, rfl⟩, (fun h => absurd h (by decide)), (fun _ => ⟨qzWs_in 644 (by decide +kernel) rfl, qzWs_in 21 (by decide +kernel) rfl⟩), (fun h => absurd h (by decide))⟩
set_option maxRecDepth 20000 in
theorem qzm_90 : qzPm (yX3_beginsAgain, cX3_beginsAgain, 2, none, 1, 0, 3) := ⟨by decide +kernel, qzWs_in 587 (by decide +kernel) rfl, qzi_RX3, ⟨by decide +kernel, by decide +kernel, by decide +kernel⟩, ⟨by decide, by decide, rfl⟩, (fun h => absurd h (by decide)), (fun _ => ⟨qzWs_in 586 (by decide +kernel) rfl, qzWs_in 19 (by decide +kernel) rfl⟩), (fun h => absurd h (by decide))⟩
set_option maxRecDepth 20000 in
theorem qzm_91 : qzPm (yX3_coatOf, cX3_coatOf, 3, (some .int), 1, 2, 3) := ⟨by decide +kernel, qzWs_in 659 (by decide +kernel) rfl, qzi_RX3, ⟨by decide +kernel, by decide +kernel, by decide +kernel⟩, ⟨by decide, by decide, rfl⟩, (fun h => absurd h (by decide)), (fun _ => ⟨qzWs_in 658 (by decide +kernel) rfl, qzWs_in 23 (by decide +kernel) rfl⟩), (fun h => absurd h (by decide))⟩
set_option maxRecDepth 20000 in
theorem qzm_92 : qzPm (yX3_adds, cX3_adds, 4, none, 1, 3, 3) := ⟨by decide +kernel, qzWs_in 675 (by decide +kernel) rfl, qzi_RX3, ⟨by decide +kernel, by decide +kernel, by decide +kernel⟩, ⟨by decide, by decide, rfl⟩, (fun h => absurd h (by decide)), (fun _ => ⟨qzWs_in 674 (by decide +kernel) rfl, qzWs_in 27 (by decide +kernel) rfl⟩), (fun h => absurd h (by decide))⟩
set_option maxRecDepth 20000 in
theorem qzm_93 : qzPm (yX3_isOver, cX3_isOver, 1, (some .boolean), 1, 0, 3) := ⟨by decide +kernel, qzWs_in 683 (by decide +kernel) rfl, qzi_RX3, ⟨by decide +kernel, by decide +kernel, by decide +kernel⟩, ⟨by decide, by decide, rfl⟩, (fun h => absurd h (by decide)), (fun _ => ⟨qzWs_in 682 (by decide +kernel) rfl, qzWs_in 28 (by decide +kernel) rfl⟩), (fun h => absurd h (by decide))⟩
set_option maxRecDepth 20000 in
theorem qzm_94 : qzPm (yX3_firstOf, cX3_firstOf, 4, (some .int), 0, 4, 3) := ⟨by decide +kernel, qzWs_in 655 (by decide +kernel) rfl, qzi_RX3, ⟨by decide +kernel, by decide +kernel, by decide +kernel⟩, ⟨by decide, by decide, rfl⟩, (fun _ => qzWs_in 654 (by decide +kernel) rfl), (fun h => absurd h (by decide)), (fun h => absurd h (by decide))⟩
set_option maxRecDepth 20000 in
theorem qzm_95 : qzPm (yX3_folds, cX3_folds, 5, (some .boolean), 1, 2, 3) := ⟨by decide +kernel, qzWs_in 667 (by decide +kernel) rfl, qzi_RX3, ⟨by decide +kernel, by decide +kernel, by decide +kernel⟩, ⟨by decide, by decide, rfl⟩, (fun h => absurd h (by decide)), (fun _ => ⟨qzWs_in 666 (by decide +kernel) rfl, qzWs_in 25 (by decide +kernel) rfl⟩), (fun h => absurd h (by decide))⟩
set_option maxRecDepth 20000 in
theorem qzm_96 : qzPm (yX3_matches, cX3_matches, 3, (some .boolean), 1, 2, 3) := ⟨by decide +kernel, qzWs_in 671 (by decide +kernel) rfl, qzi_RX3, ⟨by decide +kernel, by decide +kernel, by decide +kernel⟩, ⟨by decide, by decide, rfl⟩, (fun h => absurd h (by decide)), (fun _ => ⟨qzWs_in 670 (by decide +kernel) rfl, qzWs_in 26 (by decide +kernel) rfl⟩), (fun h => absurd h (by decide))⟩
set_option maxRecDepth 20000 in
theorem qzm_97 : qzPm (yX3_worthOf, cX3_worthOf, 4, (some .int), 1, 3, 3) := ⟨by decide +kernel, qzWs_in 663 (by decide +kernel) rfl, qzi_RX3, ⟨by decide +kernel, by decide +kernel, by decide +kernel⟩, ⟨by decide, by decide, rfl⟩, (fun h => absurd h (by decide)), (fun _ => ⟨qzWs_in 662 (by decide +kernel) rfl, qzWs_in 24 (by decide +kernel) rfl⟩), (fun h => absurd h (by decide))⟩
set_option maxRecDepth 20000 in
theorem qzm_98 : qzPm (yX3_goCut, cX3_goCut, 8, (some .int), 1, 2, 3) := ⟨by decide +kernel, qzWs_in 652 (by decide +kernel) rfl, qzi_RX3, ⟨by decide +kernel, by decide +kernel, by decide +kernel⟩, ⟨by decide, by decide, rfl⟩, (fun h => absurd h (by decide)), (fun _ => ⟨qzWs_in 651 (by decide +kernel) rfl, qzWs_in 22 (by decide +kernel) rfl⟩), (fun h => absurd h (by decide))⟩
set_option maxRecDepth 20000 in
theorem qzm_99 : qzPm (yX3_errorCut, cX3_errorCut, 2, (some .int), 1, 1, 3) := ⟨by decide +kernel, qzWs_in 638 (by decide +kernel) rfl, qzi_RX3, ⟨by decide +kernel, by decide +kernel, by decide +kernel⟩, ⟨by decide, by decide, rfl⟩, (fun h => absurd h (by decide)), (fun _ => ⟨qzWs_in 637 (by decide +kernel) rfl, qzWs_in 20 (by decide +kernel) rfl⟩), (fun h => absurd h (by decide))⟩
set_option maxRecDepth 20000 in
theorem qzm_100 : qzPm (yX3_rowOf, cX3_rowOf, 2, (some .int), 0, 2, 3) := ⟨by decide +kernel, qzWs_in 706 (by decide +kernel) rfl, qzi_RX3, ⟨by decide +kernel, by decide +kernel, by decide +kernel⟩, ⟨by decide, by decide, rfl⟩, (fun _ => qzWs_in 705 (by decide +kernel) rfl), (fun h => absurd h (by decide)), (fun h => absurd h (by decide))⟩
set_option maxRecDepth 20000 in
theorem qzm_101 : qzPm (yX3_leadAt, cX3_leadAt, 5, (some .int), 1, 4, 3) := ⟨by decide +kernel, qzWs_in 703 (by decide +kernel) rfl, qzi_RX3, ⟨by decide +kernel, by decide +kernel, by decide +kernel⟩, ⟨by decide, by decide, rfl⟩, (fun h => absurd h (by decide)), (fun _ => ⟨qzWs_in 702 (by decide +kernel) rfl, qzWs_in 33 (by decide +kernel) rfl⟩), (fun h => absurd h (by decide))⟩
set_option maxRecDepth 20000 in
theorem qzm_102 : qzPm (yX3_most, cX3_most, 2, (some .int), 1, 1, 3) := ⟨by decide +kernel, qzWs_in 695 (by decide +kernel) rfl, qzi_RX3, ⟨by decide +kernel, by decide +kernel, by decide +kernel⟩, ⟨by decide, by decide, rfl⟩, (fun h => absurd h (by decide)), (fun _ => ⟨qzWs_in 694 (by decide +kernel) rfl, qzWs_in 31 (by decide +kernel) rfl⟩), (fun h => absurd h (by decide))⟩
set_option maxRecDepth 20000 in
theorem qzm_103 : qzPm (yX3_leadBy, cX3_leadBy, 9, (some .int), 1, 6, 3) := ⟨by decide +kernel, qzWs_in 699 (by decide +kernel) rfl, qzi_RX3, ⟨by decide +kernel, by decide +kernel, by decide +kernel⟩, ⟨by decide, by decide, rfl⟩, (fun h => absurd h (by decide)), (fun _ => ⟨qzWs_in 698 (by decide +kernel) rfl, qzWs_in 32 (by decide +kernel) rfl⟩), (fun h => absurd h (by decide))⟩
set_option maxRecDepth 20000 in
theorem qzm_104 : qzPm (yX3_laysLead, cX3_laysLead, 9, none, 1, 4, 3) := ⟨by decide +kernel, qzWs_in 691 (by decide +kernel) rfl, qzi_RX3, ⟨by decide +kernel, by decide +kernel, by decide +kernel⟩, ⟨by decide, by decide, rfl⟩, (fun h => absurd h (by decide)), (fun _ => ⟨qzWs_in 690 (by decide +kernel) rfl, qzWs_in 30 (by decide +kernel) rfl⟩), (fun h => absurd h (by decide))⟩
set_option maxRecDepth 20000 in
theorem qzm_105 : qzPm (yX3_laysLeads, cX3_laysLeads, 4, none, 1, 0, 3) := ⟨by decide +kernel, qzWs_in 687 (by decide +kernel) rfl, qzi_RX3, ⟨by decide +kernel, by decide +kernel, by decide +kernel⟩, ⟨by decide, by decide, rfl⟩, (fun h => absurd h (by decide)), (fun _ => ⟨qzWs_in 686 (by decide +kernel) rfl, qzWs_in 29 (by decide +kernel) rfl⟩), (fun h => absurd h (by decide))⟩
set_option maxRecDepth 20000 in
theorem qzm_106 : qzPm (yX3_own, cX3_own, 1, (some .int), 1, 0, 3) := ⟨by decide +kernel, qzWs_in 718 (by decide +kernel) rfl, qzi_RX3, ⟨by decide +kernel, by decide +kernel, by decide +kernel⟩, ⟨by decide, by decide, rfl⟩, (fun h => absurd h (by decide)), (fun _ => ⟨qzWs_in 717 (by decide +kernel) rfl, qzWs_in 36 (by decide +kernel) rfl⟩), (fun h => absurd h (by decide))⟩
set_option maxRecDepth 20000 in
theorem qzm_107 : qzPm (yX3_others, cX3_others, 1, (some .int), 1, 0, 3) := ⟨by decide +kernel, qzWs_in 722 (by decide +kernel) rfl, qzi_RX3, ⟨by decide +kernel, by decide +kernel, by decide +kernel⟩, ⟨by decide, by decide, rfl⟩, (fun h => absurd h (by decide)), (fun _ => ⟨qzWs_in 721 (by decide +kernel) rfl, qzWs_in 37 (by decide +kernel) rfl⟩), (fun h => absurd h (by decide))⟩
set_option maxRecDepth 20000 in
theorem qzm_108 : qzPm (yX3_choice, cX3_choice, 10, (some .int), 1, 1, 3) := ⟨by decide +kernel, qzWs_in 714 (by decide +kernel) rfl, qzi_RX3, ⟨by decide +kernel, by decide +kernel, by decide +kernel⟩, ⟨by decide, by decide, rfl⟩, (fun h => absurd h (by decide)), (fun _ => ⟨qzWs_in 713 (by decide +kernel) rfl, qzWs_in 35 (by decide +kernel) rfl⟩), (fun h => absurd h (by decide))⟩
set_option maxRecDepth 20000 in
theorem qzm_109 : qzPm (yX3_cutsBy, cX3_cutsBy, 3, (some .int), 1, 1, 3) := ⟨by decide +kernel, qzWs_in 710 (by decide +kernel) rfl, qzi_RX3, ⟨by decide +kernel, by decide +kernel, by decide +kernel⟩, ⟨by decide, by decide, rfl⟩, (fun h => absurd h (by decide)), (fun _ => ⟨qzWs_in 709 (by decide +kernel) rfl, qzWs_in 34 (by decide +kernel) rfl⟩), (fun h => absurd h (by decide))⟩
set_option maxRecDepth 20000 in
theorem qzm_110 : qzPm (yX3_cut, cX3_cut, 4, (some .int), 1, 2, 3) := ⟨by decide +kernel, qzWs_in 634 (by decide +kernel) rfl, qzi_RX3, ⟨by decide +kernel, by decide +kernel, by decide +kernel⟩, ⟨by decide, by decide, rfl⟩, (fun h => absurd h (by decide)), (fun _ => ⟨qzWs_in 632 (by decide +kernel) rfl, qzWs_in 633 (by decide +kernel) rfl⟩), (fun h => absurd h (by decide))⟩
set_option maxRecDepth 20000 in
theorem qzm_111 : qzPm (yX3_best, cX3_best, 1, (some .int), 1, 0, 3) := ⟨by decide +kernel, qzWs_in 679 (by decide +kernel) rfl, qzi_RX3, ⟨by decide +kernel, by decide +kernel, by decide +kernel⟩, ⟨by decide, by decide, rfl⟩, (fun h => absurd h (by decide)), (fun _ => ⟨qzWs_in 677 (by decide +kernel) rfl, qzWs_in 678 (by decide +kernel) rfl⟩), (fun h => absurd h (by decide))⟩
set_option maxRecDepth 20000 in
theorem qzm_112 : qzPm (yX3_greedy, cX3_greedy, 1, (some .int), 1, 0, 3) := ⟨by decide +kernel, qzWs_in 726 (by decide +kernel) rfl, qzi_RX3, ⟨by decide +kernel, by decide +kernel, by decide +kernel⟩, ⟨by decide, by decide, rfl⟩, (fun h => absurd h (by decide)), (fun _ => ⟨qzWs_in 724 (by decide +kernel) rfl, qzWs_in 725 (by decide +kernel) rfl⟩), (fun h => absurd h (by decide))⟩
set_option maxRecDepth 20000 in
theorem qzm_113 : qzPm (yX3_again, cX3_again, 1, (some .int), 1, 0, 3) := ⟨by decide +kernel, qzWs_in 730 (by decide +kernel) rfl, qzi_RX3, ⟨by decide +kernel, by decide +kernel, by decide +kernel⟩, ⟨by decide, by decide, rfl⟩, (fun h => absurd h (by decide)), (fun _ => ⟨qzWs_in 728 (by decide +kernel) rfl, qzWs_in 729 (by decide +kernel) rfl⟩), (fun h => absurd h (by decide))⟩
set_option maxRecDepth 20000 in
theorem qzm_114 : qzPm (yX3_mirror, cX3_mirror, 6, (some .int), 1, 0, 3) := ⟨by decide +kernel, qzWs_in 734 (by decide +kernel) rfl, qzi_RX3, ⟨by decide +kernel, by decide +kernel, by decide +kernel⟩, ⟨by decide, by decide, rfl⟩, (fun h => absurd h (by decide)), (fun _ => ⟨qzWs_in 732 (by decide +kernel) rfl, qzWs_in 733 (by decide +kernel) rfl⟩), (fun h => absurd h (by decide))⟩
set_option maxRecDepth 20000 in
theorem qzm_115 : qzPm (yX3_set, cX3_set, 4, (some .int), 1, 2, 3) := ⟨by decide +kernel, qzWs_in 738 (by decide +kernel) rfl, qzi_RX3, ⟨by decide +kernel, by decide +kernel, by decide +kernel⟩, ⟨by decide, by decide, rfl⟩, (fun h => absurd h (by decide)), (fun _ => ⟨qzWs_in 736 (by decide +kernel) rfl, qzWs_in 737 (by decide +kernel) rfl⟩), (fun h => absurd h (by decide))⟩
set_option maxRecDepth 20000 in
theorem qzm_116 : qzPm (yX3_append, cX3_append, 2, (some .int), 1, 1, 3) := ⟨by decide +kernel, qzWs_in 742 (by decide +kernel) rfl, qzi_RX3, ⟨by decide +kernel, by decide +kernel, by decide +kernel⟩, ⟨by decide, by decide, rfl⟩, (fun h => absurd h (by decide)), (fun _ => ⟨qzWs_in 740 (by decide +kernel) rfl, qzWs_in 741 (by decide +kernel) rfl⟩), (fun h => absurd h (by decide))⟩
set_option maxRecDepth 20000 in
theorem qzm_117 : qzPm (yX3_clear, cX3_clear, 2, (some .int), 1, 0, 3) := ⟨by decide +kernel, qzWs_in 746 (by decide +kernel) rfl, qzi_RX3, ⟨by decide +kernel, by decide +kernel, by decide +kernel⟩, ⟨by decide, by decide, rfl⟩, (fun h => absurd h (by decide)), (fun _ => ⟨qzWs_in 744 (by decide +kernel) rfl, qzWs_in 745 (by decide +kernel) rfl⟩), (fun h => absurd h (by decide))⟩
set_option maxRecDepth 20000 in
theorem qzm_118 : qzPm (yX3_here, cX3_here, 1, (some .int), 1, 0, 3) := ⟨by decide +kernel, qzWs_in 758 (by decide +kernel) rfl, qzi_RX3, ⟨by decide +kernel, by decide +kernel, by decide +kernel⟩, ⟨by decide, by decide, rfl⟩, (fun h => absurd h (by decide)), (fun _ => ⟨qzWs_in 757 (by decide +kernel) rfl, qzWs_in 39 (by decide +kernel) rfl⟩), (fun h => absurd h (by decide))⟩
set_option maxRecDepth 20000 in
theorem qzm_119 : qzPm (yX3_takes, cX3_takes, 2, none, 1, 1, 3) := ⟨by decide +kernel, qzWs_in 765 (by decide +kernel) rfl, qzi_RX3, ⟨by decide +kernel, by decide +kernel, by decide +kernel⟩, ⟨by decide, by decide, rfl⟩, (fun h => absurd h (by decide)), (fun _ => ⟨qzWs_in 764 (by decide +kernel) rfl, qzWs_in 40 (by decide +kernel) rfl⟩), (fun h => absurd h (by decide))⟩
set_option maxRecDepth 20000 in
theorem qzm_120 : qzPm (yX3_takesDigit, cX3_takesDigit, 4, (some .int), 1, 2, 3) := ⟨by decide +kernel, qzWs_in 773 (by decide +kernel) rfl, qzi_RX3, ⟨by decide +kernel, by decide +kernel, by decide +kernel⟩, ⟨by decide, by decide, rfl⟩, (fun h => absurd h (by decide)), (fun _ => ⟨qzWs_in 772 (by decide +kernel) rfl, qzWs_in 42 (by decide +kernel) rfl⟩), (fun h => absurd h (by decide))⟩
set_option maxRecDepth 20000 in
theorem qzm_121 : qzPm (yX3_isLetter, cX3_isLetter, 1, (some .boolean), 0, 1, 3) := ⟨by decide +kernel, qzWs_in 761 (by decide +kernel) rfl, qzi_RX3, ⟨by decide +kernel, by decide +kernel, by decide +kernel⟩, ⟨by decide, by decide, rfl⟩, (fun _ => qzWs_in 760 (by decide +kernel) rfl), (fun h => absurd h (by decide)), (fun h => absurd h (by decide))⟩
set_option maxRecDepth 20000 in
theorem qzm_122 : qzPm (yX3_takesRule, cX3_takesRule, 1, none, 1, 0, 3) := ⟨by decide +kernel, qzWs_in 769 (by decide +kernel) rfl, qzi_RX3, ⟨by decide +kernel, by decide +kernel, by decide +kernel⟩, ⟨by decide, by decide, rfl⟩, (fun h => absurd h (by decide)), (fun _ => ⟨qzWs_in 768 (by decide +kernel) rfl, qzWs_in 41 (by decide +kernel) rfl⟩), (fun h => absurd h (by decide))⟩
set_option maxRecDepth 20000 in
theorem qzm_123 : qzPm (yX3_isBolt, cX3_isBolt, 1, (some .boolean), 1, 0, 3) := ⟨by decide +kernel, qzWs_in 754 (by decide +kernel) rfl, qzi_RX3, ⟨by decide +kernel, by decide +kernel, by decide +kernel⟩, ⟨by decide, by decide, rfl⟩, (fun h => absurd h (by decide)), (fun _ => ⟨qzWs_in 753 (by decide +kernel) rfl, qzWs_in 38 (by decide +kernel) rfl⟩), (fun h => absurd h (by decide))⟩
set_option maxRecDepth 20000 in
theorem qzm_124 : qzPm (yX3_takesCut, cX3_takesCut, 3, none, 1, 0, 3) := ⟨by decide +kernel, qzWs_in 781 (by decide +kernel) rfl, qzi_RX3, ⟨by decide +kernel, by decide +kernel, by decide +kernel⟩, ⟨by decide, by decide, rfl⟩, (fun h => absurd h (by decide)), (fun _ => ⟨qzWs_in 780 (by decide +kernel) rfl, qzWs_in 44 (by decide +kernel) rfl⟩), (fun h => absurd h (by decide))⟩
set_option maxRecDepth 20000 in
theorem qzm_125 : qzPm (yX3_areCuts, cX3_areCuts, 1, (some .boolean), 1, 0, 3) := ⟨by decide +kernel, qzWs_in 777 (by decide +kernel) rfl, qzi_RX3, ⟨by decide +kernel, by decide +kernel, by decide +kernel⟩, ⟨by decide, by decide, rfl⟩, (fun h => absurd h (by decide)), (fun _ => ⟨qzWs_in 776 (by decide +kernel) rfl, qzWs_in 43 (by decide +kernel) rfl⟩), (fun h => absurd h (by decide))⟩
set_option maxRecDepth 20000 in
theorem qzm_126 : qzPm (yX3_fault, cX3_fault, 2, (some .int), 1, 1, 3) := ⟨by decide +kernel, qzWs_in 750 (by decide +kernel) rfl, qzi_RX3, ⟨by decide +kernel, by decide +kernel, by decide +kernel⟩, ⟨by decide, by decide, rfl⟩, (fun h => absurd h (by decide)), (fun _ => ⟨qzWs_in 748 (by decide +kernel) rfl, qzWs_in 749 (by decide +kernel) rfl⟩), (fun h => absurd h (by decide))⟩
set_option maxRecDepth 20000 in
theorem qzm_127 : qzPm (yX3_load, cX3_load, 2, (some .int), 1, 0, 3) := ⟨by decide +kernel, qzWs_in 785 (by decide +kernel) rfl, qzi_RX3, ⟨by decide +kernel, by decide +kernel, by decide +kernel⟩, ⟨by decide, by decide, rfl⟩, (fun h => absurd h (by decide)), (fun _ => ⟨qzWs_in 783 (by decide +kernel) rfl, qzWs_in 784 (by decide +kernel) rfl⟩), (fun h => absurd h (by decide))⟩
set_option maxRecDepth 20000 in
theorem qzm_128 : qzPm (yX3_makes, cX3_makes, 6, (some .boolean), 1, 1, 3) := ⟨by decide +kernel, qzWs_in 793 (by decide +kernel) rfl, qzi_RX3, ⟨by decide +kernel, by decide +kernel, by decide +kernel⟩, ⟨by decide, by decide, rfl⟩, (fun h => absurd h (by decide)), (fun _ => ⟨qzWs_in 792 (by decide +kernel) rfl, qzWs_in 45 (by decide +kernel) rfl⟩), (fun h => absurd h (by decide))⟩
set_option maxRecDepth 20000 in
theorem qzm_129 : qzPm (yX3_play, cX3_play, 4, (some .int), 1, 0, 3) := ⟨by decide +kernel, qzWs_in 789 (by decide +kernel) rfl, qzi_RX3, ⟨by decide +kernel, by decide +kernel, by decide +kernel⟩, ⟨by decide, by decide, rfl⟩, (fun h => absurd h (by decide)), (fun _ => ⟨qzWs_in 787 (by decide +kernel) rfl, qzWs_in 788 (by decide +kernel) rfl⟩), (fun h => absurd h (by decide))⟩
set_option maxRecDepth 20000 in
theorem qzm_130 : qzPm (yX3_stripe, cX3_stripe, 2, (some .int), 1, 1, 3) := ⟨by decide +kernel, qzWs_in 797 (by decide +kernel) rfl, qzi_RX3, ⟨by decide +kernel, by decide +kernel, by decide +kernel⟩, ⟨by decide, by decide, rfl⟩, (fun h => absurd h (by decide)), (fun _ => ⟨qzWs_in 795 (by decide +kernel) rfl, qzWs_in 796 (by decide +kernel) rfl⟩), (fun h => absurd h (by decide))⟩
set_option maxRecDepth 20000 in
theorem qzm_131 : qzPm (yX3_coat, cX3_coat, 3, (some .int), 1, 2, 3) := ⟨by decide +kernel, qzWs_in 801 (by decide +kernel) rfl, qzi_RX3, ⟨by decide +kernel, by decide +kernel, by decide +kernel⟩, ⟨by decide, by decide, rfl⟩, (fun h => absurd h (by decide)), (fun _ => ⟨qzWs_in 799 (by decide +kernel) rfl, qzWs_in 800 (by decide +kernel) rfl⟩), (fun h => absurd h (by decide))⟩
set_option maxRecDepth 20000 in
theorem qzm_132 : qzPm (yX3_piece, cX3_piece, 4, (some .int), 1, 3, 3) := ⟨by decide +kernel, qzWs_in 805 (by decide +kernel) rfl, qzi_RX3, ⟨by decide +kernel, by decide +kernel, by decide +kernel⟩, ⟨by decide, by decide, rfl⟩, (fun h => absurd h (by decide)), (fun _ => ⟨qzWs_in 803 (by decide +kernel) rfl, qzWs_in 804 (by decide +kernel) rfl⟩), (fun h => absurd h (by decide))⟩
set_option maxRecDepth 20000 in
theorem qzm_133 : qzPm (yX3_changes, cX3_changes, 3, (some .int), 1, 0, 3) := ⟨by decide +kernel, qzWs_in 813 (by decide +kernel) rfl, qzi_RX3, ⟨by decide +kernel, by decide +kernel, by decide +kernel⟩, ⟨by decide, by decide, rfl⟩, (fun h => absurd h (by decide)), (fun _ => ⟨qzWs_in 812 (by decide +kernel) rfl, qzWs_in 46 (by decide +kernel) rfl⟩), (fun h => absurd h (by decide))⟩
set_option maxRecDepth 20000 in
theorem qzm_134 : qzPm (yX3_leftOf, cX3_leftOf, 4, (some .int), 1, 1, 3) := ⟨by decide +kernel, qzWs_in 821 (by decide +kernel) rfl, qzi_RX3, ⟨by decide +kernel, by decide +kernel, by decide +kernel⟩, ⟨by decide, by decide, rfl⟩, (fun h => absurd h (by decide)), (fun _ => ⟨qzWs_in 820 (by decide +kernel) rfl, qzWs_in 48 (by decide +kernel) rfl⟩), (fun h => absurd h (by decide))⟩
set_option maxRecDepth 20000 in
theorem qzm_135 : qzPm (yX3_coloursLeft, cX3_coloursLeft, 3, (some .int), 1, 0, 3) := ⟨by decide +kernel, qzWs_in 817 (by decide +kernel) rfl, qzi_RX3, ⟨by decide +kernel, by decide +kernel, by decide +kernel⟩, ⟨by decide, by decide, rfl⟩, (fun h => absurd h (by decide)), (fun _ => ⟨qzWs_in 816 (by decide +kernel) rfl, qzWs_in 47 (by decide +kernel) rfl⟩), (fun h => absurd h (by decide))⟩
set_option maxRecDepth 20000 in
theorem qzm_136 : qzPm (yX3_longestFold, cX3_longestFold, 4, (some .int), 1, 0, 3) := ⟨by decide +kernel, qzWs_in 825 (by decide +kernel) rfl, qzi_RX3, ⟨by decide +kernel, by decide +kernel, by decide +kernel⟩, ⟨by decide, by decide, rfl⟩, (fun h => absurd h (by decide)), (fun _ => ⟨qzWs_in 824 (by decide +kernel) rfl, qzWs_in 49 (by decide +kernel) rfl⟩), (fun h => absurd h (by decide))⟩
set_option maxRecDepth 20000 in
theorem qzm_137 : qzPm (yX3_count, cX3_count, 2, (some .int), 1, 1, 3) := ⟨by decide +kernel, qzWs_in 809 (by decide +kernel) rfl, qzi_RX3, ⟨by decide +kernel, by decide +kernel, by decide +kernel⟩, ⟨by decide, by decide, rfl⟩, (fun h => absurd h (by decide)), (fun _ => ⟨qzWs_in 807 (by decide +kernel) rfl, qzWs_in 808 (by decide +kernel) rfl⟩), (fun h => absurd h (by decide))⟩
set_option maxRecDepth 20000 in
theorem qzm_138 : qzPm (yX3_left, cX3_left, 2, (some .int), 1, 1, 3) := ⟨by decide +kernel, qzWs_in 829 (by decide +kernel) rfl, qzi_RX3, ⟨by decide +kernel, by decide +kernel, by decide +kernel⟩, ⟨by decide, by decide, rfl⟩, (fun h => absurd h (by decide)), (fun _ => ⟨qzWs_in 827 (by decide +kernel) rfl, qzWs_in 828 (by decide +kernel) rfl⟩), (fun h => absurd h (by decide))⟩
set_option maxRecDepth 20000 in
theorem qzm_139 : qzPm (yX3_worth, cX3_worth, 4, (some .int), 1, 2, 3) := ⟨by decide +kernel, qzWs_in 833 (by decide +kernel) rfl, qzi_RX3, ⟨by decide +kernel, by decide +kernel, by decide +kernel⟩, ⟨by decide, by decide, rfl⟩, (fun h => absurd h (by decide)), (fun _ => ⟨qzWs_in 831 (by decide +kernel) rfl, qzWs_in 832 (by decide +kernel) rfl⟩), (fun h => absurd h (by decide))⟩
set_option maxRecDepth 20000 in
theorem qzm_140 : qzPm (yX3_lead, cX3_lead, 2, (some .int), 1, 1, 3) := ⟨by decide +kernel, qzWs_in 837 (by decide +kernel) rfl, qzi_RX3, ⟨by decide +kernel, by decide +kernel, by decide +kernel⟩, ⟨by decide, by decide, rfl⟩, (fun h => absurd h (by decide)), (fun _ => ⟨qzWs_in 835 (by decide +kernel) rfl, qzWs_in 836 (by decide +kernel) rfl⟩), (fun h => absurd h (by decide))⟩
set_option maxRecDepth 20000 in
theorem qzm_141 : qzPm (yX3_leadWith, cX3_leadWith, 4, (some .int), 1, 2, 3) := ⟨by decide +kernel, qzWs_in 841 (by decide +kernel) rfl, qzi_RX3, ⟨by decide +kernel, by decide +kernel, by decide +kernel⟩, ⟨by decide, by decide, rfl⟩, (fun h => absurd h (by decide)), (fun _ => ⟨qzWs_in 839 (by decide +kernel) rfl, qzWs_in 840 (by decide +kernel) rfl⟩), (fun h => absurd h (by decide))⟩
set_option maxRecDepth 20000 in
theorem qzm_142 : qzPm (yX3_bestCut, cX3_bestCut, 1, (some .int), 1, 0, 3) := ⟨by decide +kernel, qzWs_in 845 (by decide +kernel) rfl, qzi_RX3, ⟨by decide +kernel, by decide +kernel, by decide +kernel⟩, ⟨by decide, by decide, rfl⟩, (fun h => absurd h (by decide)), (fun _ => ⟨qzWs_in 843 (by decide +kernel) rfl, qzWs_in 844 (by decide +kernel) rfl⟩), (fun h => absurd h (by decide))⟩
set_option maxRecDepth 20000 in
theorem qzm_143 : qzPm (yX3_ended, cX3_ended, 5, (some .int), 1, 3, 3) := ⟨by decide +kernel, qzWs_in 849 (by decide +kernel) rfl, qzi_RX3, ⟨by decide +kernel, by decide +kernel, by decide +kernel⟩, ⟨by decide, by decide, rfl⟩, (fun h => absurd h (by decide)), (fun _ => ⟨qzWs_in 847 (by decide +kernel) rfl, qzWs_in 848 (by decide +kernel) rfl⟩), (fun h => absurd h (by decide))⟩
set_option maxRecDepth 20000 in
theorem qzm_144 : qzPm (yX3_rate, cX3_rate, 2, (some .double), 1, 0, 3) := ⟨by decide +kernel, qzWs_in 853 (by decide +kernel) rfl, qzi_RX3, ⟨by decide +kernel, by decide +kernel, by decide +kernel⟩, ⟨by decide, by decide, rfl⟩, (fun h => absurd h (by decide)), (fun _ => ⟨qzWs_in 851 (by decide +kernel) rfl, qzWs_in 852 (by decide +kernel) rfl⟩), (fun h => absurd h (by decide))⟩
set_option maxRecDepth 20000 in
theorem qzm_145 : qzPm (yX3_undo, cX3_undo, 1, (some .int), 1, 0, 3) := ⟨by decide +kernel, qzWs_in 857 (by decide +kernel) rfl, qzi_RX3, ⟨by decide +kernel, by decide +kernel, by decide +kernel⟩, ⟨by decide, by decide, rfl⟩, (fun h => absurd h (by decide)), (fun _ => ⟨qzWs_in 855 (by decide +kernel) rfl, qzWs_in 856 (by decide +kernel) rfl⟩), (fun h => absurd h (by decide))⟩
set_option maxRecDepth 20000 in
theorem qzm_146 : qzPm (yX3_save, cX3_save, 1, (some .int), 1, 0, 3) := ⟨by decide +kernel, qzWs_in 861 (by decide +kernel) rfl, qzi_RX3, ⟨by decide +kernel, by decide +kernel, by decide +kernel⟩, ⟨by decide, by decide, rfl⟩, (fun h => absurd h (by decide)), (fun _ => ⟨qzWs_in 859 (by decide +kernel) rfl, qzWs_in 860 (by decide +kernel) rfl⟩), (fun h => absurd h (by decide))⟩
set_option maxRecDepth 20000 in
theorem qzm_147 : qzPm (yX3_restore, cX3_restore, 1, (some .int), 1, 0, 3) := ⟨by decide +kernel, qzWs_in 865 (by decide +kernel) rfl, qzi_RX3, ⟨by decide +kernel, by decide +kernel, by decide +kernel⟩, ⟨by decide, by decide, rfl⟩, (fun h => absurd h (by decide)), (fun _ => ⟨qzWs_in 863 (by decide +kernel) rfl, qzWs_in 864 (by decide +kernel) rfl⟩), (fun h => absurd h (by decide))⟩
set_option maxRecDepth 20000 in
theorem qzm_148 : qzPm (yJ7_fill_53178, cJ7_fill_53178, 4, none, 0, 2, 4) := ⟨by decide +kernel, qzWs_in 342 (by decide +kernel) rfl, qzi_RJ7, ⟨by decide +kernel, by decide +kernel, by decide +kernel⟩, ⟨by decide, by decide, rfl⟩, (fun _ => qzWs_in 341 (by decide +kernel) rfl), (fun h => absurd h (by decide)), (fun h => absurd h (by decide))⟩
theorem qzMs_0 : ∀ md ∈ qzM_0, qzPm md := List.forall_mem_cons.mpr ⟨qzm_0, List.forall_mem_cons.mpr ⟨qzm_1, List.forall_mem_cons.mpr ⟨qzm_2, List.forall_mem_cons.mpr ⟨qzm_3, List.forall_mem_cons.mpr ⟨qzm_4, List.forall_mem_cons.mpr ⟨qzm_5, List.forall_mem_cons.mpr ⟨qzm_6, List.forall_mem_cons.mpr ⟨qzm_7, List.forall_mem_cons.mpr ⟨qzm_8, List.forall_mem_cons.mpr ⟨qzm_9, List.forall_mem_cons.mpr ⟨qzm_10, List.forall_mem_cons.mpr ⟨qzm_11, List.forall_mem_cons.mpr ⟨qzm_12, List.forall_mem_cons.mpr ⟨qzm_13, List.forall_mem_cons.mpr ⟨qzm_14, List.forall_mem_cons.mpr ⟨qzm_15, List.forall_mem_cons.mpr ⟨qzm_16, List.forall_mem_cons.mpr ⟨qzm_17, List.forall_mem_cons.mpr ⟨qzm_18, List.forall_mem_cons.mpr ⟨qzm_19, List.forall_mem_cons.mpr ⟨qzm_20, List.forall_mem_cons.mpr ⟨qzm_21, List.forall_mem_cons.mpr ⟨qzm_22, List.forall_mem_cons.mpr ⟨qzm_23, List.forall_mem_cons.mpr ⟨qzm_24, (fun _ h => absurd h List.not_mem_nil)⟩⟩⟩⟩⟩⟩⟩⟩⟩⟩⟩⟩⟩⟩⟩⟩⟩⟩⟩⟩⟩⟩⟩⟩⟩
theorem qzMs_1 : ∀ md ∈ qzM_1, qzPm md := List.forall_mem_cons.mpr ⟨qzm_25, List.forall_mem_cons.mpr ⟨qzm_26, List.forall_mem_cons.mpr ⟨qzm_27, List.forall_mem_cons.mpr ⟨qzm_28, List.forall_mem_cons.mpr ⟨qzm_29, List.forall_mem_cons.mpr ⟨qzm_30, List.forall_mem_cons.mpr ⟨qzm_31, List.forall_mem_cons.mpr ⟨qzm_32, List.forall_mem_cons.mpr ⟨qzm_33, List.forall_mem_cons.mpr ⟨qzm_34, List.forall_mem_cons.mpr ⟨qzm_35, List.forall_mem_cons.mpr ⟨qzm_36, List.forall_mem_cons.mpr ⟨qzm_37, List.forall_mem_cons.mpr ⟨qzm_38, List.forall_mem_cons.mpr ⟨qzm_39, List.forall_mem_cons.mpr ⟨qzm_40, List.forall_mem_cons.mpr ⟨qzm_41, List.forall_mem_cons.mpr ⟨qzm_42, List.forall_mem_cons.mpr ⟨qzm_43, List.forall_mem_cons.mpr ⟨qzm_44, List.forall_mem_cons.mpr ⟨qzm_45, List.forall_mem_cons.mpr ⟨qzm_46, List.forall_mem_cons.mpr ⟨qzm_47, List.forall_mem_cons.mpr ⟨qzm_48, List.forall_mem_cons.mpr ⟨qzm_49, (fun _ h => absurd h List.not_mem_nil)⟩⟩⟩⟩⟩⟩⟩⟩⟩⟩⟩⟩⟩⟩⟩⟩⟩⟩⟩⟩⟩⟩⟩⟩⟩
theorem qzMs_2 : ∀ md ∈ qzM_2, qzPm md := List.forall_mem_cons.mpr ⟨qzm_50, List.forall_mem_cons.mpr ⟨qzm_51, List.forall_mem_cons.mpr ⟨qzm_52, List.forall_mem_cons.mpr ⟨qzm_53, List.forall_mem_cons.mpr ⟨qzm_54, List.forall_mem_cons.mpr ⟨qzm_55, List.forall_mem_cons.mpr ⟨qzm_56, List.forall_mem_cons.mpr ⟨qzm_57, List.forall_mem_cons.mpr ⟨qzm_58, List.forall_mem_cons.mpr ⟨qzm_59, List.forall_mem_cons.mpr ⟨qzm_60, List.forall_mem_cons.mpr ⟨qzm_61, List.forall_mem_cons.mpr ⟨qzm_62, List.forall_mem_cons.mpr ⟨qzm_63, List.forall_mem_cons.mpr ⟨qzm_64, List.forall_mem_cons.mpr ⟨qzm_65, List.forall_mem_cons.mpr ⟨qzm_66, List.forall_mem_cons.mpr ⟨qzm_67, List.forall_mem_cons.mpr ⟨qzm_68, List.forall_mem_cons.mpr ⟨qzm_69, List.forall_mem_cons.mpr ⟨qzm_70, List.forall_mem_cons.mpr ⟨qzm_71, List.forall_mem_cons.mpr ⟨qzm_72, List.forall_mem_cons.mpr ⟨qzm_73, List.forall_mem_cons.mpr ⟨qzm_74, (fun _ h => absurd h List.not_mem_nil)⟩⟩⟩⟩⟩⟩⟩⟩⟩⟩⟩⟩⟩⟩⟩⟩⟩⟩⟩⟩⟩⟩⟩⟩⟩
theorem qzMs_3 : ∀ md ∈ qzM_3, qzPm md := List.forall_mem_cons.mpr ⟨qzm_75, List.forall_mem_cons.mpr ⟨qzm_76, List.forall_mem_cons.mpr ⟨qzm_77, List.forall_mem_cons.mpr ⟨qzm_78, List.forall_mem_cons.mpr ⟨qzm_79, List.forall_mem_cons.mpr ⟨qzm_80, List.forall_mem_cons.mpr ⟨qzm_81, List.forall_mem_cons.mpr ⟨qzm_82, List.forall_mem_cons.mpr ⟨qzm_83, List.forall_mem_cons.mpr ⟨qzm_84, List.forall_mem_cons.mpr ⟨qzm_85, List.forall_mem_cons.mpr ⟨qzm_86, List.forall_mem_cons.mpr ⟨qzm_87, List.forall_mem_cons.mpr ⟨qzm_88, List.forall_mem_cons.mpr ⟨qzm_89, List.forall_mem_cons.mpr ⟨qzm_90, List.forall_mem_cons.mpr ⟨qzm_91, List.forall_mem_cons.mpr ⟨qzm_92, List.forall_mem_cons.mpr ⟨qzm_93, List.forall_mem_cons.mpr ⟨qzm_94, List.forall_mem_cons.mpr ⟨qzm_95, List.forall_mem_cons.mpr ⟨qzm_96, List.forall_mem_cons.mpr ⟨qzm_97, List.forall_mem_cons.mpr ⟨qzm_98, List.forall_mem_cons.mpr ⟨qzm_99, (fun _ h => absurd h List.not_mem_nil)⟩⟩⟩⟩⟩⟩⟩⟩⟩⟩⟩⟩⟩⟩⟩⟩⟩⟩⟩⟩⟩⟩⟩⟩⟩
theorem qzMs_4 : ∀ md ∈ qzM_4, qzPm md := List.forall_mem_cons.mpr ⟨qzm_100, List.forall_mem_cons.mpr ⟨qzm_101, List.forall_mem_cons.mpr ⟨qzm_102, List.forall_mem_cons.mpr ⟨qzm_103, List.forall_mem_cons.mpr ⟨qzm_104, List.forall_mem_cons.mpr ⟨qzm_105, List.forall_mem_cons.mpr ⟨qzm_106, List.forall_mem_cons.mpr ⟨qzm_107, List.forall_mem_cons.mpr ⟨qzm_108, List.forall_mem_cons.mpr ⟨qzm_109, List.forall_mem_cons.mpr ⟨qzm_110, List.forall_mem_cons.mpr ⟨qzm_111, List.forall_mem_cons.mpr ⟨qzm_112, List.forall_mem_cons.mpr ⟨qzm_113, List.forall_mem_cons.mpr ⟨qzm_114, List.forall_mem_cons.mpr ⟨qzm_115, List.forall_mem_cons.mpr ⟨qzm_116, List.forall_mem_cons.mpr ⟨qzm_117, List.forall_mem_cons.mpr ⟨qzm_118, List.forall_mem_cons.mpr ⟨qzm_119, List.forall_mem_cons.mpr ⟨qzm_120, List.forall_mem_cons.mpr ⟨qzm_121, List.forall_mem_cons.mpr ⟨qzm_122, List.forall_mem_cons.mpr ⟨qzm_123, List.forall_mem_cons.mpr ⟨qzm_124, (fun _ h => absurd h List.not_mem_nil)⟩⟩⟩⟩⟩⟩⟩⟩⟩⟩⟩⟩⟩⟩⟩⟩⟩⟩⟩⟩⟩⟩⟩⟩⟩
theorem qzMs_5 : ∀ md ∈ qzM_5, qzPm md := List.forall_mem_cons.mpr ⟨qzm_125, List.forall_mem_cons.mpr ⟨qzm_126, List.forall_mem_cons.mpr ⟨qzm_127, List.forall_mem_cons.mpr ⟨qzm_128, List.forall_mem_cons.mpr ⟨qzm_129, List.forall_mem_cons.mpr ⟨qzm_130, List.forall_mem_cons.mpr ⟨qzm_131, List.forall_mem_cons.mpr ⟨qzm_132, List.forall_mem_cons.mpr ⟨qzm_133, List.forall_mem_cons.mpr ⟨qzm_134, List.forall_mem_cons.mpr ⟨qzm_135, List.forall_mem_cons.mpr ⟨qzm_136, List.forall_mem_cons.mpr ⟨qzm_137, List.forall_mem_cons.mpr ⟨qzm_138, List.forall_mem_cons.mpr ⟨qzm_139, List.forall_mem_cons.mpr ⟨qzm_140, List.forall_mem_cons.mpr ⟨qzm_141, List.forall_mem_cons.mpr ⟨qzm_142, List.forall_mem_cons.mpr ⟨qzm_143, List.forall_mem_cons.mpr ⟨qzm_144, List.forall_mem_cons.mpr ⟨qzm_145, List.forall_mem_cons.mpr ⟨qzm_146, List.forall_mem_cons.mpr ⟨qzm_147, List.forall_mem_cons.mpr ⟨qzm_148, (fun _ h => absurd h List.not_mem_nil)⟩⟩⟩⟩⟩⟩⟩⟩⟩⟩⟩⟩⟩⟩⟩⟩⟩⟩⟩⟩⟩⟩⟩⟩
theorem qzMs : ∀ md ∈ qzM, qzPm md := List.forall_mem_append.mpr ⟨qzMs_0, List.forall_mem_append.mpr ⟨qzMs_1, List.forall_mem_append.mpr ⟨qzMs_2, List.forall_mem_append.mpr ⟨qzMs_3, List.forall_mem_append.mpr ⟨qzMs_4, qzMs_5⟩⟩⟩⟩⟩
theorem qzM_len : qzM.length = 149 := by decide +kernel
theorem qzPm_at {mi : Nat} (h : mi < 149) : qzPm (qzMd mi) := by
  have hl : mi < qzM.length := by rw [qzM_len]; exact h
  have e : qzMd mi = qzM[mi] := by unfold qzMd; rw [List.getD_eq_getElem?_getD, List.getElem?_eq_getElem hl]; rfl
  rw [e]
  exact qzMs _ (List.getElem_mem hl)
/-- what the tables say of a call -/
def qzPc (e : (Nat × Nat) × (Nat × Bool)) : Prop := e.2.1 < 149 ∧ ((e.2.2 = false ∧ Cond.methodLink (qzRs e.1.1) e.1.2 (qzMd e.2.1).1 ∈ qzWs) ∨ (e.2.2 = true ∧ ∃ host, (e.1.1, e.1.2, (qzMd e.2.1).1, host) ∈ qzNst))
theorem qzc_0_54 : qzPc ((0, 54), (84, true)) := ⟨by decide, Or.inr ⟨rfl, "BoltTailors", by decide +kernel⟩⟩
theorem qzc_0_58 : qzPc ((0, 58), (85, true)) := ⟨by decide, Or.inr ⟨rfl, "BoltTailors", by decide +kernel⟩⟩
theorem qzc_0_72 : qzPc ((0, 72), (3, false)) := ⟨by decide, Or.inl ⟨rfl, (qzWs_in 245 (by decide +kernel) rfl : Cond.methodLink RX0 72 yX0_remaining ∈ qzWs)⟩⟩
theorem qzc_0_81 : qzPc ((0, 81), (55, true)) := ⟨by decide, Or.inr ⟨rfl, "BoltTailors", by decide +kernel⟩⟩
theorem qzc_0_85 : qzPc ((0, 85), (56, true)) := ⟨by decide, Or.inr ⟨rfl, "BoltTailors", by decide +kernel⟩⟩
theorem qzc_0_89 : qzPc ((0, 89), (5, false)) := ⟨by decide, Or.inl ⟨rfl, (qzWs_in 288 (by decide +kernel) rfl : Cond.methodLink RX0 89 yX0_onTurn ∈ qzWs)⟩⟩
theorem qzc_0_92 : qzPc ((0, 92), (11, false)) := ⟨by decide, Or.inl ⟨rfl, (qzWs_in 292 (by decide +kernel) rfl : Cond.methodLink RX0 92 yX0_endOfCoat ∈ qzWs)⟩⟩
theorem qzc_0_95 : qzPc ((0, 95), (69, true)) := ⟨by decide, Or.inr ⟨rfl, "BoltTailors", by decide +kernel⟩⟩
theorem qzc_0_99 : qzPc ((0, 99), (70, true)) := ⟨by decide, Or.inr ⟨rfl, "BoltTailors", by decide +kernel⟩⟩
theorem qzc_0_103 : qzPc ((0, 103), (54, true)) := ⟨by decide, Or.inr ⟨rfl, "BoltTailors", by decide +kernel⟩⟩
theorem qzc_0_107 : qzPc ((0, 107), (57, true)) := ⟨by decide, Or.inr ⟨rfl, "BoltTailors", by decide +kernel⟩⟩
theorem qzc_0_110 : qzPc ((0, 110), (58, true)) := ⟨by decide, Or.inr ⟨rfl, "BoltTailors", by decide +kernel⟩⟩
theorem qzc_0_113 : qzPc ((0, 113), (10, false)) := ⟨by decide, Or.inl ⟨rfl, (qzWs_in 296 (by decide +kernel) rfl : Cond.methodLink RX0 113 yX0_piecesOf ∈ qzWs)⟩⟩
theorem qzc_0_116 : qzPc ((0, 116), (15, false)) := ⟨by decide, Or.inl ⟨rfl, (qzWs_in 510 (by decide +kernel) rfl : Cond.methodLink RX0 116 yX0_stripesLeftOf ∈ qzWs)⟩⟩
theorem qzc_0_119 : qzPc ((0, 119), (71, true)) := ⟨by decide, Or.inr ⟨rfl, "BoltTailors", by decide +kernel⟩⟩
theorem qzc_1_21 : qzPc ((1, 21), (20, false)) := ⟨by decide, Or.inl ⟨rfl, (qzWs_in 333 (by decide +kernel) rfl : Cond.methodLink RX1 21 yX1_isFor ∈ qzWs)⟩⟩
theorem qzc_1_41 : qzPc ((1, 41), (148, false)) := ⟨by decide, Or.inl ⟨rfl, (qzWs_in 340 (by decide +kernel) rfl : Cond.methodLink RX1 41 yJ7_fill_53178 ∈ qzWs)⟩⟩
theorem qzc_1_47 : qzPc ((1, 47), (84, true)) := ⟨by decide, Or.inr ⟨rfl, "BoltTailors", by decide +kernel⟩⟩
theorem qzc_1_51 : qzPc ((1, 51), (23, false)) := ⟨by decide, Or.inl ⟨rfl, (qzWs_in 365 (by decide +kernel) rfl : Cond.methodLink RX1 51 yX1_place ∈ qzWs)⟩⟩
theorem qzc_1_55 : qzPc ((1, 55), (85, true)) := ⟨by decide, Or.inr ⟨rfl, "BoltTailors", by decide +kernel⟩⟩
theorem qzc_2_9 : qzPc ((2, 9), (0, false)) := ⟨by decide, Or.inl ⟨rfl, (qzWs_in 72 (by decide +kernel) rfl : Cond.methodLink RX2 9 yX0_init ∈ qzWs)⟩⟩
theorem qzc_2_32 : qzPc ((2, 32), (18, true)) := ⟨by decide, Or.inr ⟨rfl, "BoltTailors", by decide +kernel⟩⟩
theorem qzc_2_40 : qzPc ((2, 40), (59, false)) := ⟨by decide, Or.inl ⟨rfl, (qzWs_in 237 (by decide +kernel) rfl : Cond.methodLink RX2 40 yX2_errorOfCut ∈ qzWs)⟩⟩
theorem qzc_2_44 : qzPc ((2, 44), (51, false)) := ⟨by decide, Or.inl ⟨rfl, (qzWs_in 252 (by decide +kernel) rfl : Cond.methodLink RX2 44 yX2_record ∈ qzWs)⟩⟩
theorem qzc_2_47 : qzPc ((2, 47), (53, false)) := ⟨by decide, Or.inl ⟨rfl, (qzWs_in 271 (by decide +kernel) rfl : Cond.methodLink RX2 47 yX2_codeOf ∈ qzWs)⟩⟩
theorem qzc_2_51 : qzPc ((2, 51), (8, false)) := ⟨by decide, Or.inl ⟨rfl, (qzWs_in 274 (by decide +kernel) rfl : Cond.methodLink RX2 51 yX0_sew ∈ qzWs)⟩⟩
theorem qzc_2_54 : qzPc ((2, 54), (60, false)) := ⟨by decide, Or.inl ⟨rfl, (qzWs_in 321 (by decide +kernel) rfl : Cond.methodLink RX2 54 yX2_cutBy ∈ qzWs)⟩⟩
theorem qzc_2_57 : qzPc ((2, 57), (2, false)) := ⟨by decide, Or.inl ⟨rfl, (qzWs_in 385 (by decide +kernel) rfl : Cond.methodLink RX2 57 yX0_begin ∈ qzWs)⟩⟩
theorem qzc_2_64 : qzPc ((2, 64), (9, false)) := ⟨by decide, Or.inl ⟨rfl, (qzWs_in 393 (by decide +kernel) rfl : Cond.methodLink RX2 64 yX0_turnRound ∈ qzWs)⟩⟩
theorem qzc_2_72 : qzPc ((2, 72), (84, false)) := ⟨by decide, Or.inl ⟨rfl, (qzWs_in 303 (by decide +kernel) rfl : Cond.methodLink RX2 72 yX2_at ∈ qzWs)⟩⟩
theorem qzc_2_82 : qzPc ((2, 82), (85, false)) := ⟨by decide, Or.inl ⟨rfl, (qzWs_in 405 (by decide +kernel) rfl : Cond.methodLink RX2 82 yX2_put ∈ qzWs)⟩⟩
theorem qzc_2_89 : qzPc ((2, 89), (76, false)) := ⟨by decide, Or.inl ⟨rfl, (qzWs_in 418 (by decide +kernel) rfl : Cond.methodLink RX2 89 yX2_faultAsBolt ∈ qzWs)⟩⟩
theorem qzc_2_92 : qzPc ((2, 92), (79, false)) := ⟨by decide, Or.inl ⟨rfl, (qzWs_in 442 (by decide +kernel) rfl : Cond.methodLink RX2 92 yX2_faultAsCuts ∈ qzWs)⟩⟩
theorem qzc_2_95 : qzPc ((2, 95), (75, false)) := ⟨by decide, Or.inl ⟨rfl, (qzWs_in 422 (by decide +kernel) rfl : Cond.methodLink RX2 95 yX2_lettersAhead ∈ qzWs)⟩⟩
theorem qzc_2_98 : qzPc ((2, 98), (72, false)) := ⟨by decide, Or.inl ⟨rfl, (qzWs_in 426 (by decide +kernel) rfl : Cond.methodLink RX2 98 yX2_signAt ∈ qzWs)⟩⟩
theorem qzc_2_102 : qzPc ((2, 102), (80, false)) := ⟨by decide, Or.inl ⟨rfl, (qzWs_in 453 (by decide +kernel) rfl : Cond.methodLink RX2 102 yX2_layPattern ∈ qzWs)⟩⟩
theorem qzc_2_106 : qzPc ((2, 106), (81, false)) := ⟨by decide, Or.inl ⟨rfl, (qzWs_in 457 (by decide +kernel) rfl : Cond.methodLink RX2 106 yX2_layLetters ∈ qzWs)⟩⟩
theorem qzc_2_110 : qzPc ((2, 110), (82, false)) := ⟨by decide, Or.inl ⟨rfl, (qzWs_in 465 (by decide +kernel) rfl : Cond.methodLink RX2 110 yX2_codeOnPad ∈ qzWs)⟩⟩
theorem qzc_2_113 : qzPc ((2, 113), (74, false)) := ⟨by decide, Or.inl ⟨rfl, (qzWs_in 446 (by decide +kernel) rfl : Cond.methodLink RX2 113 yX2_isSide ∈ qzWs)⟩⟩
theorem qzc_2_120 : qzPc ((2, 120), (83, false)) := ⟨by decide, Or.inl ⟨rfl, (qzWs_in 477 (by decide +kernel) rfl : Cond.methodLink RX2 120 yX2_isNoTailor ∈ qzWs)⟩⟩
theorem qzc_2_127 : qzPc ((2, 127), (12, false)) := ⟨by decide, Or.inl ⟨rfl, (qzWs_in 480 (by decide +kernel) rfl : Cond.methodLink RX2 127 yX0_sumOfCoat ∈ qzWs)⟩⟩
theorem qzc_2_130 : qzPc ((2, 130), (10, false)) := ⟨by decide, Or.inl ⟨rfl, (qzWs_in 484 (by decide +kernel) rfl : Cond.methodLink RX2 130 yX0_piecesOf ∈ qzWs)⟩⟩
theorem qzc_2_136 : qzPc ((2, 136), (11, false)) := ⟨by decide, Or.inl ⟨rfl, (qzWs_in 344 (by decide +kernel) rfl : Cond.methodLink RX2 136 yX0_endOfCoat ∈ qzWs)⟩⟩
theorem qzc_2_139 : qzPc ((2, 139), (13, false)) := ⟨by decide, Or.inl ⟨rfl, (qzWs_in 485 (by decide +kernel) rfl : Cond.methodLink RX2 139 yX0_piecesWith ∈ qzWs)⟩⟩
theorem qzc_2_149 : qzPc ((2, 149), (4, false)) := ⟨by decide, Or.inl ⟨rfl, (qzWs_in 497 (by decide +kernel) rfl : Cond.methodLink RX2 149 yX0_isOver ∈ qzWs)⟩⟩
theorem qzc_2_153 : qzPc ((2, 153), (3, false)) := ⟨by decide, Or.inl ⟨rfl, (qzWs_in 501 (by decide +kernel) rfl : Cond.methodLink RX2 153 yX0_remaining ∈ qzWs)⟩⟩
theorem qzc_2_162 : qzPc ((2, 162), (5, false)) := ⟨by decide, Or.inl ⟨rfl, (qzWs_in 343 (by decide +kernel) rfl : Cond.methodLink RX2 162 yX0_onTurn ∈ qzWs)⟩⟩
theorem qzc_2_168 : qzPc ((2, 168), (14, false)) := ⟨by decide, Or.inl ⟨rfl, (qzWs_in 502 (by decide +kernel) rfl : Cond.methodLink RX2 168 yX0_colourChanges ∈ qzWs)⟩⟩
theorem qzc_2_171 : qzPc ((2, 171), (16, false)) := ⟨by decide, Or.inl ⟨rfl, (qzWs_in 506 (by decide +kernel) rfl : Cond.methodLink RX2 171 yX0_coloursLeft ∈ qzWs)⟩⟩
theorem qzc_2_174 : qzPc ((2, 174), (17, false)) := ⟨by decide, Or.inl ⟨rfl, (qzWs_in 514 (by decide +kernel) rfl : Cond.methodLink RX2 174 yX0_longestFold ∈ qzWs)⟩⟩
theorem qzc_2_180 : qzPc ((2, 180), (15, false)) := ⟨by decide, Or.inl ⟨rfl, (qzWs_in 523 (by decide +kernel) rfl : Cond.methodLink RX2 180 yX0_stripesLeftOf ∈ qzWs)⟩⟩
theorem qzc_2_183 : qzPc ((2, 183), (7, false)) := ⟨by decide, Or.inl ⟨rfl, (qzWs_in 346 (by decide +kernel) rfl : Cond.methodLink RX2 183 yX0_worthOfCut ∈ qzWs)⟩⟩
theorem qzc_2_186 : qzPc ((2, 186), (62, false)) := ⟨by decide, Or.inl ⟨rfl, (qzWs_in 532 (by decide +kernel) rfl : Cond.methodLink RX2 186 yX2_leadTold ∈ qzWs)⟩⟩
theorem qzc_2_190 : qzPc ((2, 190), (65, false)) := ⟨by decide, Or.inl ⟨rfl, (qzWs_in 542 (by decide +kernel) rfl : Cond.methodLink RX2 190 yX2_leadGoneInto ∈ qzWs)⟩⟩
theorem qzc_2_193 : qzPc ((2, 193), (66, false)) := ⟨by decide, Or.inl ⟨rfl, (qzWs_in 550 (by decide +kernel) rfl : Cond.methodLink RX2 193 yX2_leadOfCut ∈ qzWs)⟩⟩
theorem qzc_2_197 : qzPc ((2, 197), (61, false)) := ⟨by decide, Or.inl ⟨rfl, (qzWs_in 325 (by decide +kernel) rfl : Cond.methodLink RX2 197 yX2_choice ∈ qzWs)⟩⟩
theorem qzc_2_200 : qzPc ((2, 200), (1, false)) := ⟨by decide, Or.inl ⟨rfl, (qzWs_in 264 (by decide +kernel) rfl : Cond.methodLink RX2 200 yX0_copyFrom ∈ qzWs)⟩⟩
theorem qzc_2_204 : qzPc ((2, 204), (50, false)) := ⟨by decide, Or.inl ⟨rfl, (qzWs_in 260 (by decide +kernel) rfl : Cond.methodLink RX2 204 yX2_pastAt ∈ qzWs)⟩⟩
theorem qzc_2_212 : qzPc ((2, 212), (52, false)) := ⟨by decide, Or.inl ⟨rfl, (qzWs_in 256 (by decide +kernel) rfl : Cond.methodLink RX2 212 yX2_dropOldest ∈ qzWs)⟩⟩
theorem qzc_2_215 : qzPc ((2, 215), (54, false)) := ⟨by decide, Or.inl ⟨rfl, (qzWs_in 281 (by decide +kernel) rfl : Cond.methodLink RX2 215 yX2_isFromLeft ∈ qzWs)⟩⟩
theorem qzc_2_218 : qzPc ((2, 218), (55, false)) := ⟨by decide, Or.inl ⟨rfl, (qzWs_in 287 (by decide +kernel) rfl : Cond.methodLink RX2 218 yX2_sizeOf ∈ qzWs)⟩⟩
theorem qzc_2_221 : qzPc ((2, 221), (6, false)) := ⟨by decide, Or.inl ⟨rfl, (qzWs_in 241 (by decide +kernel) rfl : Cond.methodLink RX2 221 yX0_longestCut ∈ qzWs)⟩⟩
theorem qzc_2_224 : qzPc ((2, 224), (19, false)) := ⟨by decide, Or.inl ⟨rfl, (qzWs_in 329 (by decide +kernel) rfl : Cond.methodLink RX2 224 yX1_fitTo ∈ qzWs)⟩⟩
theorem qzc_2_228 : qzPc ((2, 228), (68, false)) := ⟨by decide, Or.inl ⟨rfl, (qzWs_in 350 (by decide +kernel) rfl : Cond.methodLink RX2 228 yX2_goThrough ∈ qzWs)⟩⟩
theorem qzc_2_232 : qzPc ((2, 232), (21, false)) := ⟨by decide, Or.inl ⟨rfl, (qzWs_in 361 (by decide +kernel) rfl : Cond.methodLink RX2 232 yX1_told ∈ qzWs)⟩⟩
theorem qzc_2_236 : qzPc ((2, 236), (63, false)) := ⟨by decide, Or.inl ⟨rfl, (qzWs_in 536 (by decide +kernel) rfl : Cond.methodLink RX2 236 yX2_tellRows ∈ qzWs)⟩⟩
theorem qzc_2_241 : qzPc ((2, 241), (64, false)) := ⟨by decide, Or.inl ⟨rfl, (qzWs_in 539 (by decide +kernel) rfl : Cond.methodLink RX2 241 yX2_raiseRow ∈ qzWs)⟩⟩
theorem qzc_2_245 : qzPc ((2, 245), (56, false)) := ⟨by decide, Or.inl ⟨rfl, (qzWs_in 353 (by decide +kernel) rfl : Cond.methodLink RX2 245 yX2_pieceStart ∈ qzWs)⟩⟩
theorem qzc_2_250 : qzPc ((2, 250), (69, false)) := ⟨by decide, Or.inl ⟨rfl, (qzWs_in 354 (by decide +kernel) rfl : Cond.methodLink RX2 250 yX2_traitsOf ∈ qzWs)⟩⟩
theorem qzc_2_254 : qzPc ((2, 254), (70, false)) := ⟨by decide, Or.inl ⟨rfl, (qzWs_in 355 (by decide +kernel) rfl : Cond.methodLink RX2 254 yX2_worthOf ∈ qzWs)⟩⟩
theorem qzc_2_258 : qzPc ((2, 258), (57, false)) := ⟨by decide, Or.inl ⟨rfl, (qzWs_in 356 (by decide +kernel) rfl : Cond.methodLink RX2 258 yX2_restStart ∈ qzWs)⟩⟩
theorem qzc_2_261 : qzPc ((2, 261), (58, false)) := ⟨by decide, Or.inl ⟨rfl, (qzWs_in 357 (by decide +kernel) rfl : Cond.methodLink RX2 261 yX2_restEnd ∈ qzWs)⟩⟩
theorem qzc_2_264 : qzPc ((2, 264), (22, false)) := ⟨by decide, Or.inl ⟨rfl, (qzWs_in 372 (by decide +kernel) rfl : Cond.methodLink RX2 264 yX1_keep ∈ qzWs)⟩⟩
theorem qzc_2_268 : qzPc ((2, 268), (67, false)) := ⟨by decide, Or.inl ⟨rfl, (qzWs_in 358 (by decide +kernel) rfl : Cond.methodLink RX2 268 yX2_goInto ∈ qzWs)⟩⟩
theorem qzc_2_280 : qzPc ((2, 280), (71, false)) := ⟨by decide, Or.inl ⟨rfl, (qzWs_in 304 (by decide +kernel) rfl : Cond.methodLink RX2 280 yX2_isFold ∈ qzWs)⟩⟩
theorem qzc_2_284 : qzPc ((2, 284), (77, false)) := ⟨by decide, Or.inl ⟨rfl, (qzWs_in 430 (by decide +kernel) rfl : Cond.methodLink RX2 284 yX2_faultBehindStar ∈ qzWs)⟩⟩
theorem qzc_2_287 : qzPc ((2, 287), (78, false)) := ⟨by decide, Or.inl ⟨rfl, (qzWs_in 434 (by decide +kernel) rfl : Cond.methodLink RX2 287 yX2_digitsOfNumber ∈ qzWs)⟩⟩
theorem qzc_2_290 : qzPc ((2, 290), (73, false)) := ⟨by decide, Or.inl ⟨rfl, (qzWs_in 438 (by decide +kernel) rfl : Cond.methodLink RX2 290 yX2_digitAt ∈ qzWs)⟩⟩
theorem qzc_3_28 : qzPc ((3, 28), (90, false)) := ⟨by decide, Or.inl ⟨rfl, (qzWs_in 584 (by decide +kernel) rfl : Cond.methodLink RX3 28 yX3_beginsAgain ∈ qzWs)⟩⟩
theorem qzc_3_35 : qzPc ((3, 35), (88, false)) := ⟨by decide, Or.inl ⟨rfl, (qzWs_in 646 (by decide +kernel) rfl : Cond.methodLink RX3 35 yX3_copies ∈ qzWs)⟩⟩
theorem qzc_3_39 : qzPc ((3, 39), (95, false)) := ⟨by decide, Or.inl ⟨rfl, (qzWs_in 664 (by decide +kernel) rfl : Cond.methodLink RX3 39 yX3_folds ∈ qzWs)⟩⟩
theorem qzc_3_43 : qzPc ((3, 43), (96, false)) := ⟨by decide, Or.inl ⟨rfl, (qzWs_in 668 (by decide +kernel) rfl : Cond.methodLink RX3 43 yX3_matches ∈ qzWs)⟩⟩
theorem qzc_3_46 : qzPc ((3, 46), (94, false)) := ⟨by decide, Or.inl ⟨rfl, (qzWs_in 653 (by decide +kernel) rfl : Cond.methodLink RX3 46 yX3_firstOf ∈ qzWs)⟩⟩
theorem qzc_3_50 : qzPc ((3, 50), (91, false)) := ⟨by decide, Or.inl ⟨rfl, (qzWs_in 656 (by decide +kernel) rfl : Cond.methodLink RX3 50 yX3_coatOf ∈ qzWs)⟩⟩
theorem qzc_3_54 : qzPc ((3, 54), (97, false)) := ⟨by decide, Or.inl ⟨rfl, (qzWs_in 660 (by decide +kernel) rfl : Cond.methodLink RX3 54 yX3_worthOf ∈ qzWs)⟩⟩
theorem qzc_3_58 : qzPc ((3, 58), (92, false)) := ⟨by decide, Or.inl ⟨rfl, (qzWs_in 672 (by decide +kernel) rfl : Cond.methodLink RX3 58 yX3_adds ∈ qzWs)⟩⟩
theorem qzc_3_62 : qzPc ((3, 62), (87, false)) := ⟨by decide, Or.inl ⟨rfl, (qzWs_in 639 (by decide +kernel) rfl : Cond.methodLink RX3 62 yX3_in ∈ qzWs)⟩⟩
theorem qzc_3_66 : qzPc ((3, 66), (100, false)) := ⟨by decide, Or.inl ⟨rfl, (qzWs_in 704 (by decide +kernel) rfl : Cond.methodLink RX3 66 yX3_rowOf ∈ qzWs)⟩⟩
theorem qzc_3_69 : qzPc ((3, 69), (101, false)) := ⟨by decide, Or.inl ⟨rfl, (qzWs_in 700 (by decide +kernel) rfl : Cond.methodLink RX3 69 yX3_leadAt ∈ qzWs)⟩⟩
theorem qzc_3_73 : qzPc ((3, 73), (102, false)) := ⟨by decide, Or.inl ⟨rfl, (qzWs_in 692 (by decide +kernel) rfl : Cond.methodLink RX3 73 yX3_most ∈ qzWs)⟩⟩
theorem qzc_3_77 : qzPc ((3, 77), (103, false)) := ⟨by decide, Or.inl ⟨rfl, (qzWs_in 696 (by decide +kernel) rfl : Cond.methodLink RX3 77 yX3_leadBy ∈ qzWs)⟩⟩
theorem qzc_3_81 : qzPc ((3, 81), (104, false)) := ⟨by decide, Or.inl ⟨rfl, (qzWs_in 688 (by decide +kernel) rfl : Cond.methodLink RX3 81 yX3_laysLead ∈ qzWs)⟩⟩
theorem qzc_3_85 : qzPc ((3, 85), (106, false)) := ⟨by decide, Or.inl ⟨rfl, (qzWs_in 715 (by decide +kernel) rfl : Cond.methodLink RX3 85 yX3_own ∈ qzWs)⟩⟩
theorem qzc_3_89 : qzPc ((3, 89), (107, false)) := ⟨by decide, Or.inl ⟨rfl, (qzWs_in 719 (by decide +kernel) rfl : Cond.methodLink RX3 89 yX3_others ∈ qzWs)⟩⟩
theorem qzc_3_92 : qzPc ((3, 92), (108, false)) := ⟨by decide, Or.inl ⟨rfl, (qzWs_in 711 (by decide +kernel) rfl : Cond.methodLink RX3 92 yX3_choice ∈ qzWs)⟩⟩
theorem qzc_3_96 : qzPc ((3, 96), (98, false)) := ⟨by decide, Or.inl ⟨rfl, (qzWs_in 649 (by decide +kernel) rfl : Cond.methodLink RX3 96 yX3_goCut ∈ qzWs)⟩⟩
theorem qzc_3_100 : qzPc ((3, 100), (99, false)) := ⟨by decide, Or.inl ⟨rfl, (qzWs_in 635 (by decide +kernel) rfl : Cond.methodLink RX3 100 yX3_errorCut ∈ qzWs)⟩⟩
theorem qzc_3_103 : qzPc ((3, 103), (89, false)) := ⟨by decide, Or.inl ⟨rfl, (qzWs_in 642 (by decide +kernel) rfl : Cond.methodLink RX3 103 yX3_records ∈ qzWs)⟩⟩
theorem qzc_3_106 : qzPc ((3, 106), (93, false)) := ⟨by decide, Or.inl ⟨rfl, (qzWs_in 680 (by decide +kernel) rfl : Cond.methodLink RX3 106 yX3_isOver ∈ qzWs)⟩⟩
theorem qzc_3_110 : qzPc ((3, 110), (105, false)) := ⟨by decide, Or.inl ⟨rfl, (qzWs_in 684 (by decide +kernel) rfl : Cond.methodLink RX3 110 yX3_laysLeads ∈ qzWs)⟩⟩
theorem qzc_3_113 : qzPc ((3, 113), (109, false)) := ⟨by decide, Or.inl ⟨rfl, (qzWs_in 707 (by decide +kernel) rfl : Cond.methodLink RX3 113 yX3_cutsBy ∈ qzWs)⟩⟩
theorem qzc_3_126 : qzPc ((3, 126), (118, false)) := ⟨by decide, Or.inl ⟨rfl, (qzWs_in 755 (by decide +kernel) rfl : Cond.methodLink RX3 126 yX3_here ∈ qzWs)⟩⟩
theorem qzc_3_129 : qzPc ((3, 129), (119, false)) := ⟨by decide, Or.inl ⟨rfl, (qzWs_in 762 (by decide +kernel) rfl : Cond.methodLink RX3 129 yX3_takes ∈ qzWs)⟩⟩
theorem qzc_3_133 : qzPc ((3, 133), (120, false)) := ⟨by decide, Or.inl ⟨rfl, (qzWs_in 770 (by decide +kernel) rfl : Cond.methodLink RX3 133 yX3_takesDigit ∈ qzWs)⟩⟩
theorem qzc_3_145 : qzPc ((3, 145), (121, false)) := ⟨by decide, Or.inl ⟨rfl, (qzWs_in 759 (by decide +kernel) rfl : Cond.methodLink RX3 145 yX3_isLetter ∈ qzWs)⟩⟩
theorem qzc_3_149 : qzPc ((3, 149), (122, false)) := ⟨by decide, Or.inl ⟨rfl, (qzWs_in 766 (by decide +kernel) rfl : Cond.methodLink RX3 149 yX3_takesRule ∈ qzWs)⟩⟩
theorem qzc_3_152 : qzPc ((3, 152), (124, false)) := ⟨by decide, Or.inl ⟨rfl, (qzWs_in 778 (by decide +kernel) rfl : Cond.methodLink RX3 152 yX3_takesCut ∈ qzWs)⟩⟩
theorem qzc_3_155 : qzPc ((3, 155), (123, false)) := ⟨by decide, Or.inl ⟨rfl, (qzWs_in 751 (by decide +kernel) rfl : Cond.methodLink RX3 155 yX3_isBolt ∈ qzWs)⟩⟩
theorem qzc_3_158 : qzPc ((3, 158), (125, false)) := ⟨by decide, Or.inl ⟨rfl, (qzWs_in 774 (by decide +kernel) rfl : Cond.methodLink RX3 158 yX3_areCuts ∈ qzWs)⟩⟩
theorem qzc_3_161 : qzPc ((3, 161), (128, false)) := ⟨by decide, Or.inl ⟨rfl, (qzWs_in 790 (by decide +kernel) rfl : Cond.methodLink RX3 161 yX3_makes ∈ qzWs)⟩⟩
theorem qzc_3_164 : qzPc ((3, 164), (134, false)) := ⟨by decide, Or.inl ⟨rfl, (qzWs_in 818 (by decide +kernel) rfl : Cond.methodLink RX3 164 yX3_leftOf ∈ qzWs)⟩⟩
theorem qzc_3_167 : qzPc ((3, 167), (133, false)) := ⟨by decide, Or.inl ⟨rfl, (qzWs_in 810 (by decide +kernel) rfl : Cond.methodLink RX3 167 yX3_changes ∈ qzWs)⟩⟩
theorem qzc_3_170 : qzPc ((3, 170), (135, false)) := ⟨by decide, Or.inl ⟨rfl, (qzWs_in 814 (by decide +kernel) rfl : Cond.methodLink RX3 170 yX3_coloursLeft ∈ qzWs)⟩⟩
theorem qzc_3_173 : qzPc ((3, 173), (136, false)) := ⟨by decide, Or.inl ⟨rfl, (qzWs_in 822 (by decide +kernel) rfl : Cond.methodLink RX3 173 yX3_longestFold ∈ qzWs)⟩⟩
theorem qzCs_0 : ∀ e ∈ qzCl_0, qzPc e := List.forall_mem_cons.mpr ⟨qzc_0_54, List.forall_mem_cons.mpr ⟨qzc_0_58, List.forall_mem_cons.mpr ⟨qzc_0_72, List.forall_mem_cons.mpr ⟨qzc_0_81, List.forall_mem_cons.mpr ⟨qzc_0_85, List.forall_mem_cons.mpr ⟨qzc_0_89, List.forall_mem_cons.mpr ⟨qzc_0_92, List.forall_mem_cons.mpr ⟨qzc_0_95, List.forall_mem_cons.mpr ⟨qzc_0_99, List.forall_mem_cons.mpr ⟨qzc_0_103, List.forall_mem_cons.mpr ⟨qzc_0_107, List.forall_mem_cons.mpr ⟨qzc_0_110, List.forall_mem_cons.mpr ⟨qzc_0_113, List.forall_mem_cons.mpr ⟨qzc_0_116, List.forall_mem_cons.mpr ⟨qzc_0_119, List.forall_mem_cons.mpr ⟨qzc_1_21, List.forall_mem_cons.mpr ⟨qzc_1_41, List.forall_mem_cons.mpr ⟨qzc_1_47, List.forall_mem_cons.mpr ⟨qzc_1_51, List.forall_mem_cons.mpr ⟨qzc_1_55, List.forall_mem_cons.mpr ⟨qzc_2_9, List.forall_mem_cons.mpr ⟨qzc_2_32, List.forall_mem_cons.mpr ⟨qzc_2_40, List.forall_mem_cons.mpr ⟨qzc_2_44, List.forall_mem_cons.mpr ⟨qzc_2_47, List.forall_mem_cons.mpr ⟨qzc_2_51, List.forall_mem_cons.mpr ⟨qzc_2_54, List.forall_mem_cons.mpr ⟨qzc_2_57, List.forall_mem_cons.mpr ⟨qzc_2_64, List.forall_mem_cons.mpr ⟨qzc_2_72, List.forall_mem_cons.mpr ⟨qzc_2_82, List.forall_mem_cons.mpr ⟨qzc_2_89, List.forall_mem_cons.mpr ⟨qzc_2_92, List.forall_mem_cons.mpr ⟨qzc_2_95, List.forall_mem_cons.mpr ⟨qzc_2_98, List.forall_mem_cons.mpr ⟨qzc_2_102, List.forall_mem_cons.mpr ⟨qzc_2_106, List.forall_mem_cons.mpr ⟨qzc_2_110, List.forall_mem_cons.mpr ⟨qzc_2_113, List.forall_mem_cons.mpr ⟨qzc_2_120, (fun _ h => absurd h List.not_mem_nil)⟩⟩⟩⟩⟩⟩⟩⟩⟩⟩⟩⟩⟩⟩⟩⟩⟩⟩⟩⟩⟩⟩⟩⟩⟩⟩⟩⟩⟩⟩⟩⟩⟩⟩⟩⟩⟩⟩⟩⟩
theorem qzCs_1 : ∀ e ∈ qzCl_1, qzPc e := List.forall_mem_cons.mpr ⟨qzc_2_127, List.forall_mem_cons.mpr ⟨qzc_2_130, List.forall_mem_cons.mpr ⟨qzc_2_136, List.forall_mem_cons.mpr ⟨qzc_2_139, List.forall_mem_cons.mpr ⟨qzc_2_149, List.forall_mem_cons.mpr ⟨qzc_2_153, List.forall_mem_cons.mpr ⟨qzc_2_162, List.forall_mem_cons.mpr ⟨qzc_2_168, List.forall_mem_cons.mpr ⟨qzc_2_171, List.forall_mem_cons.mpr ⟨qzc_2_174, List.forall_mem_cons.mpr ⟨qzc_2_180, List.forall_mem_cons.mpr ⟨qzc_2_183, List.forall_mem_cons.mpr ⟨qzc_2_186, List.forall_mem_cons.mpr ⟨qzc_2_190, List.forall_mem_cons.mpr ⟨qzc_2_193, List.forall_mem_cons.mpr ⟨qzc_2_197, List.forall_mem_cons.mpr ⟨qzc_2_200, List.forall_mem_cons.mpr ⟨qzc_2_204, List.forall_mem_cons.mpr ⟨qzc_2_212, List.forall_mem_cons.mpr ⟨qzc_2_215, List.forall_mem_cons.mpr ⟨qzc_2_218, List.forall_mem_cons.mpr ⟨qzc_2_221, List.forall_mem_cons.mpr ⟨qzc_2_224, List.forall_mem_cons.mpr ⟨qzc_2_228, List.forall_mem_cons.mpr ⟨qzc_2_232, List.forall_mem_cons.mpr ⟨qzc_2_236, List.forall_mem_cons.mpr ⟨qzc_2_241, List.forall_mem_cons.mpr ⟨qzc_2_245, List.forall_mem_cons.mpr ⟨qzc_2_250, List.forall_mem_cons.mpr ⟨qzc_2_254, List.forall_mem_cons.mpr ⟨qzc_2_258, List.forall_mem_cons.mpr ⟨qzc_2_261, List.forall_mem_cons.mpr ⟨qzc_2_264, List.forall_mem_cons.mpr ⟨qzc_2_268, List.forall_mem_cons.mpr ⟨qzc_2_280, List.forall_mem_cons.mpr ⟨qzc_2_284, List.forall_mem_cons.mpr ⟨qzc_2_287, List.forall_mem_cons.mpr ⟨qzc_2_290, List.forall_mem_cons.mpr ⟨qzc_3_28, List.forall_mem_cons.mpr ⟨qzc_3_35, (fun _ h => absurd h List.not_mem_nil)⟩⟩⟩⟩⟩⟩⟩⟩⟩⟩⟩⟩⟩⟩⟩⟩⟩⟩⟩⟩⟩⟩⟩⟩⟩⟩⟩⟩⟩⟩⟩⟩⟩⟩⟩⟩⟩⟩⟩⟩
theorem qzCs_2 : ∀ e ∈ qzCl_2, qzPc e := List.forall_mem_cons.mpr ⟨qzc_3_39, List.forall_mem_cons.mpr ⟨qzc_3_43, List.forall_mem_cons.mpr ⟨qzc_3_46, List.forall_mem_cons.mpr ⟨qzc_3_50, List.forall_mem_cons.mpr ⟨qzc_3_54, List.forall_mem_cons.mpr ⟨qzc_3_58, List.forall_mem_cons.mpr ⟨qzc_3_62, List.forall_mem_cons.mpr ⟨qzc_3_66, List.forall_mem_cons.mpr ⟨qzc_3_69, List.forall_mem_cons.mpr ⟨qzc_3_73, List.forall_mem_cons.mpr ⟨qzc_3_77, List.forall_mem_cons.mpr ⟨qzc_3_81, List.forall_mem_cons.mpr ⟨qzc_3_85, List.forall_mem_cons.mpr ⟨qzc_3_89, List.forall_mem_cons.mpr ⟨qzc_3_92, List.forall_mem_cons.mpr ⟨qzc_3_96, List.forall_mem_cons.mpr ⟨qzc_3_100, List.forall_mem_cons.mpr ⟨qzc_3_103, List.forall_mem_cons.mpr ⟨qzc_3_106, List.forall_mem_cons.mpr ⟨qzc_3_110, List.forall_mem_cons.mpr ⟨qzc_3_113, List.forall_mem_cons.mpr ⟨qzc_3_126, List.forall_mem_cons.mpr ⟨qzc_3_129, List.forall_mem_cons.mpr ⟨qzc_3_133, List.forall_mem_cons.mpr ⟨qzc_3_145, List.forall_mem_cons.mpr ⟨qzc_3_149, List.forall_mem_cons.mpr ⟨qzc_3_152, List.forall_mem_cons.mpr ⟨qzc_3_155, List.forall_mem_cons.mpr ⟨qzc_3_158, List.forall_mem_cons.mpr ⟨qzc_3_161, List.forall_mem_cons.mpr ⟨qzc_3_164, List.forall_mem_cons.mpr ⟨qzc_3_167, List.forall_mem_cons.mpr ⟨qzc_3_170, List.forall_mem_cons.mpr ⟨qzc_3_173, (fun _ h => absurd h List.not_mem_nil)⟩⟩⟩⟩⟩⟩⟩⟩⟩⟩⟩⟩⟩⟩⟩⟩⟩⟩⟩⟩⟩⟩⟩⟩⟩⟩⟩⟩⟩⟩⟩⟩⟩⟩
theorem qzCs : ∀ e ∈ qzCl, qzPc e := List.forall_mem_append.mpr ⟨qzCs_0, List.forall_mem_append.mpr ⟨qzCs_1, qzCs_2⟩⟩
/-- what the tables say of a field -/
def qzPf (e : (Nat × Nat) × (Nat × Nat)) : Prop := e.2.1 < 4 ∧ e.2.2 < qzNf e.2.1 ∧ Cond.fieldLink (qzRs e.1.1) e.1.2 (qzTs e.2.1 e.2.2).1 (qzTs e.2.1 e.2.2).2.1 (qzTs e.2.1 e.2.2).2.2.1 ∈ qzWs
theorem qzf_0_9 : qzPf ((0, 9), (0, 0)) := ⟨by decide, by decide, (qzWs_in 133 (by decide +kernel) rfl : Cond.fieldLink RX0 9 "BoltTailors$Game" "colours" "[I" ∈ qzWs)⟩
theorem qzf_0_15 : qzPf ((0, 15), (0, 1)) := ⟨by decide, by decide, (qzWs_in 136 (by decide +kernel) rfl : Cond.fieldLink RX0 15 "BoltTailors$Game" "settings" "[I" ∈ qzWs)⟩
theorem qzf_0_18 : qzPf ((0, 18), (0, 2)) := ⟨by decide, by decide, (qzWs_in 139 (by decide +kernel) rfl : Cond.fieldLink RX0 18 "BoltTailors$Game" "pieceFirst" "[I" ∈ qzWs)⟩
theorem qzf_0_21 : qzPf ((0, 21), (0, 3)) := ⟨by decide, by decide, (qzWs_in 141 (by decide +kernel) rfl : Cond.fieldLink RX0 21 "BoltTailors$Game" "pieceSize" "[I" ∈ qzWs)⟩
theorem qzf_0_24 : qzPf ((0, 24), (0, 4)) := ⟨by decide, by decide, (qzWs_in 143 (by decide +kernel) rfl : Cond.fieldLink RX0 24 "BoltTailors$Game" "pieceWorth" "[I" ∈ qzWs)⟩
theorem qzf_0_27 : qzPf ((0, 27), (0, 5)) := ⟨by decide, by decide, (qzWs_in 145 (by decide +kernel) rfl : Cond.fieldLink RX0 27 "BoltTailors$Game" "pieceTraits" "[I" ∈ qzWs)⟩
theorem qzf_0_38 : qzPf ((0, 38), (0, 6)) := ⟨by decide, by decide, (qzWs_in 147 (by decide +kernel) rfl : Cond.fieldLink RX0 38 "BoltTailors$Game" "stripes" "I" ∈ qzWs)⟩
theorem qzf_0_42 : qzPf ((0, 42), (0, 7)) := ⟨by decide, by decide, (qzWs_in 150 (by decide +kernel) rfl : Cond.fieldLink RX0 42 "BoltTailors$Game" "first" "I" ∈ qzWs)⟩
theorem qzf_0_45 : qzPf ((0, 45), (0, 8)) := ⟨by decide, by decide, (qzWs_in 152 (by decide +kernel) rfl : Cond.fieldLink RX0 45 "BoltTailors$Game" "end" "I" ∈ qzWs)⟩
theorem qzf_0_48 : qzPf ((0, 48), (0, 9)) := ⟨by decide, by decide, (qzWs_in 154 (by decide +kernel) rfl : Cond.fieldLink RX0 48 "BoltTailors$Game" "cuts" "I" ∈ qzWs)⟩
theorem qzf_1_9 : qzPf ((1, 9), (1, 0)) := ⟨by decide, by decide, (qzWs_in 186 (by decide +kernel) rfl : Cond.fieldLink RX1 9 "BoltTailors$Leads" "colours" "[I" ∈ qzWs)⟩
theorem qzf_1_15 : qzPf ((1, 15), (1, 1)) := ⟨by decide, by decide, (qzWs_in 188 (by decide +kernel) rfl : Cond.fieldLink RX1 15 "BoltTailors$Leads" "settings" "[I" ∈ qzWs)⟩
theorem qzf_1_18 : qzPf ((1, 18), (1, 2)) := ⟨by decide, by decide, (qzWs_in 190 (by decide +kernel) rfl : Cond.fieldLink RX1 18 "BoltTailors$Leads" "kept" "[I" ∈ qzWs)⟩
theorem qzf_1_25 : qzPf ((1, 25), (0, 0)) := ⟨by decide, by decide, (qzWs_in 134 (by decide +kernel) rfl : Cond.fieldLink RX1 25 "BoltTailors$Game" "colours" "[I" ∈ qzWs)⟩
theorem qzf_1_34 : qzPf ((1, 34), (0, 1)) := ⟨by decide, by decide, (qzWs_in 137 (by decide +kernel) rfl : Cond.fieldLink RX1 34 "BoltTailors$Game" "settings" "[I" ∈ qzWs)⟩
theorem qzf_1_35 : qzPf ((1, 35), (0, 6)) := ⟨by decide, by decide, (qzWs_in 148 (by decide +kernel) rfl : Cond.fieldLink RX1 35 "BoltTailors$Game" "stripes" "I" ∈ qzWs)⟩
theorem qzf_1_39 : qzPf ((1, 39), (1, 3)) := ⟨by decide, by decide, (qzWs_in 191 (by decide +kernel) rfl : Cond.fieldLink RX1 39 "BoltTailors$Leads" "stripes" "I" ∈ qzWs)⟩
theorem qzf_2_10 : qzPf ((2, 10), (2, 0)) := ⟨by decide, by decide, (qzWs_in 202 (by decide +kernel) rfl : Cond.fieldLink RX2 10 "BoltTailors" "now" "LBoltTailors$Game;" ∈ qzWs)⟩
theorem qzf_2_16 : qzPf ((2, 16), (2, 1)) := ⟨by decide, by decide, (qzWs_in 203 (by decide +kernel) rfl : Cond.fieldLink RX2 16 "BoltTailors" "trial" "LBoltTailors$Game;" ∈ qzWs)⟩
theorem qzf_2_19 : qzPf ((2, 19), (2, 2)) := ⟨by decide, by decide, (qzWs_in 204 (by decide +kernel) rfl : Cond.fieldLink RX2 19 "BoltTailors" "snapshot" "LBoltTailors$Game;" ∈ qzWs)⟩
theorem qzf_2_22 : qzPf ((2, 22), (2, 4)) := ⟨by decide, by decide, (qzWs_in 206 (by decide +kernel) rfl : Cond.fieldLink RX2 22 "BoltTailors" "past" "[LBoltTailors$Game;" ∈ qzWs)⟩
theorem qzf_2_26 : qzPf ((2, 26), (2, 6)) := ⟨by decide, by decide, (qzWs_in 208 (by decide +kernel) rfl : Cond.fieldLink RX2 26 "BoltTailors" "pad" "[C" ∈ qzWs)⟩
theorem qzf_2_33 : qzPf ((2, 33), (2, 8)) := ⟨by decide, by decide, (qzWs_in 210 (by decide +kernel) rfl : Cond.fieldLink RX2 33 "BoltTailors" "leadsByRows" "LBoltTailors$Leads;" ∈ qzWs)⟩
theorem qzf_2_37 : qzPf ((2, 37), (2, 9)) := ⟨by decide, by decide, (qzWs_in 211 (by decide +kernel) rfl : Cond.fieldLink RX2 37 "BoltTailors" "leadsByCuts" "LBoltTailors$Leads;" ∈ qzWs)⟩
theorem qzf_2_60 : qzPf ((2, 60), (0, 6)) := ⟨by decide, by decide, (qzWs_in 149 (by decide +kernel) rfl : Cond.fieldLink RX2 60 "BoltTailors$Game" "stripes" "I" ∈ qzWs)⟩
theorem qzf_2_79 : qzPf ((2, 79), (0, 1)) := ⟨by decide, by decide, (qzWs_in 138 (by decide +kernel) rfl : Cond.fieldLink RX2 79 "BoltTailors$Game" "settings" "[I" ∈ qzWs)⟩
theorem qzf_2_86 : qzPf ((2, 86), (2, 7)) := ⟨by decide, by decide, (qzWs_in 209 (by decide +kernel) rfl : Cond.fieldLink RX2 86 "BoltTailors" "signs" "I" ∈ qzWs)⟩
theorem qzf_2_117 : qzPf ((2, 117), (0, 0)) := ⟨by decide, by decide, (qzWs_in 135 (by decide +kernel) rfl : Cond.fieldLink RX2 117 "BoltTailors$Game" "colours" "[I" ∈ qzWs)⟩
theorem qzf_2_124 : qzPf ((2, 124), (0, 4)) := ⟨by decide, by decide, (qzWs_in 144 (by decide +kernel) rfl : Cond.fieldLink RX2 124 "BoltTailors$Game" "pieceWorth" "[I" ∈ qzWs)⟩
theorem qzf_2_133 : qzPf ((2, 133), (0, 3)) := ⟨by decide, by decide, (qzWs_in 142 (by decide +kernel) rfl : Cond.fieldLink RX2 133 "BoltTailors$Game" "pieceSize" "[I" ∈ qzWs)⟩
theorem qzf_2_143 : qzPf ((2, 143), (0, 2)) := ⟨by decide, by decide, (qzWs_in 140 (by decide +kernel) rfl : Cond.fieldLink RX2 143 "BoltTailors$Game" "pieceFirst" "[I" ∈ qzWs)⟩
theorem qzf_2_146 : qzPf ((2, 146), (0, 5)) := ⟨by decide, by decide, (qzWs_in 146 (by decide +kernel) rfl : Cond.fieldLink RX2 146 "BoltTailors$Game" "pieceTraits" "[I" ∈ qzWs)⟩
theorem qzf_2_156 : qzPf ((2, 156), (0, 7)) := ⟨by decide, by decide, (qzWs_in 151 (by decide +kernel) rfl : Cond.fieldLink RX2 156 "BoltTailors$Game" "first" "I" ∈ qzWs)⟩
theorem qzf_2_159 : qzPf ((2, 159), (0, 8)) := ⟨by decide, by decide, (qzWs_in 153 (by decide +kernel) rfl : Cond.fieldLink RX2 159 "BoltTailors$Game" "end" "I" ∈ qzWs)⟩
theorem qzf_2_165 : qzPf ((2, 165), (0, 9)) := ⟨by decide, by decide, (qzWs_in 155 (by decide +kernel) rfl : Cond.fieldLink RX2 165 "BoltTailors$Game" "cuts" "I" ∈ qzWs)⟩
theorem qzf_2_177 : qzPf ((2, 177), (2, 5)) := ⟨by decide, by decide, (qzWs_in 207 (by decide +kernel) rfl : Cond.fieldLink RX2 177 "BoltTailors" "states" "I" ∈ qzWs)⟩
theorem qzf_2_208 : qzPf ((2, 208), (2, 3)) := ⟨by decide, by decide, (qzWs_in 205 (by decide +kernel) rfl : Cond.fieldLink RX2 208 "BoltTailors" "hasSnapshot" "Z" ∈ qzWs)⟩
theorem qzf_2_240 : qzPf ((2, 240), (1, 1)) := ⟨by decide, by decide, (qzWs_in 189 (by decide +kernel) rfl : Cond.fieldLink RX2 240 "BoltTailors$Leads" "settings" "[I" ∈ qzWs)⟩
theorem qzf_2_249 : qzPf ((2, 249), (1, 0)) := ⟨by decide, by decide, (qzWs_in 187 (by decide +kernel) rfl : Cond.fieldLink RX2 249 "BoltTailors$Leads" "colours" "[I" ∈ qzWs)⟩
theorem qzf_3_7 : qzPf ((3, 7), (3, 0)) := ⟨by decide, by decide, (qzWs_in 588 (by decide +kernel) rfl : Cond.fieldLink RX3 7 "BoltTailorsModel" "s" "[I" ∈ qzWs)⟩
theorem qzf_3_13 : qzPf ((3, 13), (3, 1)) := ⟨by decide, by decide, (qzWs_in 589 (by decide +kernel) rfl : Cond.fieldLink RX3 13 "BoltTailorsModel" "aside" "[I" ∈ qzWs)⟩
theorem qzf_3_16 : qzPf ((3, 16), (3, 2)) := ⟨by decide, by decide, (qzWs_in 590 (by decide +kernel) rfl : Cond.fieldLink RX3 16 "BoltTailorsModel" "past" "[I" ∈ qzWs)⟩
theorem qzf_3_19 : qzPf ((3, 19), (3, 4)) := ⟨by decide, by decide, (qzWs_in 592 (by decide +kernel) rfl : Cond.fieldLink RX3 19 "BoltTailorsModel" "kept" "[I" ∈ qzWs)⟩
theorem qzf_3_22 : qzPf ((3, 22), (3, 6)) := ⟨by decide, by decide, (qzWs_in 594 (by decide +kernel) rfl : Cond.fieldLink RX3 22 "BoltTailorsModel" "pad" "[I" ∈ qzWs)⟩
theorem qzf_3_25 : qzPf ((3, 25), (3, 8)) := ⟨by decide, by decide, (qzWs_in 596 (by decide +kernel) rfl : Cond.fieldLink RX3 25 "BoltTailorsModel" "leads" "[I" ∈ qzWs)⟩
theorem qzf_3_31 : qzPf ((3, 31), (3, 3)) := ⟨by decide, by decide, (qzWs_in 591 (by decide +kernel) rfl : Cond.fieldLink RX3 31 "BoltTailorsModel" "known" "I" ∈ qzWs)⟩
theorem qzf_3_116 : qzPf ((3, 116), (3, 7)) := ⟨by decide, by decide, (qzWs_in 595 (by decide +kernel) rfl : Cond.fieldLink RX3 116 "BoltTailorsModel" "length" "I" ∈ qzWs)⟩
theorem qzf_3_119 : qzPf ((3, 119), (3, 9)) := ⟨by decide, by decide, (qzWs_in 597 (by decide +kernel) rfl : Cond.fieldLink RX3 119 "BoltTailorsModel" "spot" "I" ∈ qzWs)⟩
theorem qzf_3_122 : qzPf ((3, 122), (3, 10)) := ⟨by decide, by decide, (qzWs_in 598 (by decide +kernel) rfl : Cond.fieldLink RX3 122 "BoltTailorsModel" "isForm" "Z" ∈ qzWs)⟩
theorem qzf_3_136 : qzPf ((3, 136), (3, 12)) := ⟨by decide, by decide, (qzWs_in 600 (by decide +kernel) rfl : Cond.fieldLink RX3 136 "BoltTailorsModel" "toldMany" "I" ∈ qzWs)⟩
theorem qzf_3_139 : qzPf ((3, 139), (3, 11)) := ⟨by decide, by decide, (qzWs_in 599 (by decide +kernel) rfl : Cond.fieldLink RX3 139 "BoltTailorsModel" "letters" "I" ∈ qzWs)⟩
theorem qzf_3_142 : qzPf ((3, 142), (3, 13)) := ⟨by decide, by decide, (qzWs_in 601 (by decide +kernel) rfl : Cond.fieldLink RX3 142 "BoltTailorsModel" "toldPhase" "I" ∈ qzWs)⟩
theorem qzf_3_176 : qzPf ((3, 176), (3, 5)) := ⟨by decide, by decide, (qzWs_in 593 (by decide +kernel) rfl : Cond.fieldLink RX3 176 "BoltTailorsModel" "isKept" "Z" ∈ qzWs)⟩
theorem qzFs_0 : ∀ e ∈ qzFl_0, qzPf e := List.forall_mem_cons.mpr ⟨qzf_0_9, List.forall_mem_cons.mpr ⟨qzf_0_15, List.forall_mem_cons.mpr ⟨qzf_0_18, List.forall_mem_cons.mpr ⟨qzf_0_21, List.forall_mem_cons.mpr ⟨qzf_0_24, List.forall_mem_cons.mpr ⟨qzf_0_27, List.forall_mem_cons.mpr ⟨qzf_0_38, List.forall_mem_cons.mpr ⟨qzf_0_42, List.forall_mem_cons.mpr ⟨qzf_0_45, List.forall_mem_cons.mpr ⟨qzf_0_48, List.forall_mem_cons.mpr ⟨qzf_1_9, List.forall_mem_cons.mpr ⟨qzf_1_15, List.forall_mem_cons.mpr ⟨qzf_1_18, List.forall_mem_cons.mpr ⟨qzf_1_25, List.forall_mem_cons.mpr ⟨qzf_1_34, List.forall_mem_cons.mpr ⟨qzf_1_35, List.forall_mem_cons.mpr ⟨qzf_1_39, List.forall_mem_cons.mpr ⟨qzf_2_10, List.forall_mem_cons.mpr ⟨qzf_2_16, List.forall_mem_cons.mpr ⟨qzf_2_19, List.forall_mem_cons.mpr ⟨qzf_2_22, List.forall_mem_cons.mpr ⟨qzf_2_26, List.forall_mem_cons.mpr ⟨qzf_2_33, List.forall_mem_cons.mpr ⟨qzf_2_37, List.forall_mem_cons.mpr ⟨qzf_2_60, List.forall_mem_cons.mpr ⟨qzf_2_79, List.forall_mem_cons.mpr ⟨qzf_2_86, List.forall_mem_cons.mpr ⟨qzf_2_117, List.forall_mem_cons.mpr ⟨qzf_2_124, List.forall_mem_cons.mpr ⟨qzf_2_133, List.forall_mem_cons.mpr ⟨qzf_2_143, List.forall_mem_cons.mpr ⟨qzf_2_146, List.forall_mem_cons.mpr ⟨qzf_2_156, List.forall_mem_cons.mpr ⟨qzf_2_159, List.forall_mem_cons.mpr ⟨qzf_2_165, List.forall_mem_cons.mpr ⟨qzf_2_177, List.forall_mem_cons.mpr ⟨qzf_2_208, List.forall_mem_cons.mpr ⟨qzf_2_240, List.forall_mem_cons.mpr ⟨qzf_2_249, List.forall_mem_cons.mpr ⟨qzf_3_7, (fun _ h => absurd h List.not_mem_nil)⟩⟩⟩⟩⟩⟩⟩⟩⟩⟩⟩⟩⟩⟩⟩⟩⟩⟩⟩⟩⟩⟩⟩⟩⟩⟩⟩⟩⟩⟩⟩⟩⟩⟩⟩⟩⟩⟩⟩⟩
theorem qzFs_1 : ∀ e ∈ qzFl_1, qzPf e := List.forall_mem_cons.mpr ⟨qzf_3_13, List.forall_mem_cons.mpr ⟨qzf_3_16, List.forall_mem_cons.mpr ⟨qzf_3_19, List.forall_mem_cons.mpr ⟨qzf_3_22, List.forall_mem_cons.mpr ⟨qzf_3_25, List.forall_mem_cons.mpr ⟨qzf_3_31, List.forall_mem_cons.mpr ⟨qzf_3_116, List.forall_mem_cons.mpr ⟨qzf_3_119, List.forall_mem_cons.mpr ⟨qzf_3_122, List.forall_mem_cons.mpr ⟨qzf_3_136, List.forall_mem_cons.mpr ⟨qzf_3_139, List.forall_mem_cons.mpr ⟨qzf_3_142, List.forall_mem_cons.mpr ⟨qzf_3_176, (fun _ h => absurd h List.not_mem_nil)⟩⟩⟩⟩⟩⟩⟩⟩⟩⟩⟩⟩⟩
theorem qzFs_ok : ∀ e ∈ qzFl, qzPf e := List.forall_mem_append.mpr ⟨qzFs_0, qzFs_1⟩
theorem qzFind_in {α : Type} : ∀ {l : List ((Nat × Nat) × α)} {a b : Nat} {x : α}, qzFind l a b = some x → ((a, b), x) ∈ l
  | [], _, _, _, h => by cases h
  | e :: l, a, b, x, h => by
    unfold qzFind at h
    split at h
    · rename_i hc
      cases h
      obtain ⟨⟨e1, e2⟩, e3⟩ := e
      obtain ⟨h1, h2⟩ := hc
      cases h1; cases h2
      exact List.mem_cons_self
    · exact List.mem_cons_of_mem _ (qzFind_in h)
theorem qzu_0_0 : u_lay RX0 TX0 0 ∈ qzWs := qzWs_in 156 (by decide +kernel) rfl
theorem qzu_0_1 : u_lay RX0 TX0 1 ∈ qzWs := qzWs_in 158 (by decide +kernel) rfl
theorem qzu_0_2 : u_lay RX0 TX0 2 ∈ qzWs := qzWs_in 160 (by decide +kernel) rfl
theorem qzu_0_3 : u_lay RX0 TX0 3 ∈ qzWs := qzWs_in 162 (by decide +kernel) rfl
theorem qzu_0_4 : u_lay RX0 TX0 4 ∈ qzWs := qzWs_in 164 (by decide +kernel) rfl
theorem qzu_0_5 : u_lay RX0 TX0 5 ∈ qzWs := qzWs_in 166 (by decide +kernel) rfl
theorem qzu_0_6 : u_lay RX0 TX0 6 ∈ qzWs := qzWs_in 168 (by decide +kernel) rfl
theorem qzu_0_7 : u_lay RX0 TX0 7 ∈ qzWs := qzWs_in 170 (by decide +kernel) rfl
theorem qzu_0_8 : u_lay RX0 TX0 8 ∈ qzWs := qzWs_in 172 (by decide +kernel) rfl
theorem qzu_0_9 : u_lay RX0 TX0 9 ∈ qzWs := qzWs_in 174 (by decide +kernel) rfl
theorem qzU_0 : ∀ w ∈ u_ws RX0 TX0 10, w ∈ qzWs := List.forall_mem_cons.mpr ⟨qzu_0_0, List.forall_mem_cons.mpr ⟨qzu_0_1, List.forall_mem_cons.mpr ⟨qzu_0_2, List.forall_mem_cons.mpr ⟨qzu_0_3, List.forall_mem_cons.mpr ⟨qzu_0_4, List.forall_mem_cons.mpr ⟨qzu_0_5, List.forall_mem_cons.mpr ⟨qzu_0_6, List.forall_mem_cons.mpr ⟨qzu_0_7, List.forall_mem_cons.mpr ⟨qzu_0_8, List.forall_mem_cons.mpr ⟨qzu_0_9, (fun _ h => absurd h List.not_mem_nil)⟩⟩⟩⟩⟩⟩⟩⟩⟩⟩
theorem qzu_1_0 : u_lay RX1 TX1 0 ∈ qzWs := qzWs_in 192 (by decide +kernel) rfl
theorem qzu_1_1 : u_lay RX1 TX1 1 ∈ qzWs := qzWs_in 194 (by decide +kernel) rfl
theorem qzu_1_2 : u_lay RX1 TX1 2 ∈ qzWs := qzWs_in 196 (by decide +kernel) rfl
theorem qzu_1_3 : u_lay RX1 TX1 3 ∈ qzWs := qzWs_in 198 (by decide +kernel) rfl
theorem qzU_1 : ∀ w ∈ u_ws RX1 TX1 4, w ∈ qzWs := List.forall_mem_cons.mpr ⟨qzu_1_0, List.forall_mem_cons.mpr ⟨qzu_1_1, List.forall_mem_cons.mpr ⟨qzu_1_2, List.forall_mem_cons.mpr ⟨qzu_1_3, (fun _ h => absurd h List.not_mem_nil)⟩⟩⟩⟩
theorem qzu_2_0 : u_lay RX2 TX2 0 ∈ qzWs := qzWs_in 212 (by decide +kernel) rfl
theorem qzu_2_1 : u_lay RX2 TX2 1 ∈ qzWs := qzWs_in 214 (by decide +kernel) rfl
theorem qzu_2_2 : u_lay RX2 TX2 2 ∈ qzWs := qzWs_in 216 (by decide +kernel) rfl
theorem qzu_2_3 : u_lay RX2 TX2 3 ∈ qzWs := qzWs_in 218 (by decide +kernel) rfl
theorem qzu_2_4 : u_lay RX2 TX2 4 ∈ qzWs := qzWs_in 220 (by decide +kernel) rfl
theorem qzu_2_5 : u_lay RX2 TX2 5 ∈ qzWs := qzWs_in 222 (by decide +kernel) rfl
theorem qzu_2_6 : u_lay RX2 TX2 6 ∈ qzWs := qzWs_in 224 (by decide +kernel) rfl
theorem qzu_2_7 : u_lay RX2 TX2 7 ∈ qzWs := qzWs_in 226 (by decide +kernel) rfl
theorem qzu_2_8 : u_lay RX2 TX2 8 ∈ qzWs := qzWs_in 228 (by decide +kernel) rfl
theorem qzu_2_9 : u_lay RX2 TX2 9 ∈ qzWs := qzWs_in 230 (by decide +kernel) rfl
theorem qzU_2 : ∀ w ∈ u_ws RX2 TX2 10, w ∈ qzWs := List.forall_mem_cons.mpr ⟨qzu_2_0, List.forall_mem_cons.mpr ⟨qzu_2_1, List.forall_mem_cons.mpr ⟨qzu_2_2, List.forall_mem_cons.mpr ⟨qzu_2_3, List.forall_mem_cons.mpr ⟨qzu_2_4, List.forall_mem_cons.mpr ⟨qzu_2_5, List.forall_mem_cons.mpr ⟨qzu_2_6, List.forall_mem_cons.mpr ⟨qzu_2_7, List.forall_mem_cons.mpr ⟨qzu_2_8, List.forall_mem_cons.mpr ⟨qzu_2_9, (fun _ h => absurd h List.not_mem_nil)⟩⟩⟩⟩⟩⟩⟩⟩⟩⟩
theorem qzu_3_0 : u_lay RX3 TX3 0 ∈ qzWs := qzWs_in 602 (by decide +kernel) rfl
theorem qzu_3_1 : u_lay RX3 TX3 1 ∈ qzWs := qzWs_in 604 (by decide +kernel) rfl
theorem qzu_3_2 : u_lay RX3 TX3 2 ∈ qzWs := qzWs_in 606 (by decide +kernel) rfl
theorem qzu_3_3 : u_lay RX3 TX3 3 ∈ qzWs := qzWs_in 608 (by decide +kernel) rfl
theorem qzu_3_4 : u_lay RX3 TX3 4 ∈ qzWs := qzWs_in 610 (by decide +kernel) rfl
theorem qzu_3_5 : u_lay RX3 TX3 5 ∈ qzWs := qzWs_in 612 (by decide +kernel) rfl
theorem qzu_3_6 : u_lay RX3 TX3 6 ∈ qzWs := qzWs_in 614 (by decide +kernel) rfl
theorem qzu_3_7 : u_lay RX3 TX3 7 ∈ qzWs := qzWs_in 616 (by decide +kernel) rfl
theorem qzu_3_8 : u_lay RX3 TX3 8 ∈ qzWs := qzWs_in 618 (by decide +kernel) rfl
theorem qzu_3_9 : u_lay RX3 TX3 9 ∈ qzWs := qzWs_in 620 (by decide +kernel) rfl
theorem qzu_3_10 : u_lay RX3 TX3 10 ∈ qzWs := qzWs_in 622 (by decide +kernel) rfl
theorem qzu_3_11 : u_lay RX3 TX3 11 ∈ qzWs := qzWs_in 624 (by decide +kernel) rfl
theorem qzu_3_12 : u_lay RX3 TX3 12 ∈ qzWs := qzWs_in 626 (by decide +kernel) rfl
theorem qzu_3_13 : u_lay RX3 TX3 13 ∈ qzWs := qzWs_in 628 (by decide +kernel) rfl
theorem qzU_3 : ∀ w ∈ u_ws RX3 TX3 14, w ∈ qzWs := List.forall_mem_cons.mpr ⟨qzu_3_0, List.forall_mem_cons.mpr ⟨qzu_3_1, List.forall_mem_cons.mpr ⟨qzu_3_2, List.forall_mem_cons.mpr ⟨qzu_3_3, List.forall_mem_cons.mpr ⟨qzu_3_4, List.forall_mem_cons.mpr ⟨qzu_3_5, List.forall_mem_cons.mpr ⟨qzu_3_6, List.forall_mem_cons.mpr ⟨qzu_3_7, List.forall_mem_cons.mpr ⟨qzu_3_8, List.forall_mem_cons.mpr ⟨qzu_3_9, List.forall_mem_cons.mpr ⟨qzu_3_10, List.forall_mem_cons.mpr ⟨qzu_3_11, List.forall_mem_cons.mpr ⟨qzu_3_12, List.forall_mem_cons.mpr ⟨qzu_3_13, (fun _ h => absurd h List.not_mem_nil)⟩⟩⟩⟩⟩⟩⟩⟩⟩⟩⟩⟩⟩⟩
theorem qzU {ci : Nat} (h : ci < 4) : ∀ w ∈ u_ws (qzRs ci) (qzTs ci) (qzNf ci), w ∈ qzWs := by
  match ci, h with
  | 0, _ => exact qzU_0
  | 1, _ => exact qzU_1
  | 2, _ => exact qzU_2
  | 3, _ => exact qzU_3
theorem qzTy_ok {ci : Nat} (h : ci < 4) : ∀ k, k < qzNf ci → parseFieldDescriptor (qzTs ci k).2.2.1 = some (qzTy ci k) := by
  match ci, h with
  | 0, _ => exact tyX0_ok
  | 1, _ => exact tyX1_ok
  | 2, _ => exact tyX2_ok
  | 3, _ => exact tyX3_ok
theorem qzNm_ok {ci : Nat} (h : ci < 4) : ∀ a, a < qzNf ci → ∀ b, b < qzNf ci → a ≠ b → (qzTs ci a).2.1 ≠ (qzTs ci b).2.1 := by
  match ci, h with
  | 0, _ => exact nmX0
  | 1, _ => exact nmX1
  | 2, _ => exact nmX2
  | 3, _ => exact nmX3
theorem qzCl_at {ci : Nat} (h : ci < 4) : vwCl[ci]? = some (qzRs ci, qzTs ci, qzNf ci) := by
  match ci, h with
  | 0, _ => rfl
  | 1, _ => rfl
  | 2, _ => rfl
  | 3, _ => rfl
theorem qzs_oi0 : Cond.methodLink RX0 3 objectInit ∈ qzWs := qzWs_in 75 (by decide +kernel) rfl
theorem qzs_oi1 : Cond.methodLink RX1 3 objectInit ∈ qzWs := qzWs_in 185 (by decide +kernel) rfl
theorem qzs_oi2 : Cond.methodLink RX2 1 objectInit ∈ qzWs := qzWs_in 67 (by decide +kernel) rfl
theorem qzs_oi3 : Cond.methodLink RX3 1 objectInit ∈ qzWs := qzWs_in 583 (by decide +kernel) rfl
theorem qzs_oii : Cond.instanceMethod objectInit ∈ qzWs := qzWs_in 68 (by decide +kernel) rfl
theorem qzs_oic : Cond.code objectInit ⟨#[0xb1]⟩ 1 none ∈ qzWs := qzWs_in 69 (by decide +kernel) rfl
theorem qzs_ac0 : Cond.methodLink RX0 66 arraycopyName ∈ qzWs := qzWs_in 268 (by decide +kernel) rfl
theorem qzs_ac1 : Cond.methodLink RX1 28 arraycopyName ∈ qzWs := qzWs_in 338 (by decide +kernel) rfl
theorem qzs_acn : Cond.native arraycopyName ∈ qzWs := qzWs_in 270 (by decide +kernel) rfl
theorem qzs_acs : Cond.static arraycopyName ∈ qzWs := qzWs_in 269 (by decide +kernel) rfl
theorem qzs_aci : Cond.initialized "java/lang/System" ∈ qzWs := qzWs_in 60 (by decide +kernel) rfl
theorem qzs_mi0 : Cond.methodLink RX0 75 Lib.Math.min.name ∈ qzWs := qzWs_in 249 (by decide +kernel) rfl
theorem qzs_mi2 : Cond.methodLink RX2 272 Lib.Math.min.name ∈ qzWs := qzWs_in 368 (by decide +kernel) rfl
theorem qzs_ma2 : Cond.methodLink RX2 277 Lib.Math.max.name ∈ qzWs := qzWs_in 369 (by decide +kernel) rfl
theorem qzs_min_s : Cond.static Lib.Math.min.name ∈ qzWs := qzWs_in 250 (by decide +kernel) rfl
theorem qzs_min_c : Cond.code Lib.Math.min.name Lib.Math.min.code 2 (some .int) ∈ qzWs := qzWs_in 251 (by decide +kernel) rfl
theorem qzs_max_s : Cond.static Lib.Math.max.name ∈ qzWs := qzWs_in 370 (by decide +kernel) rfl
theorem qzs_max_c : Cond.code Lib.Math.max.name Lib.Math.max.code 2 (some .int) ∈ qzWs := qzWs_in 371 (by decide +kernel) rfl
theorem qzs_mth : Cond.initialized "java/lang/Math" ∈ qzWs := qzWs_in 59 (by decide +kernel) rfl
theorem qzs_low : Cond.fieldLink RX2 68 "BoltTailors" "LOWEST_VALUES" "[I" ∈ qzWs := qzWs_in 401 (by decide +kernel) rfl
theorem qzs_high : Cond.fieldLink RX2 76 "BoltTailors" "HIGHEST_VALUES" "[I" ∈ qzWs := qzWs_in 403 (by decide +kernel) rfl
theorem qzs_c1 : Cond.constant RX1 40 (-1000000) ∈ qzWs := qzWs_in 339 (by decide +kernel) rfl
theorem qzs_c2 : Cond.constant RX2 227 (-1000000) ∈ qzWs := qzWs_in 345 (by decide +kernel) rfl
theorem qzs_n0 : Cond.classLink RX2 7 RX0 ∈ qzWs := qzWs_in 70 (by decide +kernel) rfl
theorem qzs_n1 : Cond.classLink RX2 30 RX1 ∈ qzWs := qzWs_in 180 (by decide +kernel) rfl
theorem qzs_i0 : Cond.instantiable RX0 10 ∈ qzWs := qzWs_in 71 (by decide +kernel) rfl
theorem qzs_i1 : Cond.instantiable RX1 4 ∈ qzWs := qzWs_in 181 (by decide +kernel) rfl
theorem qzs_aI : Cond.arrayClass .int ∈ qzWs := qzWs_in 177 (by decide +kernel) rfl
theorem qzs_aC : Cond.arrayClass .char ∈ qzWs := qzWs_in 201 (by decide +kernel) rfl
theorem qzs_sl : Cond.methodLink RX0 32 yJ0_length_8abf5 ∈ qzWs := qzWs_in 77 (by decide +kernel) rfl
theorem qzs_sc : Cond.methodLink RX0 62 yJ0_charAt_5068e ∈ qzWs := qzWs_in 95 (by decide +kernel) rfl
theorem qzs_slc : Cond.code yJ0_length_8abf5 cJ0_length_8abf5 1 (some .int) ∈ qzWs := qzWs_in 80 (by decide +kernel) rfl
theorem qzs_sli : Cond.instanceMethod yJ0_length_8abf5 ∈ qzWs := qzWs_in 78 (by decide +kernel) rfl
theorem qzs_sls : Cond.selects RJ0 yJ0_length_8abf5 yJ0_length_8abf5 ∈ qzWs := qzWs_in 79 (by decide +kernel) rfl
theorem qzs_scc : Cond.code yJ0_charAt_5068e cJ0_charAt_5068e 2 (some .char) ∈ qzWs := qzWs_in 98 (by decide +kernel) rfl
theorem qzs_sci : Cond.instanceMethod yJ0_charAt_5068e ∈ qzWs := qzWs_in 96 (by decide +kernel) rfl
theorem qzs_scs : Cond.selects RJ0 yJ0_charAt_5068e yJ0_charAt_5068e ∈ qzWs := qzWs_in 97 (by decide +kernel) rfl
theorem qzs_str : Cond.initialized RJ0 ∈ qzWs := qzWs_in 53 (by decide +kernel) rfl
theorem qzGood {w : Cond} (h : w ∈ qzWs) : GoodIn qzWs (w :: qzWs) := fun x hx => (List.mem_cons.mp hx).elim (fun e => e ▸ qzWs_good _ h) (fun hx => qzWs_good _ hx)
end
section
/-! THE INTERPRETER: the bytecode over a small heap (objects by number, in the order in which they are made); later parts speak of it alone. -/
abbrev qzH : Type := Nat × (Nat → Nat → Option Nat) × (Nat → Nat → Int32)
def qzUp {α : Type} (f : Nat → Nat → α) (i k : Nat) (v : α) : Nat → Nat → α := fun a b => if a = i ∧ b = k then v else f a b
def qzUr {α : Type} (f : Nat → Nat → α) (i : Nat) (g : Nat → α) : Nat → Nat → α := fun a b => if a = i then g b else f a b
def qzRef (ci k : Nat) : Bool := match qzTy ci k with
  | .int => false
  | .boolean => false
  | _ => true
/-- what a step comes to: on in the method, a call, an answer -/
abbrev qzA : Type := (Nat × List Value × List Value × qzH) ⊕ ((Nat × List Value × List Value) ⊕ Option Value)
def qzGo (pc : Nat) (ls st : List Value) (hp : qzH) : Option qzA := some (.inl (pc, ls, st, hp))
def qzTg (pc : Nat) (off : Int) : Nat := ((pc : Int) + off).toNat
def qzBr (b : Bool) (pc : Nat) (off : Int) (ls st : List Value) (hp : qzH) : Option qzA := if 0 ≤ (pc : Int) + off then (if b then qzGo (qzTg pc off) ls st hp else qzGo (pc + 3) ls st hp) else none
def qzC1 (c : ClassFile.Cond) (x : Int32) : Bool := match c with
  | .eq => decide (x = 0)
  | .ne => decide (¬ x = 0)
  | .lt => decide (x < 0)
  | .ge => decide (0 ≤ x)
  | .gt => decide (0 < x)
  | .le => decide (x ≤ 0)
def qzC2 (c : ClassFile.Cond) (x y : Int32) : Bool := match c with
  | .eq => decide (x = y)
  | .ne => decide (¬ x = y)
  | .lt => decide (x < y)
  | .ge => decide (y ≤ x)
  | .gt => decide (y < x)
  | .le => decide (x ≤ y)
/-- the statics' contents: LOWEST_VALUES, HIGHEST_VALUES, FIRST_VALUES are the objects 1000, 1001, 1002; the text is 1003 -/
def qzSv (i : Nat) (k : Nat) : Int32 := match i, k with
  | 0, 0 => 1
  | 0, _ => 0
  | 1, 0 => 5
  | 1, _ => 9
  | 2, 0 => 4
  | 2, 1 => 3
  | _, _ => 2
def qzCh (k : Nat) : Int32 := Int32.ofNat (97 + k % 3)
def qzIload (i len w pc : Nat) (ls st : List Value) (hp : qzH) : Option qzA := if len = w then (match ls[i]? with
  | some (.int x) => qzGo (pc + w) ls (.int x :: st) hp
  | _ => none) else none
def qzAload (i len w pc : Nat) (ls st : List Value) (hp : qzH) : Option qzA := if len = w then (match ls[i]? with
  | some (.ref x) => qzGo (pc + w) ls (.ref x :: st) hp
  | some .null => qzGo (pc + w) ls (.null :: st) hp
  | _ => none) else none
def qzIstore (i len w pc : Nat) (ls st : List Value) (hp : qzH) : Option qzA := if len = w ∧ i < ls.length then (match st with
  | .int x :: st => qzGo (pc + w) (ls.set i (.int x)) st hp
  | _ => none) else none
def qzAstore (i len w pc : Nat) (ls st : List Value) (hp : qzH) : Option qzA := if len = w ∧ i < ls.length then (match st with
  | .ref x :: st => qzGo (pc + w) (ls.set i (.ref x)) st hp
  | .null :: st => qzGo (pc + w) (ls.set i .null) st hp
  | _ => none) else none
def qzBin (f : Int32 → Int32 → Int32) (len pc : Nat) (ls st : List Value) (hp : qzH) : Option qzA := if len = 1 then (match st with
  | .int y :: .int x :: st => qzGo (pc + 1) ls (.int (f x y) :: st) hp
  | _ => none) else none
def qzBinD (f : Int32 → Int32 → Int32) (len pc : Nat) (ls st : List Value) (hp : qzH) : Option qzA := if len = 1 then (match st with
  | .int y :: .int x :: st => if y = 0 then none else qzGo (pc + 1) ls (.int (f x y) :: st) hp
  | _ => none) else none
/-- an array's length, as the kinds have it -/
def qzLen (a : Nat) : Nat := if 1000 ≤ a then 3 else (qzk a).2
def qzArr (kd a n : Nat) : Bool := decide (a < n) && decide ((qzk a).1 = kd)
/-- an index within -/
def qzIn (i : Int32) (n : Nat) : Bool := !(decide (i < 0) || decide (n ≤ i.toNatClampNeg))
def qzIald (len pc : Nat) (ls st : List Value) (hp : qzH) : Option qzA := if len = 1 then (match st with
  | .int i :: .ref a :: st => if qzArr 4 a hp.1 then (if qzIn i (qzk a).2 then qzGo (pc + 1) ls (.int (hp.2.2 a i.toNatClampNeg) :: st) hp else none)
      else if 1000 ≤ a ∧ a < 1003 then (if qzIn i 3 then qzGo (pc + 1) ls (.int (qzSv (a - 1000) i.toNatClampNeg) :: st) hp else none) else none
  | _ => none) else none
def qzCald (len pc : Nat) (ls st : List Value) (hp : qzH) : Option qzA := if len = 1 then (match st with
  | .int i :: .ref a :: st => if qzArr 5 a hp.1 then (if qzIn i (qzk a).2 then qzGo (pc + 1) ls (.int (hp.2.2 a i.toNatClampNeg) :: st) hp else none) else none
  | _ => none) else none
def qzAald (len pc : Nat) (ls st : List Value) (hp : qzH) : Option qzA := if len = 1 then (match st with
  | .int i :: .ref a :: st => if qzArr 6 a hp.1 then (if qzIn i (qzk a).2 then qzGo (pc + 1) ls (va_rf (hp.2.1 a i.toNatClampNeg) :: st) hp else none) else none
  | _ => none) else none
def qzIast (len pc : Nat) (ls st : List Value) (hp : qzH) : Option qzA := if len = 1 then (match st with
  | .int x :: .int i :: .ref a :: st => if qzArr 4 a hp.1 then (if qzIn i (qzk a).2 then qzGo (pc + 1) ls st (hp.1, hp.2.1, qzUp hp.2.2 a i.toNatClampNeg x) else none) else none
  | _ => none) else none
def qzCast (len pc : Nat) (ls st : List Value) (hp : qzH) : Option qzA := if len = 1 then (match st with
  | .int x :: .int i :: .ref a :: st => if qzArr 5 a hp.1 then (if qzIn i (qzk a).2 then qzGo (pc + 1) ls st (hp.1, hp.2.1, qzUp hp.2.2 a i.toNatClampNeg (vp_nar .char x)) else none) else none
  | _ => none) else none
def qzAast (len pc : Nat) (ls st : List Value) (hp : qzH) : Option qzA := if len = 1 then (match st with
  | .ref v :: .int i :: .ref a :: st => if qzArr 6 a hp.1 ∧ qzArr 0 v hp.1 then (if qzIn i (qzk a).2 then qzGo (pc + 1) ls st (hp.1, qzUp hp.2.1 a i.toNatClampNeg (some v), hp.2.2) else none) else none
  | _ => none) else none
def qzAlen (len pc : Nat) (ls st : List Value) (hp : qzH) : Option qzA := if len = 1 then (match st with
  | .ref a :: st => if qzArr 4 a hp.1 ∨ qzArr 5 a hp.1 ∨ qzArr 6 a hp.1 then qzGo (pc + 1) ls (.int (Int32.ofNat (qzk a).2) :: st) hp
      else if 1000 ≤ a ∧ a < 1003 then qzGo (pc + 1) ls (.int 3 :: st) hp else none
  | _ => none) else none
def qzGetf (oc idx len pc : Nat) (ls st : List Value) (hp : qzH) : Option qzA := if len = 3 then (match st with
  | .ref a :: st => (match qzFind qzFl oc idx with
    | some (ci, k) => if qzArr ci a hp.1 ∧ ci < 4 then (if qzRef ci k then qzGo (pc + 3) ls (va_rf (hp.2.1 a k) :: st) hp else qzGo (pc + 3) ls (.int (hp.2.2 a k) :: st) hp) else none
    | none => none)
  | _ => none) else none
def qzPutf (mi oc idx len pc : Nat) (ls st : List Value) (hp : qzH) : Option qzA := if len = 3 then (match st with
  | v :: .ref a :: st => (match qzFind qzFl oc idx with
    | some (ci, k) => if qzArr ci a hp.1 ∧ ci < 4 then (match v with
        | .int x => if qzRef ci k then none else if (qzTs ci k).2.2.2 then none else if narrow (qzTy ci k) (.int x) = .int x ∧ fits (qzTy ci k) (.int x) = true then qzGo (pc + 3) ls st (hp.1, hp.2.1, qzUp hp.2.2 a k x) else none
        | .ref b => if qzRef ci k ∧ (qzTs ci k).2.2.2 = true ∧ (qzMd mi).2.2.2.2.1 = 2 ∧ ci = oc ∧ b < hp.1 then qzGo (pc + 3) ls st (hp.1, qzUp hp.2.1 a k (some b), hp.2.2) else none
        | _ => none) else none
    | none => none)
  | _ => none) else none
def qzGets (oc idx len pc : Nat) (ls st : List Value) (hp : qzH) : Option qzA := if len = 3 then
  (if oc = 2 ∧ idx = 68 then qzGo (pc + 3) ls (.ref 1000 :: st) hp else if oc = 2 ∧ idx = 76 then qzGo (pc + 3) ls (.ref 1001 :: st) hp else if oc = 0 ∧ idx = 51 then qzGo (pc + 3) ls (.ref 1002 :: st) hp else none) else none
def qzLdc (oc idx len pc : Nat) (ls st : List Value) (hp : qzH) : Option qzA := if len = 2 then
  (if (oc = 1 ∧ idx = 40) ∨ (oc = 2 ∧ idx = 227) then qzGo (pc + 2) ls (.int (-1000000) :: st) hp else if oc = 0 ∧ idx = 30 then qzGo (pc + 2) ls (.ref 1003 :: st) hp else none) else none
def qzNew (oc idx len pc : Nat) (ls st : List Value) (hp : qzH) : Option qzA := if len = 3 then
  (match (if oc = 2 ∧ idx = 7 then some 0 else if oc = 2 ∧ idx = 30 then some 1 else none) with
  | some ci => if qzk hp.1 = (ci, qzNf ci) ∧ hp.1 < 67 then qzGo (pc + 3) ls (.ref hp.1 :: st) (hp.1 + 1, qzUr hp.2.1 hp.1 (fun _ => none), qzUr hp.2.2 hp.1 (fun _ => 0)) else none
  | none => none) else none
def qzNewa (kd len w pc : Nat) (ls st : List Value) (hp : qzH) : Option qzA := if len = w then (match st with
  | .int x :: st => if x < 0 then none else if qzk hp.1 = (kd, x.toNatClampNeg) ∧ hp.1 < 67 then qzGo (pc + w) ls (.ref hp.1 :: st) (hp.1 + 1, qzUr hp.2.1 hp.1 (fun _ => none), qzUr hp.2.2 hp.1 (fun _ => 0)) else none
  | _ => none) else none
def qzTsw (d lo hi : Int) (offs : Array Int) (pc : Nat) (ls st : List Value) (hp : qzH) : Option qzA := match st with
  | .int x :: st => if x.toInt < lo ∨ hi < x.toInt then (if 0 ≤ (pc : Int) + d then qzGo (qzTg pc d) ls st hp else none)
      else (match offs[(x.toInt - lo).toNat]? with
      | some o => if 0 ≤ (pc : Int) + o then qzGo (qzTg pc o) ls st hp else none
      | none => none)
  | _ => none
def qzCall (kd : Nat) (oc idx len : Nat) (st : List Value) (hp : qzH) : Option qzA := if len = 3 then (match qzFind qzCl oc idx with
  | some (mj, nest) => if (qzMd mj).2.2.2.2.1 = kd ∧ mj < 149 ∧ (kd = 1 → nest = false) then
      (if kd = 0 then (if (qzMd mj).2.2.2.2.2.1 ≤ st.length ∧ (st.drop (qzMd mj).2.2.2.2.2.1).length ≤ 8 then some (.inr (.inl (mj, (st.take (qzMd mj).2.2.2.2.2.1).reverse, st.drop (qzMd mj).2.2.2.2.2.1))) else none)
      else (match st.drop (qzMd mj).2.2.2.2.2.1 with
        | .ref b :: rest => if qzArr (qzMd mj).2.2.2.2.2.2 b hp.1 ∧ rest.length ≤ 8 ∧ (qzMd mj).2.2.2.2.2.1 ≤ st.length then some (.inr (.inl (mj, .ref b :: (st.take (qzMd mj).2.2.2.2.2.1).reverse, rest))) else none
        | _ => none)) else none
  | none => none) else none
/-- the JDK's: Math.min, Math.max, System.arraycopy -/
def qzStat (oc idx len pc : Nat) (ls st : List Value) (hp : qzH) : Option qzA :=
  if (oc = 0 ∧ idx = 75) ∨ (oc = 2 ∧ idx = 272) then (if len = 3 then (match st with
    | .int y :: .int x :: st => if st.length ≤ 8 then qzGo (pc + 3) ls (.int (if y < x then y else x) :: st) hp else none
    | _ => none) else none)
  else if oc = 2 ∧ idx = 277 then (if len = 3 then (match st with
    | .int y :: .int x :: st => if st.length ≤ 8 then qzGo (pc + 3) ls (.int (if x < y then y else x) :: st) hp else none
    | _ => none) else none)
  else if (oc = 0 ∧ idx = 66) ∨ (oc = 1 ∧ idx = 28) then (if len = 3 then (match st with
    | .int n :: .int dp :: .ref a :: .int sp :: .ref b :: st =>
      if qzArr 4 a hp.1 ∧ qzArr 4 b hp.1 ∧ ¬ sp < 0 ∧ ¬ dp < 0 ∧ ¬ n < 0 ∧ sp.toNatClampNeg + n.toNatClampNeg ≤ (qzk b).2 ∧ dp.toNatClampNeg + n.toNatClampNeg ≤ (qzk a).2 ∧ st.length ≤ 8 then
        qzGo (pc + 3) ls st (hp.1, hp.2.1, qzUr hp.2.2 a (va_cpy (hp.2.2 b) (hp.2.2 a) sp.toNatClampNeg dp.toNatClampNeg n.toNatClampNeg)) else none
    | _ => none) else none)
  else qzCall 0 oc idx len st hp
def qzSpec (oc idx len pc : Nat) (ls st : List Value) (hp : qzH) : Option qzA :=
  if (oc = 0 ∧ idx = 3) ∨ (oc = 1 ∧ idx = 3) ∨ (oc = 2 ∧ idx = 1) ∨ (oc = 3 ∧ idx = 1) then (if len = 3 then (match st with
    | .ref _ :: st => if st.length ≤ 8 then qzGo (pc + 3) ls st hp else none
    | _ => none) else none)
  else qzCall 2 oc idx len st hp
/-- the text's length and its signs -/
def qzVirt (oc idx len pc : Nat) (ls st : List Value) (hp : qzH) : Option qzA :=
  if oc = 0 ∧ idx = 32 then (if len = 3 then (match st with
    | .ref a :: st => if a = 1003 ∧ st.length ≤ 8 then qzGo (pc + 3) ls (.int 12 :: st) hp else none
    | _ => none) else none)
  else if oc = 0 ∧ idx = 62 then (if len = 3 then (match st with
    | .int i :: .ref a :: st => if a = 1003 ∧ qzIn i 12 ∧ st.length ≤ 8 then qzGo (pc + 3) ls (.int (qzCh i.toNatClampNeg) :: st) hp else none
    | _ => none) else none)
  else qzCall 1 oc idx len st hp
def qzRet (mi len : Nat) (st : List Value) : Option qzA := if len = 1 then (match st with
  | [.int v] => (match (qzMd mi).2.2.2.1 with
    | some ty => if narrow ty (.int v) = .int v then some (.inr (.inr (some (.int v)))) else none
    | none => none)
  | _ => none) else none
def qzAret (mi len : Nat) (st : List Value) : Option qzA := if len = 1 then (match (qzMd mi).2.2.2.1 with
  | some (.object _) => (match st with
    | [.ref v] => some (.inr (.inr (some (.ref v))))
    | [.null] => some (.inr (.inr (some .null)))
    | _ => none)
  | _ => none) else none
def qzVret (mi len : Nat) (st : List Value) : Option qzA := if len = 1 then (match (qzMd mi).2.2.2.1 with
  | none => (match st with
    | [] => some (.inr (.inr none))
    | _ => none)
  | some _ => none) else none
def qzPop (len pc : Nat) (ls st : List Value) (hp : qzH) : Option qzA := if len = 1 then (match st with
  | _ :: st => qzGo (pc + 1) ls st hp
  | _ => none) else none
def qzDup (len pc : Nat) (ls st : List Value) (hp : qzH) : Option qzA := if len = 1 then (match st with
  | v :: st => qzGo (pc + 1) ls (v :: v :: st) hp
  | _ => none) else none
def qzDup2 (len pc : Nat) (ls st : List Value) (hp : qzH) : Option qzA := if len = 1 then (match st with
  | v :: w :: st => qzGo (pc + 1) ls (v :: w :: v :: w :: st) hp
  | _ => none) else none
def qzPush (v : Value) (len w pc : Nat) (ls st : List Value) (hp : qzH) : Option qzA := if len = w then qzGo (pc + w) ls (v :: st) hp else none
def qzI2c (len pc : Nat) (ls st : List Value) (hp : qzH) : Option qzA := if len = 1 then (match st with
  | .int x :: st => qzGo (pc + 1) ls (.int (x.toUInt32 % 65536).toInt32 :: st) hp
  | _ => none) else none
def qzIinc (i : Nat) (n : Int) (len pc : Nat) (ls st : List Value) (hp : qzH) : Option qzA := if len = 3 then (match ls[i]? with
  | some (.int x) => qzGo (pc + 3) (ls.set i (.int (x + Int32.ofInt n))) st hp
  | _ => none) else none
def qzIf1 (c : ClassFile.Cond) (off : Int) (len pc : Nat) (ls st : List Value) (hp : qzH) : Option qzA := if len = 3 then (match st with
  | .int x :: st => qzBr (qzC1 c x) pc off ls st hp
  | _ => none) else none
def qzIf2 (c : ClassFile.Cond) (off : Int) (len pc : Nat) (ls st : List Value) (hp : qzH) : Option qzA := if len = 3 then (match st with
  | .int y :: .int x :: st => qzBr (qzC2 c x y) pc off ls st hp
  | _ => none) else none
def qzIfN (wh : Bool) (off : Int) (len pc : Nat) (ls st : List Value) (hp : qzH) : Option qzA := if len = 3 then (match st with
  | .ref _ :: st => qzBr (!wh) pc off ls st hp
  | .null :: st => qzBr wh pc off ls st hp
  | _ => none) else none
def qzGoto (off : Int) (len pc : Nat) (ls st : List Value) (hp : qzH) : Option qzA := if len = 3 ∧ 0 ≤ (pc : Int) + off then qzGo (qzTg pc off) ls st hp else none
def qzI (mi pc : Nat) (ins : Instr) (len : Nat) (ls st : List Value) (hp : qzH) : Option qzA := match ins with
  | .iconst n => qzPush (.int (Int32.ofInt n)) len 1 pc ls st hp
  | .bipush n => qzPush (.int (Int8.ofInt n).toInt32) len 2 pc ls st hp
  | .sipush n => qzPush (.int (Int16.ofInt n).toInt32) len 3 pc ls st hp
  | .aconst_null => qzPush .null len 1 pc ls st hp
  | .iload_n k => qzIload k len 1 pc ls st hp
  | .iload k => qzIload k len 2 pc ls st hp
  | .aload_n k => qzAload k len 1 pc ls st hp
  | .aload k => qzAload k len 2 pc ls st hp
  | .istore_n k => qzIstore k len 1 pc ls st hp
  | .istore k => qzIstore k len 2 pc ls st hp
  | .astore_n k => qzAstore k len 1 pc ls st hp
  | .astore k => qzAstore k len 2 pc ls st hp
  | .iadd => qzBin (fun x y => x + y) len pc ls st hp
  | .isub => qzBin (fun x y => x - y) len pc ls st hp
  | .imul => qzBin (fun x y => x * y) len pc ls st hp
  | .iand => qzBin (fun x y => x &&& y) len pc ls st hp
  | .ior => qzBin (fun x y => x ||| y) len pc ls st hp
  | .ishl => qzBin (fun x y => x <<< (y &&& 31)) len pc ls st hp
  | .ishr => qzBin (fun x y => x >>> (y &&& 31)) len pc ls st hp
  | .idiv => qzBinD (fun x y => x / y) len pc ls st hp
  | .irem => qzBinD (fun x y => x - x / y * y) len pc ls st hp
  | .i2c => qzI2c len pc ls st hp
  | .iinc i n => qzIinc i n len pc ls st hp
  | .dup => qzDup len pc ls st hp
  | .dup2 => qzDup2 len pc ls st hp
  | .pop => qzPop len pc ls st hp
  | .ifCond c off => qzIf1 c off len pc ls st hp
  | .if_icmp c off => qzIf2 c off len pc ls st hp
  | .ifnull off => qzIfN true off len pc ls st hp
  | .ifnonnull off => qzIfN false off len pc ls st hp
  | .goto off => qzGoto off len pc ls st hp
  | .tableswitch d lo hi offs => qzTsw d lo hi offs pc ls st hp
  | .iaload => qzIald len pc ls st hp
  | .caload => qzCald len pc ls st hp
  | .aaload => qzAald len pc ls st hp
  | .iastore => qzIast len pc ls st hp
  | .castore => qzCast len pc ls st hp
  | .aastore => qzAast len pc ls st hp
  | .arraylength => qzAlen len pc ls st hp
  | .getfield idx => qzGetf (qzMd mi).2.2.2.2.2.2 idx len pc ls st hp
  | .putfield idx => qzPutf mi (qzMd mi).2.2.2.2.2.2 idx len pc ls st hp
  | .getstatic idx => qzGets (qzMd mi).2.2.2.2.2.2 idx len pc ls st hp
  | .ldc idx => qzLdc (qzMd mi).2.2.2.2.2.2 idx len pc ls st hp
  | .new idx => qzNew (qzMd mi).2.2.2.2.2.2 idx len pc ls st hp
  | .newarray .int => qzNewa 4 len 2 pc ls st hp
  | .newarray .char => qzNewa 5 len 2 pc ls st hp
  | .anewarray idx => if (qzMd mi).2.2.2.2.2.2 = 2 ∧ idx = 7 then qzNewa 6 len 3 pc ls st hp else none
  | .invokestatic idx => qzStat (qzMd mi).2.2.2.2.2.2 idx len pc ls st hp
  | .invokespecial idx => qzSpec (qzMd mi).2.2.2.2.2.2 idx len pc ls st hp
  | .invokevirtual idx => qzVirt (qzMd mi).2.2.2.2.2.2 idx len pc ls st hp
  | .ireturn => qzRet mi len st
  | .areturn => qzAret mi len st
  | .return_ => qzVret mi len st
  | _ => none
def qzStep (mi pc : Nat) (ls st : List Value) (hp : qzH) : Option qzA := match decode (qzMd mi).2.1 pc with
  | .ok (ins, len) => qzI mi pc ins len ls st hp
  | .error _ => none
def qzLoc (mi : Nat) (as : List Value) : List Value := as ++ List.replicate ((qzMd mi).2.2.1 - as.length) (.float 0)
/-- the run: fuel, depth of calls, method, place, locals, stack, heap -/
def qzX : Nat → Nat → Nat → Nat → List Value → List Value → qzH → Option (Option Value × qzH)
  | 0, _, _, _, _, _, _ => none
  | f + 1, d, mi, pc, ls, st, hp => match qzStep mi pc ls st hp with
    | none => none
    | some (.inl (pc', ls', st', hp')) => qzX f d mi pc' ls' st' hp'
    | some (.inr (.inr v)) => some (v, hp)
    | some (.inr (.inl (mj, as, rest))) => match d with
      | 0 => none
      | d' + 1 => match qzX f d' mj 0 (qzLoc mj as) [] hp with
        | none => none
        | some (v, hp1) => qzX f (d' + 1) mi (pc + 3) ls (v.toList ++ rest) hp1
end
section
/-! the interpreter's heap, values and locals as the machine's -/
abbrev qzGT : Type := ClassId × ClassId × ClassId
def qzFs (ad : Nat → Nat) (ci : Nat) (r : Nat → Option Nat) (h : Nat → Int32) : List Value := (List.range (qzNf ci)).map (fun k => if qzRef ci k then va_rf ((r k).map ad) else .int (h k))
def qzE (G : qzGT) (ad : Nat → Nat) (hp : qzH) (i : Nat) : va_E :=
  if (qzk i).1 = 4 then .inl (G.1, (qzk i).2, .inl (hp.2.2 i))
  else if (qzk i).1 = 5 then .inl (G.2.1, (qzk i).2, .inl (hp.2.2 i))
  else if (qzk i).1 = 6 then .inl (G.2.2, (qzk i).2, .inr (.inr (.inr (.inr (fun j => (hp.2.1 i j).map ad)))))
  else .inr ((qzk i).1, qzFs ad (qzk i).1 (hp.2.1 i) (hp.2.2 i))
def qzW (G : qzGT) (ad : Nat → Nat) (hp : qzH) : va_W := (List.range hp.1).map (fun i => (ad i, qzE G ad hp i))
theorem qzW_get {G : qzGT} {ad : Nat → Nat} {hp : qzH} {i : Nat} (h : i < hp.1) : (qzW G ad hp)[i]? = some (ad i, qzE G ad hp i) := by
  simp [qzW, h]
theorem qzW_set {G : qzGT} {ad : Nat → Nat} {hp hp' : qzH} {i : Nat} {x : va_E} (hn : hp'.1 = hp.1) (hx : qzE G ad hp' i = x) (h : ∀ j, j ≠ i → qzE G ad hp' j = qzE G ad hp j) : qzW G ad hp' = (qzW G ad hp).set i (ad i, x) := by
  apply List.ext_getElem?
  intro k
  by_cases hk : k = i
  · subst hk
    by_cases hl : k < hp.1
    · simp [qzW, hn, hl, hx]
    · simp [qzW, hn, hl]
  · rw [List.getElem?_set_ne (Ne.symm hk)]
    by_cases hl : k < hp.1
    · simp [qzW, hn, hl, h k hk]
    · simp [qzW, hn, hl]
/-- references lie among the objects -/
def qzWf (hp : qzH) : Prop := ∀ (i j a : Nat), hp.2.1 i j = some a → a < hp.1
def qzAg (n : Nat) (ad ad' : Nat → Nat) : Prop := ∀ i, i < n ∨ 1000 ≤ i → ad' i = ad i
theorem qzAg.rf {n : Nat} {ad : Nat → Nat} : qzAg n ad ad := fun _ _ => rfl
theorem qzAg.tr {n n1 : Nat} {a b c : Nat → Nat} (h1 : qzAg n a b) (h2 : qzAg n1 b c) (h : n ≤ n1) : qzAg n a c := fun i hi => (h2 i (by omega)).trans (h1 i hi)
theorem qzMap_ag {n : Nat} {ad ad' : Nat → Nat} (h : qzAg n ad ad') {o : Option Nat} (ho : ∀ a, o = some a → a < n) : o.map ad' = o.map ad := by
  cases o with
  | none => rfl
  | some a => simp [h a (Or.inl (ho a rfl))]
theorem qzE_ag {G : qzGT} {ad ad' : Nat → Nat} {hp : qzH} {n : Nat} {i : Nat} (hw : ∀ (j a : Nat), hp.2.1 i j = some a → a < n) (h : qzAg n ad ad') : qzE G ad' hp i = qzE G ad hp i := by
  have e : ∀ j, (hp.2.1 i j).map ad' = (hp.2.1 i j).map ad := fun j => qzMap_ag h (fun a ha => hw j a ha)
  have e1 : qzFs ad' (qzk i).1 (hp.2.1 i) (hp.2.2 i) = qzFs ad (qzk i).1 (hp.2.1 i) (hp.2.2 i) := by
    unfold qzFs
    simp only [e]
  unfold qzE
  simp only [e, e1]
theorem qzW_push {G : qzGT} {ad ad' : Nat → Nat} {hp hp' : qzH} {x : va_E} (hn : hp'.1 = hp.1 + 1) (ha : ∀ j, j < hp.1 → ad' j = ad j) (he : ∀ j, j < hp.1 → qzE G ad' hp' j = qzE G ad hp j) (hx : qzE G ad' hp' hp.1 = x) : qzW G ad' hp' = qzW G ad hp ++ [(ad' hp.1, x)] := by
  unfold qzW
  rw [hn, List.range_succ, List.map_append]
  congr 1
  · apply List.map_congr_left
    intro j hj
    rw [List.mem_range] at hj
    rw [ha j hj, he j hj]
  · simp [hx]
def qzR (ad : Nat → Nat) (v : Value) : Value := match v with
  | .ref a => .ref (ad a)
  | v => v
def qzOk (n : Nat) (v : Value) : Prop := match v with
  | .int _ => True
  | .null => True
  | .ref a => a < n ∨ 1000 ≤ a
  | _ => False
theorem qzR_ag {n : Nat} {ad ad' : Nat → Nat} {v : Value} (h : qzAg n ad ad') (ho : qzOk n v) : qzR ad' v = qzR ad v := by
  cases v with
  | ref a => exact congrArg Value.ref (h a ho)
  | _ => rfl
theorem qzOk.mono {n n' : Nat} {v : Value} (h : qzOk n v) (hn : n ≤ n') : qzOk n' v := by
  cases v with
  | ref a => exact Or.imp (fun q => Nat.lt_of_lt_of_le q hn) id h
  | _ => exact h
theorem qzOk.cat {n : Nat} {ad : Nat → Nat} {v : Value} (h : qzOk n v) : (qzR ad v).category = 1 := by
  cases v <;> first | rfl | exact h.elim
theorem qzOk.rf {n : Nat} {o : Option Nat} (h : ∀ a, o = some a → a < n) : qzOk n (va_rf o) := by
  cases o with
  | none => trivial
  | some a => exact Or.inl (h a rfl)
theorem qzR_rf {ad : Nat → Nat} {o : Option Nat} : qzR ad (va_rf o) = va_rf (o.map ad) := by
  cases o <;> rfl
theorem qzOk.sum {n : Nat} {ad : Nat → Nat} : ∀ {st : List Value}, (∀ v ∈ st, qzOk n v) → ((st.map (qzR ad)).map fun v => v.category).sum = st.length
  | [], _ => rfl
  | v :: st, h => by
    have h1 := qzOk.cat (ad := ad) (h v List.mem_cons_self)
    have h2 := qzOk.sum (ad := ad) (st := st) (fun w hw => h w (List.mem_cons_of_mem _ hw))
    simp only [List.map_cons, List.sum_cons, List.length_cons, h1, h2]
    omega
def qzLs (ad : Nat → Nat) (n nL : Nat) (lsS : Array Slot) (ls : List Value) : Prop := ls.length = nL ∧ (∀ v ∈ ls, qzOk n v ∨ v = .float 0) ∧ ∃ lv, lv_has lsS nL lv ∧ ∀ (j : Nat) (v : Value), ls[j]? = some v → v ≠ .float 0 → (j, qzR ad v) ∈ lv
theorem qzLs.get {ad : Nat → Nat} {n nL : Nat} {lsS : Array Slot} {ls : List Value} (h : qzLs ad n nL lsS ls) {j : Nat} {v : Value} (hj : ls[j]? = some v) (hv : v ≠ .float 0) : lsS[j]? = some (.val (qzR ad v)) := by
  obtain ⟨-, -, lv, h1, h2⟩ := h
  exact h1.2.2 _ (h2 j v hj hv)
theorem qzLs.ok {ad : Nat → Nat} {n nL : Nat} {lsS : Array Slot} {ls : List Value} (h : qzLs ad n nL lsS ls) {j : Nat} {v : Value} (hj : ls[j]? = some v) (hv : v ≠ .float 0) : qzOk n v :=
  (h.2.1 v (List.mem_of_getElem? hj)).resolve_right hv
theorem qzLs.size {ad : Nat → Nat} {n nL : Nat} {lsS : Array Slot} {ls : List Value} (h : qzLs ad n nL lsS ls) : lsS.size = nL := by
  obtain ⟨-, -, lv, h1, -⟩ := h
  exact h1.1
theorem qzLs.set {ad : Nat → Nat} {n nL : Nat} {lsS' : Array Slot} {ls : List Value} {lv : List (Nat × Value)} (h : ls.length = nL) (ho : ∀ v ∈ ls, qzOk n v ∨ v = .float 0) (h2 : ∀ (j : Nat) (v : Value), ls[j]? = some v → v ≠ .float 0 → (j, qzR ad v) ∈ lv)
    {i : Nat} {x : Value} (hx : qzOk n x) (h' : lv_has lsS' nL ((i, qzR ad x) :: lv.filter (fun q => !(q.1 == i) && !(q.1 + 1 == i && q.2.category == 2)))) : qzLs ad n nL lsS' (ls.set i x) := by
  refine ⟨by rw [List.length_set]; exact h, fun v hv => ?_, _, h', fun j v hj hv => ?_⟩
  · rcases List.mem_or_eq_of_mem_set hv with q | q
    · exact ho v q
    · subst q; exact Or.inl hx
  · by_cases hji : j = i
    · subst hji
      have hl : j < ls.length := by
        have := (List.getElem?_eq_some_iff.mp hj).1
        rwa [List.length_set] at this
      rw [List.getElem?_set_self hl] at hj
      cases hj
      exact List.mem_cons_self
    · rw [List.getElem?_set_ne (Ne.symm hji)] at hj
      refine List.mem_cons_of_mem _ (List.mem_filter.mpr ⟨h2 j v hj hv, ?_⟩)
      have hc : (qzR ad v).category = 1 := qzOk.cat ((ho v (List.mem_of_getElem? hj)).resolve_right hv)
      simp [hji, hc]
theorem qzLs.ag {ad ad' : Nat → Nat} {n n' nL : Nat} {lsS : Array Slot} {ls : List Value} (h : qzLs ad n nL lsS ls) (ha : qzAg n ad ad') (hn : n ≤ n') : qzLs ad' n' nL lsS ls := by
  obtain ⟨h0, ho, lv, h1, h2⟩ := h
  refine ⟨h0, fun v hv => (ho v hv).imp (fun q => q.mono hn) id, lv, h1, fun j v hj hv => ?_⟩
  rw [qzR_ag ha ((ho v (List.mem_of_getElem? hj)).resolve_right hv)]
  exact h2 j v hj hv
theorem qz_args : ∀ (vs : List Value) (k : Nat), (∀ v ∈ vs, v.category = 1) → ∀ (j : Nat) (v : Value), vs[j]? = some v → (k + j, v) ∈ lv_args k vs
  | [], _, _, j, v, h => by simp at h
  | w :: vs, k, hc, j, v, h => by
    have h1 : w.category = 1 := hc w List.mem_cons_self
    have e : lv_args k (w :: vs) = (k, w) :: lv_args (k + 1) vs := by simp [lv_args, h1]
    rw [e]
    cases j with
    | zero => simp at h; subst h; exact List.mem_cons_self
    | succ j =>
      rw [List.getElem?_cons_succ] at h
      have := qz_args vs (k + 1) (fun v hv => hc v (List.mem_cons_of_mem _ hv)) j v h
      rw [show k + (j + 1) = k + 1 + j by omega]
      exact List.mem_cons_of_mem _ this
theorem qz_sl : ∀ (vs : List Value), (∀ v ∈ vs, v.category = 1) → (lg_sl vs).length = vs.length
  | [], _ => rfl
  | w :: vs, hc => by
    have h1 : w.category = 1 := hc w List.mem_cons_self
    have h2 := qz_sl vs (fun v hv => hc v (List.mem_cons_of_mem _ hv))
    simp only [lg_sl, List.flatMap_cons, List.length_append, List.length_cons] at h2 ⊢
    rw [h2, if_neg (by omega)]
    simp
    omega
theorem qzLs.entry {ad : Nat → Nat} {n mi : Nat} {as : List Value} (ho : ∀ v ∈ as, qzOk n v) (hl : as.length ≤ (qzMd mi).2.2.1) : qzLs ad n (qzMd mi).2.2.1 ((lg_sl (as.map (qzR ad)) ++ List.replicate ((qzMd mi).2.2.1 - (lg_sl (as.map (qzR ad))).length) Slot.unset).toArray) (qzLoc mi as) := by
  have hc : ∀ v ∈ as.map (qzR ad), v.category = 1 := by
    intro v hv
    obtain ⟨w, hw, rfl⟩ := List.mem_map.mp hv
    exact (ho w hw).cat
  have hs : (lg_sl (as.map (qzR ad))).length = as.length := by rw [qz_sl _ hc, List.length_map]
  refine ⟨by simp [qzLoc]; omega, fun v hv => ?_, _, lv_entry _ (by rw [hs]; exact hl), fun j v hj hv => ?_⟩
  · rcases List.mem_append.mp hv with q | q
    · exact Or.inl (ho v q)
    · exact Or.inr (List.eq_of_mem_replicate q)
  · have hlt : j < as.length := by
      apply Nat.lt_of_not_le
      intro q
      unfold qzLoc at hj
      rw [List.getElem?_append_right q] at hj
      exact hv (List.eq_of_mem_replicate (List.mem_of_getElem? hj))
    unfold qzLoc at hj
    rw [List.getElem?_append_left hlt] at hj
    have := qz_args (as.map (qzR ad)) 0 hc j (qzR ad v) (by rw [List.getElem?_map, hj]; rfl)
    rwa [Nat.zero_add] at this
end
section
/-! what holds at a place of a method: the fixed part, and the part that moves -/
def qzA0 (z0 : Nat) : Nat → Prop := fun q => z0 ≤ q
def qzTys (G : qzGT) : List (ClassId × FieldType) := [(G.1, .int), (G.2.1, .char), (G.2.2, .object RX0)]
def qzNw (s : State) : Prop := (∀ q ∈ qzNst, va_Nw (.methodLinkNest (qzRs q.1) q.2.1 q.2.2.1 q.2.2.2) s) ∧ va_Nw (.fieldLinkNest RX0 51 "BoltTailors" "FIRST_VALUES" "[I" "BoltTailors") s ∧ va_AO RX0 s
def qzTxt : List Int32 := [97, 98, 99, 97, 98, 99, 97, 98, 99, 97, 98, 99]
/-- what is there from before: the three rows of numbers, the text -/
def qzSt (z0 : Nat) (S : Nat → Nat) (s : State) (H : Heap) : Prop :=
  va_Z "BoltTailors" "LOWEST_VALUES" "[I" (.ref (S 0)) (qzA0 z0) s H ∧ va_Z "BoltTailors" "HIGHEST_VALUES" "[I" (.ref (S 1)) (qzA0 z0) s H ∧ va_Z "BoltTailors" "FIRST_VALUES" "[I" (.ref (S 2)) (qzA0 z0) s H ∧
  (∀ i, i < 3 → va_X (S i) 3 (qzSv i) s H ∧ S i < z0) ∧ vk_R RX0 30 "abcabcabcabc" (S 3) s ∧
  (∃ adV : Nat → Nat, vk_S 1 [12] [qzTxt] (fun _ => S 3) adV (qzA0 z0) s H) ∧ va_Z "java/lang/String" "COMPACT_STRINGS" "Z" (.int 1) (qzA0 z0) s H ∧ va_Zq "jdk/internal/util/Preconditions" "SIOOBE_FORMATTER" "Ljava/util/function/BiFunction;" (qzA0 z0) s H
theorem qzNw.warm {s U : State} (hW : s.WarmedH U.vm) (h : qzNw s) : qzNw U := ⟨fun q hq => va_Nw.warmM hW (h.1 q hq), va_Nw.warmF hW h.2.1, va_AO.moved hW.alike h.2.2⟩
theorem qzNw.same {s U : State} (hv : s.vm = U.vm) (h : qzNw s) : qzNw U := ⟨fun q hq => va_Nw.same rfl hv (h.1 q hq), va_Nw.same rfl hv h.2.1, va_AO.moved (by rw [hv]; exact Vm.Alike.refl U.vm) h.2.2⟩
theorem qzSt.warm {z0 : Nat} {S : Nat → Nat} {s U : State} {H : Heap} (hW : s.WarmedH U.vm) (h : qzSt z0 S s H) : qzSt z0 S U H := by
  obtain ⟨h1, h2, h3, h4, h5, ⟨adV, h6⟩, h7, h8⟩ := h
  exact ⟨va_Z.moved hW.alike h1, va_Z.moved hW.alike h2, va_Z.moved hW.alike h3, fun i hi => ⟨va_X.moved hW.alike (h4 i hi).1, (h4 i hi).2⟩, vk_R.warm hW h5, ⟨adV, vk_S.moved hW.alike h6⟩, va_Z.moved hW.alike h7, va_Zq.moved hW.alike h8⟩
theorem qzSt.same {z0 : Nat} {S : Nat → Nat} {s U : State} {H : Heap} (hv : U.vm = s.vm) (h : qzSt z0 S s H) : qzSt z0 S U H := by
  obtain ⟨h1, h2, h3, h4, h5, ⟨adV, h6⟩, h7, h8⟩ := h
  have ha : s.vm.Alike U.vm := by rw [hv]; exact Vm.Alike.refl s.vm
  exact ⟨va_Z.moved ha h1, va_Z.moved ha h2, va_Z.moved ha h3, fun i hi => ⟨va_X.moved ha (h4 i hi).1, (h4 i hi).2⟩, vk_R.same hv h5, ⟨adV, vk_S.moved ha h6⟩, va_Z.moved ha h7, va_Zq.moved ha h8⟩
theorem qzSt.kept {z0 : Nat} {S : Nat → Nat} {s : State} {H H1 : Heap} (h : qzSt z0 S s H) (hz : z0 ≤ H.size) (hq : ∀ a : Nat, a < H.size → ¬ qzA0 z0 a → H1[a]? = H[a]?) : qzSt z0 S s H1 := by
  obtain ⟨h1, h2, h3, h4, h5, ⟨adV, h6⟩, h7, h8⟩ := h
  exact ⟨h1.kept hq, h2.kept hq, h3.kept hq, fun i hi => ⟨(h4 i hi).1.kept (hq _ (Nat.lt_of_lt_of_le (h4 i hi).2 hz) (fun q => Nat.lt_irrefl _ (Nat.lt_of_lt_of_le (h4 i hi).2 q))), (h4 i hi).2⟩, h5, ⟨adV, h6.kept hq⟩, h7.kept hq, h8.kept hq⟩
/-- the fixed part -/
def qzFx (p : Program) (G : qzGT) (D : va_G) (z0 : Nat) (S : Nat → Nat) (s : State) (m : MethodId) (args : Array Value) (meth : Method) (c : Code) (mi : Nat) : Prop :=
  p.tables.exec = Jvm.exec ∧ c.code = (qzMd mi).2.1 ∧ c.maxLocals = (qzMd mi).2.2.1 ∧ meth.sig.returnType = (qzMd mi).2.2.2.1 ∧ s.vm.findClass (qzMd mi).1.cls = some m.cls ∧ (∀ w ∈ qzWs, w.before args s = true) ∧ meth.locks = false ∧ meth.name = (qzMd mi).1.name ∧
  va_K D vwCl (qzTys G) s ∧ qzNw s ∧ qzSt z0 S s s.heap ∧ z0 ≤ s.heap.size ∧ mi < 149
/-- the part that moves -/
def qzCx (G : qzGT) (D : va_G) (z0 : Nat) (S : Nat → Nat) (s : State) (mi : Nat) (ad : Nat → Nat) (lsS : Array Slot) (H : Heap) (locs : List Loc) (ls st : List Value) (hp : qzH) : Prop :=
  qzLs ad hp.1 (qzMd mi).2.2.1 lsS ls ∧ (∀ v ∈ st, qzOk hp.1 v) ∧ qzWf hp ∧ (∀ i, ad (1000 + i) = S i) ∧ hp.1 < 1000 ∧ va_P D vwCl (qzW G ad hp) H ∧ va_D (qzA0 z0) (qzW G ad hp) ∧ va_S (qzA0 z0) s.heap H locs
theorem qzCx.st {G : qzGT} {D : va_G} {z0 : Nat} {S : Nat → Nat} {s : State} {mi : Nat} {ad : Nat → Nat} {lsS : Array Slot} {H : Heap} {locs : List Loc} {ls st st' : List Value} {hp : qzH} (C : qzCx G D z0 S s mi ad lsS H locs ls st hp) (h : ∀ v ∈ st', qzOk hp.1 v) : qzCx G D z0 S s mi ad lsS H locs ls st' hp := ⟨C.1, h, C.2.2⟩
theorem qzCx.cells {G : qzGT} {D : va_G} {z0 : Nat} {S : Nat → Nat} {s : State} {mi : Nat} {ad : Nat → Nat} {lsS : Array Slot} {H H1 : Heap} {locs locs1 : List Loc} {ls st st' : List Value} {hp hp' : qzH} (C : qzCx G D z0 S s mi ad lsS H locs ls st hp) (hn : hp'.1 = hp.1) (h : ∀ v ∈ st', qzOk hp.1 v) (hw : qzWf hp')
    (hP : va_P D vwCl (qzW G ad hp') H1) (hD : va_D (qzA0 z0) (qzW G ad hp')) (hS : va_S (qzA0 z0) s.heap H1 locs1) : qzCx G D z0 S s mi ad lsS H1 locs1 ls st' hp' := by
  obtain ⟨c1, c2, c3, c4, c5, c6, c7, c8⟩ := C
  exact ⟨by rw [hn]; exact c1, by rw [hn]; exact h, hw, c4, by rw [hn]; exact c5, hP, hD, hS⟩
section QZ
variable {p : Program} {l : Launch} {e : Env} {R : Room} {s : State} {m : MethodId} {args : Array Value} {below : List Frame} {meth : Method} {c : Code} {Q : State → Prop} {G : qzGT} {D : va_G} {z0 : Nat} {S : Nat → Nat} {mi pc n0 : Nat} {ad : Nat → Nat} {lsS : Array Slot} {H : Heap} {locs : List Loc} {ls st ls' st' : List Value} {hp hp' : qzH} {pc' len : Nat}
/-- the goal at a place -/
abbrev qzG (p : Program) (l : Launch) (e : Env) (R : Room) (s : State) (m : MethodId) (args : Array Value) (below : List Frame) (meth : Method) (c : Code) (Q : State → Prop) (n0 pc : Nat) (ad : Nat → Nat) (lsS : Array Slot) (H : Heap) (locs : List Loc) (st : List Value) (n : Nat) : Prop :=
  W p l e R s m args below meth c H locs (n - n0) (qzSl n - qzSl n0) Q (F0 m pc lsS (st.map (qzR ad)))
/-- how it goes on -/
def qzKK (p : Program) (l : Launch) (e : Env) (R : Room) (s : State) (m : MethodId) (args : Array Value) (below : List Frame) (meth : Method) (c : Code) (Q : State → Prop) (G : qzGT) (D : va_G) (z0 : Nat) (S : Nat → Nat) (mi n0 : Nat) (n : Nat) (ad : Nat → Nat) (pc' : Nat) (ls' st' : List Value) (hp' : qzH) : Prop :=
  ∀ (ad' : Nat → Nat) (lsS' : Array Slot) (H' : Heap) (locs' : List Loc), qzAg n ad ad' → qzCx G D z0 S s mi ad' lsS' H' locs' ls' st' hp' → qzG p l e R s m args below meth c Q n0 pc' ad' lsS' H' locs' st' hp'.1
theorem qzKK.same (kk : qzKK p l e R s m args below meth c Q G D z0 S mi n0 hp.1 ad pc' ls st' hp) (C : qzCx G D z0 S s mi ad lsS H locs ls st hp) (h : ∀ v ∈ st', qzOk hp.1 v) : qzG p l e R s m args below meth c Q n0 pc' ad lsS H locs st' hp.1 :=
  kk ad lsS H locs qzAg.rf (C.st h)
/-- a store into a local -/
theorem qzKK.store {i : Nat} {x : Value} (kk : qzKK p l e R s m args below meth c Q G D z0 S mi n0 hp.1 ad pc' (ls.set i x) st' hp) (C : qzCx G D z0 S s mi ad lsS H locs ls st hp) (hx : qzOk hp.1 x) (h : ∀ v ∈ st', qzOk hp.1 v) {lv : List (Nat × Value)} (h2 : ∀ (j : Nat) (v : Value), ls[j]? = some v → v ≠ .float 0 → (j, qzR ad v) ∈ lv) {lsS' : Array Slot}
    (h' : lv_has lsS' (qzMd mi).2.2.1 ((i, qzR ad x) :: lv.filter (fun q => !(q.1 == i) && !(q.1 + 1 == i && q.2.category == 2)))) : qzG p l e R s m args below meth c Q n0 pc' ad lsS' H locs st' hp.1 :=
  kk ad lsS' H locs qzAg.rf ⟨qzLs.set C.1.1 C.1.2.1 h2 hx h', h, C.2.2⟩
end QZ
end
section
/-! what a step says when it goes on -/
theorem qzGo_inj {pc pc' : Nat} {ls ls' st st' : List Value} {hp hp' : qzH} (h : qzGo pc ls st hp = (some (.inl (pc', ls', st', hp')) : Option qzA)) : pc' = pc ∧ ls' = ls ∧ st' = st ∧ hp' = hp := by
  unfold qzGo at h
  simp only [Option.some.injEq, Sum.inl.injEq, Prod.mk.injEq] at h
  exact ⟨h.1.symm, h.2.1.symm, h.2.2.1.symm, h.2.2.2.symm⟩
theorem qz_no {a : qzA} (h : (none : Option qzA) = some a) : False := by cases h
theorem qzPush_inv {pc pc' len : Nat} {ls ls' st st' : List Value} {hp hp' : qzH} {v : Value} {w : Nat} (h : qzPush v len w pc ls st hp = (some (.inl (pc', ls', st', hp')) : Option qzA)) : len = w ∧ pc' = pc + w ∧ ls' = ls ∧ st' = v :: st ∧ hp' = hp := by
  unfold qzPush at h
  split at h
  · exact ⟨by assumption, qzGo_inj h⟩
  · exact (qz_no h).elim
theorem qzIload_inv {pc pc' len : Nat} {ls ls' st st' : List Value} {hp hp' : qzH} {i w : Nat} (h : qzIload i len w pc ls st hp = (some (.inl (pc', ls', st', hp')) : Option qzA)) : len = w ∧ ∃ x, ls[i]? = some (.int x) ∧ pc' = pc + w ∧ ls' = ls ∧ st' = .int x :: st ∧ hp' = hp := by
  unfold qzIload at h
  split at h
  · split at h
    · exact ⟨by assumption, _, by assumption, qzGo_inj h⟩
    · exact (qz_no h).elim
  · exact (qz_no h).elim
theorem qzAload_inv {pc pc' len : Nat} {ls ls' st st' : List Value} {hp hp' : qzH} {i w : Nat} (h : qzAload i len w pc ls st hp = (some (.inl (pc', ls', st', hp')) : Option qzA)) : len = w ∧ ((∃ x, ls[i]? = some (.ref x) ∧ pc' = pc + w ∧ ls' = ls ∧ st' = .ref x :: st ∧ hp' = hp) ∨ (ls[i]? = some .null ∧ pc' = pc + w ∧ ls' = ls ∧ st' = .null :: st ∧ hp' = hp)) := by
  unfold qzAload at h
  split at h
  · split at h
    · exact ⟨by assumption, Or.inl ⟨_, by assumption, qzGo_inj h⟩⟩
    · exact ⟨by assumption, Or.inr ⟨by assumption, qzGo_inj h⟩⟩
    · exact (qz_no h).elim
  · exact (qz_no h).elim
theorem qzIstore_inv {pc pc' len : Nat} {ls ls' st st' : List Value} {hp hp' : qzH} {i w : Nat} (h : qzIstore i len w pc ls st hp = (some (.inl (pc', ls', st', hp')) : Option qzA)) : len = w ∧ i < ls.length ∧ ∃ x st1, st = .int x :: st1 ∧ pc' = pc + w ∧ ls' = ls.set i (.int x) ∧ st' = st1 ∧ hp' = hp := by
  unfold qzIstore at h
  split at h
  · rename_i hc
    split at h
    · exact ⟨hc.1, hc.2, _, _, rfl, qzGo_inj h⟩
    · exact (qz_no h).elim
  · exact (qz_no h).elim
theorem qzAstore_inv {pc pc' len : Nat} {ls ls' st st' : List Value} {hp hp' : qzH} {i w : Nat} (h : qzAstore i len w pc ls st hp = (some (.inl (pc', ls', st', hp')) : Option qzA)) : len = w ∧ i < ls.length ∧ ((∃ x st1, st = .ref x :: st1 ∧ pc' = pc + w ∧ ls' = ls.set i (.ref x) ∧ st' = st1 ∧ hp' = hp) ∨ (∃ st1, st = .null :: st1 ∧ pc' = pc + w ∧ ls' = ls.set i .null ∧ st' = st1 ∧ hp' = hp)) := by
  unfold qzAstore at h
  split at h
  · rename_i hc
    split at h
    · exact ⟨hc.1, hc.2, Or.inl ⟨_, _, rfl, qzGo_inj h⟩⟩
    · exact ⟨hc.1, hc.2, Or.inr ⟨_, rfl, qzGo_inj h⟩⟩
    · exact (qz_no h).elim
  · exact (qz_no h).elim
theorem qzBin_inv {pc pc' len : Nat} {ls ls' st st' : List Value} {hp hp' : qzH} {f : Int32 → Int32 → Int32} (h : qzBin f len pc ls st hp = (some (.inl (pc', ls', st', hp')) : Option qzA)) : len = 1 ∧ ∃ x y st1, st = .int y :: .int x :: st1 ∧ pc' = pc + 1 ∧ ls' = ls ∧ st' = .int (f x y) :: st1 ∧ hp' = hp := by
  unfold qzBin at h
  split at h
  · split at h
    · exact ⟨by assumption, _, _, _, rfl, qzGo_inj h⟩
    · exact (qz_no h).elim
  · exact (qz_no h).elim
theorem qzBinD_inv {pc pc' len : Nat} {ls ls' st st' : List Value} {hp hp' : qzH} {f : Int32 → Int32 → Int32} (h : qzBinD f len pc ls st hp = (some (.inl (pc', ls', st', hp')) : Option qzA)) : len = 1 ∧ ∃ x y st1, st = .int y :: .int x :: st1 ∧ ¬ y = 0 ∧ pc' = pc + 1 ∧ ls' = ls ∧ st' = .int (f x y) :: st1 ∧ hp' = hp := by
  unfold qzBinD at h
  split at h
  · split at h
    · split at h
      · exact (qz_no h).elim
      · exact ⟨by assumption, _, _, _, rfl, by assumption, qzGo_inj h⟩
    · exact (qz_no h).elim
  · exact (qz_no h).elim
theorem qzI2c_inv {pc pc' len : Nat} {ls ls' st st' : List Value} {hp hp' : qzH}  (h : qzI2c len pc ls st hp = (some (.inl (pc', ls', st', hp')) : Option qzA)) : len = 1 ∧ ∃ x st1, st = .int x :: st1 ∧ pc' = pc + 1 ∧ ls' = ls ∧ st' = .int (x.toUInt32 % 65536).toInt32 :: st1 ∧ hp' = hp := by
  unfold qzI2c at h
  split at h
  · split at h
    · exact ⟨by assumption, _, _, rfl, qzGo_inj h⟩
    · exact (qz_no h).elim
  · exact (qz_no h).elim
theorem qzIinc_inv {pc pc' len : Nat} {ls ls' st st' : List Value} {hp hp' : qzH} {i : Nat} {n : Int} (h : qzIinc i n len pc ls st hp = (some (.inl (pc', ls', st', hp')) : Option qzA)) : len = 3 ∧ ∃ x, ls[i]? = some (.int x) ∧ pc' = pc + 3 ∧ ls' = ls.set i (.int (x + Int32.ofInt n)) ∧ st' = st ∧ hp' = hp := by
  unfold qzIinc at h
  split at h
  · split at h
    · exact ⟨by assumption, _, by assumption, qzGo_inj h⟩
    · exact (qz_no h).elim
  · exact (qz_no h).elim
theorem qzPop_inv {pc pc' len : Nat} {ls ls' st st' : List Value} {hp hp' : qzH}  (h : qzPop len pc ls st hp = (some (.inl (pc', ls', st', hp')) : Option qzA)) : len = 1 ∧ ∃ v st1, st = v :: st1 ∧ pc' = pc + 1 ∧ ls' = ls ∧ st' = st1 ∧ hp' = hp := by
  unfold qzPop at h
  split at h
  · split at h
    · exact ⟨by assumption, _, _, rfl, qzGo_inj h⟩
    · exact (qz_no h).elim
  · exact (qz_no h).elim
theorem qzDup_inv {pc pc' len : Nat} {ls ls' st st' : List Value} {hp hp' : qzH}  (h : qzDup len pc ls st hp = (some (.inl (pc', ls', st', hp')) : Option qzA)) : len = 1 ∧ ∃ v st1, st = v :: st1 ∧ pc' = pc + 1 ∧ ls' = ls ∧ st' = v :: v :: st1 ∧ hp' = hp := by
  unfold qzDup at h
  split at h
  · split at h
    · exact ⟨by assumption, _, _, rfl, qzGo_inj h⟩
    · exact (qz_no h).elim
  · exact (qz_no h).elim
theorem qzDup2_inv {pc pc' len : Nat} {ls ls' st st' : List Value} {hp hp' : qzH}  (h : qzDup2 len pc ls st hp = (some (.inl (pc', ls', st', hp')) : Option qzA)) : len = 1 ∧ ∃ v w st1, st = v :: w :: st1 ∧ pc' = pc + 1 ∧ ls' = ls ∧ st' = v :: w :: v :: w :: st1 ∧ hp' = hp := by
  unfold qzDup2 at h
  split at h
  · split at h
    · exact ⟨by assumption, _, _, _, rfl, qzGo_inj h⟩
    · exact (qz_no h).elim
  · exact (qz_no h).elim
theorem qzBr_inv {pc pc' : Nat} {ls ls' st st' : List Value} {hp hp' : qzH} {b : Bool} {off : Int} (h : qzBr b pc off ls st hp = (some (.inl (pc', ls', st', hp')) : Option qzA)) : ((pc : Int) + off = (qzTg pc off : Nat)) ∧ ((b = true ∧ pc' = qzTg pc off) ∨ (b = false ∧ pc' = pc + 3)) ∧ ls' = ls ∧ st' = st ∧ hp' = hp := by
  unfold qzBr at h
  split at h
  · rename_i h0
    refine ⟨by unfold qzTg; omega, ?_⟩
    cases b with
    | true =>
      obtain ⟨a1, a2⟩ := qzGo_inj (by simpa using h)
      exact ⟨Or.inl ⟨rfl, a1⟩, a2⟩
    | false =>
      obtain ⟨a1, a2⟩ := qzGo_inj (by simpa using h)
      exact ⟨Or.inr ⟨rfl, a1⟩, a2⟩
  · exact (qz_no h).elim
theorem qzIf1_inv {pc pc' len : Nat} {ls ls' st st' : List Value} {hp hp' : qzH} {k : ClassFile.Cond} {off : Int} (h : qzIf1 k off len pc ls st hp = (some (.inl (pc', ls', st', hp')) : Option qzA)) : len = 3 ∧ ∃ x st1, st = .int x :: st1 ∧ qzBr (qzC1 k x) pc off ls st1 hp = (some (.inl (pc', ls', st', hp')) : Option qzA) := by
  unfold qzIf1 at h
  split at h
  · split at h
    · exact ⟨by assumption, _, _, rfl, h⟩
    · exact (qz_no h).elim
  · exact (qz_no h).elim
theorem qzIf2_inv {pc pc' len : Nat} {ls ls' st st' : List Value} {hp hp' : qzH} {k : ClassFile.Cond} {off : Int} (h : qzIf2 k off len pc ls st hp = (some (.inl (pc', ls', st', hp')) : Option qzA)) : len = 3 ∧ ∃ x y st1, st = .int y :: .int x :: st1 ∧ qzBr (qzC2 k x y) pc off ls st1 hp = (some (.inl (pc', ls', st', hp')) : Option qzA) := by
  unfold qzIf2 at h
  split at h
  · split at h
    · exact ⟨by assumption, _, _, _, rfl, h⟩
    · exact (qz_no h).elim
  · exact (qz_no h).elim
theorem qzIfN_inv {pc pc' len : Nat} {ls ls' st st' : List Value} {hp hp' : qzH} {k : Bool} {off : Int} (h : qzIfN k off len pc ls st hp = (some (.inl (pc', ls', st', hp')) : Option qzA)) : len = 3 ∧ ((∃ x st1, st = .ref x :: st1 ∧ qzBr (!k) pc off ls st1 hp = (some (.inl (pc', ls', st', hp')) : Option qzA)) ∨ (∃ st1, st = .null :: st1 ∧ qzBr k pc off ls st1 hp = (some (.inl (pc', ls', st', hp')) : Option qzA))) := by
  unfold qzIfN at h
  split at h
  · split at h
    · exact ⟨by assumption, Or.inl ⟨_, _, rfl, h⟩⟩
    · exact ⟨by assumption, Or.inr ⟨_, rfl, h⟩⟩
    · exact (qz_no h).elim
  · exact (qz_no h).elim
theorem qzGoto_inv {pc pc' len : Nat} {ls ls' st st' : List Value} {hp hp' : qzH} {off : Int} (h : qzGoto off len pc ls st hp = (some (.inl (pc', ls', st', hp')) : Option qzA)) : len = 3 ∧ ((pc : Int) + off = (qzTg pc off : Nat)) ∧ pc' = qzTg pc off ∧ ls' = ls ∧ st' = st ∧ hp' = hp := by
  unfold qzGoto at h
  split at h
  · rename_i hc
    exact ⟨hc.1, by unfold qzTg; omega, qzGo_inj h⟩
  · exact (qz_no h).elim
theorem qzTsw_inv {pc pc' : Nat} {ls ls' st st' : List Value} {hp hp' : qzH} {d lo hi : Int} {offs : Array Int} (h : qzTsw d lo hi offs pc ls st hp = (some (.inl (pc', ls', st', hp')) : Option qzA)) : ∃ x st1, st = .int x :: st1 ∧ (((x.toInt < lo ∨ hi < x.toInt) ∧ (pc : Int) + d = (qzTg pc d : Nat) ∧ pc' = qzTg pc d ∧ ls' = ls ∧ st' = st1 ∧ hp' = hp) ∨ (¬ (x.toInt < lo ∨ hi < x.toInt) ∧ ∃ o, offs[(x.toInt - lo).toNat]? = some o ∧ (pc : Int) + o = (qzTg pc o : Nat) ∧ pc' = qzTg pc o ∧ ls' = ls ∧ st' = st1 ∧ hp' = hp)) := by
  unfold qzTsw at h
  split at h
  · split at h
    · rename_i hc
      split at h
      · exact ⟨_, _, rfl, Or.inl ⟨hc, by unfold qzTg; omega, qzGo_inj h⟩⟩
      · exact (qz_no h).elim
    · rename_i hc
      split at h
      · rename_i o ho
        split at h
        · exact ⟨_, _, rfl, Or.inr ⟨hc, o, ho, by unfold qzTg; omega, qzGo_inj h⟩⟩
        · exact (qz_no h).elim
      · exact (qz_no h).elim
  · exact (qz_no h).elim
section QZ1
variable {p : Program} {l : Launch} {e : Env} {R : Room} {s : State} {m : MethodId} {args : Array Value} {below : List Frame} {meth : Method} {c : Code} {Q : State → Prop} {G : qzGT} {D : va_G} {z0 : Nat} {S : Nat → Nat} {mi pc n0 : Nat} {ad : Nat → Nat} {lsS : Array Slot} {H : Heap} {locs : List Loc} {ls st ls' st' : List Value} {hp hp' : qzH} {pc' len : Nat}
theorem qz_iconst {n : Int} (F : qzFx p G D z0 S s m args meth c mi) (C : qzCx G D z0 S s mi ad lsS H locs ls st hp) (hd : decode (qzMd mi).2.1 pc = .ok (.iconst n, len)) (h : qzPush (.int (Int32.ofInt n)) len 1 pc ls st hp = (some (.inl (pc', ls', st', hp')) : Option qzA))
    (kk : qzKK p l e R s m args below meth c Q G D z0 S mi n0 hp.1 ad pc' ls' st' hp') : qzG p l e R s m args below meth c Q n0 pc ad lsS H locs st hp.1 := by
  obtain ⟨rfl, rfl, rfl, rfl, rfl⟩ := qzPush_inv h
  exact lv_iconst F.1 F.2.1 hd rfl (kk.same C (List.forall_mem_cons.mpr ⟨trivial, C.2.1⟩))
theorem qz_bipush {n : Int} (F : qzFx p G D z0 S s m args meth c mi) (C : qzCx G D z0 S s mi ad lsS H locs ls st hp) (hd : decode (qzMd mi).2.1 pc = .ok (.bipush n, len)) (h : qzPush (.int (Int8.ofInt n).toInt32) len 2 pc ls st hp = (some (.inl (pc', ls', st', hp')) : Option qzA))
    (kk : qzKK p l e R s m args below meth c Q G D z0 S mi n0 hp.1 ad pc' ls' st' hp') : qzG p l e R s m args below meth c Q n0 pc ad lsS H locs st hp.1 := by
  obtain ⟨rfl, rfl, rfl, rfl, rfl⟩ := qzPush_inv h
  exact lv_bipush F.1 F.2.1 hd rfl (kk.same C (List.forall_mem_cons.mpr ⟨trivial, C.2.1⟩))
theorem qz_sipush {n : Int} (F : qzFx p G D z0 S s m args meth c mi) (C : qzCx G D z0 S s mi ad lsS H locs ls st hp) (hd : decode (qzMd mi).2.1 pc = .ok (.sipush n, len)) (h : qzPush (.int (Int16.ofInt n).toInt32) len 3 pc ls st hp = (some (.inl (pc', ls', st', hp')) : Option qzA))
    (kk : qzKK p l e R s m args below meth c Q G D z0 S mi n0 hp.1 ad pc' ls' st' hp') : qzG p l e R s m args below meth c Q n0 pc ad lsS H locs st hp.1 := by
  obtain ⟨rfl, rfl, rfl, rfl, rfl⟩ := qzPush_inv h
  exact lv_sipush F.1 F.2.1 hd rfl (kk.same C (List.forall_mem_cons.mpr ⟨trivial, C.2.1⟩))
theorem qz_aconst_null  (F : qzFx p G D z0 S s m args meth c mi) (C : qzCx G D z0 S s mi ad lsS H locs ls st hp) (hd : decode (qzMd mi).2.1 pc = .ok (.aconst_null, len)) (h : qzPush (.null) len 1 pc ls st hp = (some (.inl (pc', ls', st', hp')) : Option qzA))
    (kk : qzKK p l e R s m args below meth c Q G D z0 S mi n0 hp.1 ad pc' ls' st' hp') : qzG p l e R s m args below meth c Q n0 pc ad lsS H locs st hp.1 := by
  obtain ⟨rfl, rfl, rfl, rfl, rfl⟩ := qzPush_inv h
  exact lv_null F.1 F.2.1 hd (kk.same C (List.forall_mem_cons.mpr ⟨trivial, C.2.1⟩))
theorem qz_iload_n {k : Fin 4} (F : qzFx p G D z0 S s m args meth c mi) (C : qzCx G D z0 S s mi ad lsS H locs ls st hp) (hd : decode (qzMd mi).2.1 pc = .ok (.iload_n k, len)) (h : qzIload k len 1 pc ls st hp = (some (.inl (pc', ls', st', hp')) : Option qzA))
    (kk : qzKK p l e R s m args below meth c Q G D z0 S mi n0 hp.1 ad pc' ls' st' hp') : qzG p l e R s m args below meth c Q n0 pc ad lsS H locs st hp.1 := by
  obtain ⟨rfl, x, hl, rfl, rfl, rfl, rfl⟩ := qzIload_inv h
  exact lv_iload_n F.1 F.2.1 hd rfl (C.1.get hl (by intro q; cases q)) (kk.same C (List.forall_mem_cons.mpr ⟨trivial, C.2.1⟩))
theorem qz_iload {k : Nat} (F : qzFx p G D z0 S s m args meth c mi) (C : qzCx G D z0 S s mi ad lsS H locs ls st hp) (hd : decode (qzMd mi).2.1 pc = .ok (.iload k, len)) (h : qzIload k len 2 pc ls st hp = (some (.inl (pc', ls', st', hp')) : Option qzA))
    (kk : qzKK p l e R s m args below meth c Q G D z0 S mi n0 hp.1 ad pc' ls' st' hp') : qzG p l e R s m args below meth c Q n0 pc ad lsS H locs st hp.1 := by
  obtain ⟨rfl, x, hl, rfl, rfl, rfl, rfl⟩ := qzIload_inv h
  exact lv_iload F.1 F.2.1 hd (C.1.get hl (by intro q; cases q)) (kk.same C (List.forall_mem_cons.mpr ⟨trivial, C.2.1⟩))
theorem qz_aload_n {k : Fin 4} (F : qzFx p G D z0 S s m args meth c mi) (C : qzCx G D z0 S s mi ad lsS H locs ls st hp) (hd : decode (qzMd mi).2.1 pc = .ok (.aload_n k, len)) (h : qzAload k len 1 pc ls st hp = (some (.inl (pc', ls', st', hp')) : Option qzA))
    (kk : qzKK p l e R s m args below meth c Q G D z0 S mi n0 hp.1 ad pc' ls' st' hp') : qzG p l e R s m args below meth c Q n0 pc ad lsS H locs st hp.1 := by
  obtain ⟨rfl, ⟨x, hl, rfl, rfl, rfl, rfl⟩ | ⟨hl, rfl, rfl, rfl, rfl⟩⟩ := qzAload_inv h
  · exact lv_aload_n F.1 F.2.1 hd rfl (C.1.get hl (by intro q; cases q)) (kk.same C (List.forall_mem_cons.mpr ⟨C.1.ok hl (by intro q; cases q), C.2.1⟩))
  · exact lv_aload_nN F.1 F.2.1 hd rfl (C.1.get hl (by intro q; cases q)) (kk.same C (List.forall_mem_cons.mpr ⟨trivial, C.2.1⟩))
theorem qz_aload {k : Nat} (F : qzFx p G D z0 S s m args meth c mi) (C : qzCx G D z0 S s mi ad lsS H locs ls st hp) (hd : decode (qzMd mi).2.1 pc = .ok (.aload k, len)) (h : qzAload k len 2 pc ls st hp = (some (.inl (pc', ls', st', hp')) : Option qzA))
    (kk : qzKK p l e R s m args below meth c Q G D z0 S mi n0 hp.1 ad pc' ls' st' hp') : qzG p l e R s m args below meth c Q n0 pc ad lsS H locs st hp.1 := by
  obtain ⟨rfl, ⟨x, hl, rfl, rfl, rfl, rfl⟩ | ⟨hl, rfl, rfl, rfl, rfl⟩⟩ := qzAload_inv h
  · exact lv_aload F.1 F.2.1 hd (C.1.get hl (by intro q; cases q)) (kk.same C (List.forall_mem_cons.mpr ⟨C.1.ok hl (by intro q; cases q), C.2.1⟩))
  · exact lv_aloadN F.1 F.2.1 hd (C.1.get hl (by intro q; cases q)) (kk.same C (List.forall_mem_cons.mpr ⟨trivial, C.2.1⟩))
theorem qz_istore_n {k : Fin 4} (F : qzFx p G D z0 S s m args meth c mi) (C : qzCx G D z0 S s mi ad lsS H locs ls st hp) (hd : decode (qzMd mi).2.1 pc = .ok (.istore_n k, len)) (h : qzIstore k len 1 pc ls st hp = (some (.inl (pc', ls', st', hp')) : Option qzA))
    (kk : qzKK p l e R s m args below meth c Q G D z0 S mi n0 hp.1 ad pc' ls' st' hp') : qzG p l e R s m args below meth c Q n0 pc ad lsS H locs st hp.1 := by
  obtain ⟨rfl, hi, x, st1, rfl, rfl, rfl, rfl, rfl⟩ := qzIstore_inv h
  obtain ⟨lv, h1, h2⟩ := C.1.2.2
  exact lv_istore_n F.1 F.2.1 hd rfl h1 (by rw [← C.1.1]; exact hi) rfl (fun lsS' h' => kk.store C trivial (List.forall_mem_cons.mp C.2.1).2 h2 h')
theorem qz_istore {k : Nat} (F : qzFx p G D z0 S s m args meth c mi) (C : qzCx G D z0 S s mi ad lsS H locs ls st hp) (hd : decode (qzMd mi).2.1 pc = .ok (.istore k, len)) (h : qzIstore k len 2 pc ls st hp = (some (.inl (pc', ls', st', hp')) : Option qzA))
    (kk : qzKK p l e R s m args below meth c Q G D z0 S mi n0 hp.1 ad pc' ls' st' hp') : qzG p l e R s m args below meth c Q n0 pc ad lsS H locs st hp.1 := by
  obtain ⟨rfl, hi, x, st1, rfl, rfl, rfl, rfl, rfl⟩ := qzIstore_inv h
  obtain ⟨lv, h1, h2⟩ := C.1.2.2
  exact lv_istore F.1 F.2.1 hd h1 (by rw [← C.1.1]; exact hi) rfl (fun lsS' h' => kk.store C trivial (List.forall_mem_cons.mp C.2.1).2 h2 h')
theorem qz_astore_n {k : Fin 4} (F : qzFx p G D z0 S s m args meth c mi) (C : qzCx G D z0 S s mi ad lsS H locs ls st hp) (hd : decode (qzMd mi).2.1 pc = .ok (.astore_n k, len)) (h : qzAstore k len 1 pc ls st hp = (some (.inl (pc', ls', st', hp')) : Option qzA))
    (kk : qzKK p l e R s m args below meth c Q G D z0 S mi n0 hp.1 ad pc' ls' st' hp') : qzG p l e R s m args below meth c Q n0 pc ad lsS H locs st hp.1 := by
  obtain ⟨rfl, hi, ⟨x, st1, rfl, rfl, rfl, rfl, rfl⟩ | ⟨st1, rfl, rfl, rfl, rfl, rfl⟩⟩ := qzAstore_inv h
  · obtain ⟨lv, h1, h2⟩ := C.1.2.2
    exact lv_astore_n F.1 F.2.1 hd rfl h1 (by rw [← C.1.1]; exact hi) rfl (fun lsS' h' => kk.store C (List.forall_mem_cons.mp C.2.1).1 (List.forall_mem_cons.mp C.2.1).2 h2 h')
  · obtain ⟨lv, h1, h2⟩ := C.1.2.2
    exact lv_astore_nN F.1 F.2.1 hd rfl h1 (by rw [← C.1.1]; exact hi) rfl (fun lsS' h' => kk.store C trivial (List.forall_mem_cons.mp C.2.1).2 h2 h')
theorem qz_astore {k : Nat} (F : qzFx p G D z0 S s m args meth c mi) (C : qzCx G D z0 S s mi ad lsS H locs ls st hp) (hd : decode (qzMd mi).2.1 pc = .ok (.astore k, len)) (h : qzAstore k len 2 pc ls st hp = (some (.inl (pc', ls', st', hp')) : Option qzA))
    (kk : qzKK p l e R s m args below meth c Q G D z0 S mi n0 hp.1 ad pc' ls' st' hp') : qzG p l e R s m args below meth c Q n0 pc ad lsS H locs st hp.1 := by
  obtain ⟨rfl, hi, ⟨x, st1, rfl, rfl, rfl, rfl, rfl⟩ | ⟨st1, rfl, rfl, rfl, rfl, rfl⟩⟩ := qzAstore_inv h
  · obtain ⟨lv, h1, h2⟩ := C.1.2.2
    exact lv_astore F.1 F.2.1 hd h1 (by rw [← C.1.1]; exact hi) rfl (fun lsS' h' => kk.store C (List.forall_mem_cons.mp C.2.1).1 (List.forall_mem_cons.mp C.2.1).2 h2 h')
  · obtain ⟨lv, h1, h2⟩ := C.1.2.2
    exact lv_astoreN F.1 F.2.1 hd h1 (by rw [← C.1.1]; exact hi) rfl (fun lsS' h' => kk.store C trivial (List.forall_mem_cons.mp C.2.1).2 h2 h')
theorem qz_iadd  (F : qzFx p G D z0 S s m args meth c mi) (C : qzCx G D z0 S s mi ad lsS H locs ls st hp) (hd : decode (qzMd mi).2.1 pc = .ok (.iadd, len)) (h : qzBin (fun x y => x + y) len pc ls st hp = (some (.inl (pc', ls', st', hp')) : Option qzA))
    (kk : qzKK p l e R s m args below meth c Q G D z0 S mi n0 hp.1 ad pc' ls' st' hp') : qzG p l e R s m args below meth c Q n0 pc ad lsS H locs st hp.1 := by
  obtain ⟨rfl, x, y, st1, rfl, rfl, rfl, rfl, rfl⟩ := qzBin_inv h
  exact lv_iadd F.1 F.2.1 hd (kk.same C (List.forall_mem_cons.mpr ⟨trivial, (List.forall_mem_cons.mp (List.forall_mem_cons.mp C.2.1).2).2⟩))
theorem qz_isub  (F : qzFx p G D z0 S s m args meth c mi) (C : qzCx G D z0 S s mi ad lsS H locs ls st hp) (hd : decode (qzMd mi).2.1 pc = .ok (.isub, len)) (h : qzBin (fun x y => x - y) len pc ls st hp = (some (.inl (pc', ls', st', hp')) : Option qzA))
    (kk : qzKK p l e R s m args below meth c Q G D z0 S mi n0 hp.1 ad pc' ls' st' hp') : qzG p l e R s m args below meth c Q n0 pc ad lsS H locs st hp.1 := by
  obtain ⟨rfl, x, y, st1, rfl, rfl, rfl, rfl, rfl⟩ := qzBin_inv h
  exact lv_isub F.1 F.2.1 hd (kk.same C (List.forall_mem_cons.mpr ⟨trivial, (List.forall_mem_cons.mp (List.forall_mem_cons.mp C.2.1).2).2⟩))
theorem qz_imul  (F : qzFx p G D z0 S s m args meth c mi) (C : qzCx G D z0 S s mi ad lsS H locs ls st hp) (hd : decode (qzMd mi).2.1 pc = .ok (.imul, len)) (h : qzBin (fun x y => x * y) len pc ls st hp = (some (.inl (pc', ls', st', hp')) : Option qzA))
    (kk : qzKK p l e R s m args below meth c Q G D z0 S mi n0 hp.1 ad pc' ls' st' hp') : qzG p l e R s m args below meth c Q n0 pc ad lsS H locs st hp.1 := by
  obtain ⟨rfl, x, y, st1, rfl, rfl, rfl, rfl, rfl⟩ := qzBin_inv h
  exact lv_imul F.1 F.2.1 hd (kk.same C (List.forall_mem_cons.mpr ⟨trivial, (List.forall_mem_cons.mp (List.forall_mem_cons.mp C.2.1).2).2⟩))
theorem qz_iand  (F : qzFx p G D z0 S s m args meth c mi) (C : qzCx G D z0 S s mi ad lsS H locs ls st hp) (hd : decode (qzMd mi).2.1 pc = .ok (.iand, len)) (h : qzBin (fun x y => x &&& y) len pc ls st hp = (some (.inl (pc', ls', st', hp')) : Option qzA))
    (kk : qzKK p l e R s m args below meth c Q G D z0 S mi n0 hp.1 ad pc' ls' st' hp') : qzG p l e R s m args below meth c Q n0 pc ad lsS H locs st hp.1 := by
  obtain ⟨rfl, x, y, st1, rfl, rfl, rfl, rfl, rfl⟩ := qzBin_inv h
  exact lv_iand F.1 F.2.1 hd (kk.same C (List.forall_mem_cons.mpr ⟨trivial, (List.forall_mem_cons.mp (List.forall_mem_cons.mp C.2.1).2).2⟩))
theorem qz_ior  (F : qzFx p G D z0 S s m args meth c mi) (C : qzCx G D z0 S s mi ad lsS H locs ls st hp) (hd : decode (qzMd mi).2.1 pc = .ok (.ior, len)) (h : qzBin (fun x y => x ||| y) len pc ls st hp = (some (.inl (pc', ls', st', hp')) : Option qzA))
    (kk : qzKK p l e R s m args below meth c Q G D z0 S mi n0 hp.1 ad pc' ls' st' hp') : qzG p l e R s m args below meth c Q n0 pc ad lsS H locs st hp.1 := by
  obtain ⟨rfl, x, y, st1, rfl, rfl, rfl, rfl, rfl⟩ := qzBin_inv h
  exact lv_ior F.1 F.2.1 hd (kk.same C (List.forall_mem_cons.mpr ⟨trivial, (List.forall_mem_cons.mp (List.forall_mem_cons.mp C.2.1).2).2⟩))
theorem qz_ishl  (F : qzFx p G D z0 S s m args meth c mi) (C : qzCx G D z0 S s mi ad lsS H locs ls st hp) (hd : decode (qzMd mi).2.1 pc = .ok (.ishl, len)) (h : qzBin (fun x y => x <<< (y &&& 31)) len pc ls st hp = (some (.inl (pc', ls', st', hp')) : Option qzA))
    (kk : qzKK p l e R s m args below meth c Q G D z0 S mi n0 hp.1 ad pc' ls' st' hp') : qzG p l e R s m args below meth c Q n0 pc ad lsS H locs st hp.1 := by
  obtain ⟨rfl, x, y, st1, rfl, rfl, rfl, rfl, rfl⟩ := qzBin_inv h
  exact lv_ishl F.1 F.2.1 hd (kk.same C (List.forall_mem_cons.mpr ⟨trivial, (List.forall_mem_cons.mp (List.forall_mem_cons.mp C.2.1).2).2⟩))
theorem qz_ishr  (F : qzFx p G D z0 S s m args meth c mi) (C : qzCx G D z0 S s mi ad lsS H locs ls st hp) (hd : decode (qzMd mi).2.1 pc = .ok (.ishr, len)) (h : qzBin (fun x y => x >>> (y &&& 31)) len pc ls st hp = (some (.inl (pc', ls', st', hp')) : Option qzA))
    (kk : qzKK p l e R s m args below meth c Q G D z0 S mi n0 hp.1 ad pc' ls' st' hp') : qzG p l e R s m args below meth c Q n0 pc ad lsS H locs st hp.1 := by
  obtain ⟨rfl, x, y, st1, rfl, rfl, rfl, rfl, rfl⟩ := qzBin_inv h
  exact lv_ishr F.1 F.2.1 hd (kk.same C (List.forall_mem_cons.mpr ⟨trivial, (List.forall_mem_cons.mp (List.forall_mem_cons.mp C.2.1).2).2⟩))
theorem qz_idiv  (F : qzFx p G D z0 S s m args meth c mi) (C : qzCx G D z0 S s mi ad lsS H locs ls st hp) (hd : decode (qzMd mi).2.1 pc = .ok (.idiv, len)) (h : qzBinD (fun x y => x / y) len pc ls st hp = (some (.inl (pc', ls', st', hp')) : Option qzA))
    (kk : qzKK p l e R s m args below meth c Q G D z0 S mi n0 hp.1 ad pc' ls' st' hp') : qzG p l e R s m args below meth c Q n0 pc ad lsS H locs st hp.1 := by
  obtain ⟨rfl, x, y, st1, rfl, hy, rfl, rfl, rfl, rfl⟩ := qzBinD_inv h
  exact lv_idiv F.1 F.2.1 hd hy (kk.same C (List.forall_mem_cons.mpr ⟨trivial, (List.forall_mem_cons.mp (List.forall_mem_cons.mp C.2.1).2).2⟩))
theorem qz_irem  (F : qzFx p G D z0 S s m args meth c mi) (C : qzCx G D z0 S s mi ad lsS H locs ls st hp) (hd : decode (qzMd mi).2.1 pc = .ok (.irem, len)) (h : qzBinD (fun x y => x - x / y * y) len pc ls st hp = (some (.inl (pc', ls', st', hp')) : Option qzA))
    (kk : qzKK p l e R s m args below meth c Q G D z0 S mi n0 hp.1 ad pc' ls' st' hp') : qzG p l e R s m args below meth c Q n0 pc ad lsS H locs st hp.1 := by
  obtain ⟨rfl, x, y, st1, rfl, hy, rfl, rfl, rfl, rfl⟩ := qzBinD_inv h
  exact lv_irem F.1 F.2.1 hd hy (kk.same C (List.forall_mem_cons.mpr ⟨trivial, (List.forall_mem_cons.mp (List.forall_mem_cons.mp C.2.1).2).2⟩))
theorem qz_i2c  (F : qzFx p G D z0 S s m args meth c mi) (C : qzCx G D z0 S s mi ad lsS H locs ls st hp) (hd : decode (qzMd mi).2.1 pc = .ok (.i2c, len)) (h : qzI2c len pc ls st hp = (some (.inl (pc', ls', st', hp')) : Option qzA))
    (kk : qzKK p l e R s m args below meth c Q G D z0 S mi n0 hp.1 ad pc' ls' st' hp') : qzG p l e R s m args below meth c Q n0 pc ad lsS H locs st hp.1 := by
  obtain ⟨rfl, x, st1, rfl, rfl, rfl, rfl, rfl⟩ := qzI2c_inv h
  exact lv_i2c F.1 F.2.1 hd rfl (kk.same C (List.forall_mem_cons.mpr ⟨trivial, (List.forall_mem_cons.mp C.2.1).2⟩))
theorem qz_iinc {i : Nat} {n : Int} (F : qzFx p G D z0 S s m args meth c mi) (C : qzCx G D z0 S s mi ad lsS H locs ls st hp) (hd : decode (qzMd mi).2.1 pc = .ok (.iinc i n, len)) (h : qzIinc i n len pc ls st hp = (some (.inl (pc', ls', st', hp')) : Option qzA))
    (kk : qzKK p l e R s m args below meth c Q G D z0 S mi n0 hp.1 ad pc' ls' st' hp') : qzG p l e R s m args below meth c Q n0 pc ad lsS H locs st hp.1 := by
  obtain ⟨rfl, x, hl, rfl, rfl, rfl, rfl⟩ := qzIinc_inv h
  obtain ⟨lv, h1, h2⟩ := C.1.2.2
  obtain ⟨k, hk⟩ := List.getElem?_of_mem (h2 i (.int x) hl (by intro q; cases q))
  exact lv_iinc F.1 F.2.1 hd h1 hk rfl (by rw [← C.1.1]; exact (List.getElem?_eq_some_iff.mp hl).1) rfl (fun lsS' h' => kk.store C trivial C.2.1 h2 h')
theorem qz_pop  (F : qzFx p G D z0 S s m args meth c mi) (C : qzCx G D z0 S s mi ad lsS H locs ls st hp) (hd : decode (qzMd mi).2.1 pc = .ok (.pop, len)) (h : qzPop len pc ls st hp = (some (.inl (pc', ls', st', hp')) : Option qzA))
    (kk : qzKK p l e R s m args below meth c Q G D z0 S mi n0 hp.1 ad pc' ls' st' hp') : qzG p l e R s m args below meth c Q n0 pc ad lsS H locs st hp.1 := by
  obtain ⟨rfl, v, st1, rfl, rfl, rfl, rfl, rfl⟩ := qzPop_inv h
  exact lv_pop F.1 F.2.1 hd (List.forall_mem_cons.mp C.2.1).1.cat (kk.same C (List.forall_mem_cons.mp C.2.1).2)
theorem qz_dup  (F : qzFx p G D z0 S s m args meth c mi) (C : qzCx G D z0 S s mi ad lsS H locs ls st hp) (hd : decode (qzMd mi).2.1 pc = .ok (.dup, len)) (h : qzDup len pc ls st hp = (some (.inl (pc', ls', st', hp')) : Option qzA))
    (kk : qzKK p l e R s m args below meth c Q G D z0 S mi n0 hp.1 ad pc' ls' st' hp') : qzG p l e R s m args below meth c Q n0 pc ad lsS H locs st hp.1 := by
  obtain ⟨rfl, v, st1, rfl, rfl, rfl, rfl, rfl⟩ := qzDup_inv h
  exact lv_dup F.1 F.2.1 hd (List.forall_mem_cons.mp C.2.1).1.cat (kk.same C (List.forall_mem_cons.mpr ⟨(List.forall_mem_cons.mp C.2.1).1, C.2.1⟩))
theorem qz_dup2  (F : qzFx p G D z0 S s m args meth c mi) (C : qzCx G D z0 S s mi ad lsS H locs ls st hp) (hd : decode (qzMd mi).2.1 pc = .ok (.dup2, len)) (h : qzDup2 len pc ls st hp = (some (.inl (pc', ls', st', hp')) : Option qzA))
    (kk : qzKK p l e R s m args below meth c Q G D z0 S mi n0 hp.1 ad pc' ls' st' hp') : qzG p l e R s m args below meth c Q n0 pc ad lsS H locs st hp.1 := by
  obtain ⟨rfl, v, w, st1, rfl, rfl, rfl, rfl, rfl⟩ := qzDup2_inv h
  have hv := (List.forall_mem_cons.mp C.2.1).1
  have hw := (List.forall_mem_cons.mp (List.forall_mem_cons.mp C.2.1).2).1
  exact lv_dup2_11 F.1 F.2.1 hd hv.cat hw.cat (kk.same C (List.forall_mem_cons.mpr ⟨hv, List.forall_mem_cons.mpr ⟨hw, C.2.1⟩⟩))
theorem qz_if_eq {off : Int} (F : qzFx p G D z0 S s m args meth c mi) (C : qzCx G D z0 S s mi ad lsS H locs ls st hp) (hd : decode (qzMd mi).2.1 pc = .ok (.ifCond .eq off, len)) (h : qzIf1 .eq off len pc ls st hp = (some (.inl (pc', ls', st', hp')) : Option qzA))
    (kk : qzKK p l e R s m args below meth c Q G D z0 S mi n0 hp.1 ad pc' ls' st' hp') : qzG p l e R s m args below meth c Q n0 pc ad lsS H locs st hp.1 := by
  obtain ⟨rfl, x, st1, rfl, hb⟩ := qzIf1_inv h
  obtain ⟨ht, hc, rfl, rfl, rfl⟩ := qzBr_inv hb
  refine lv_if_eq F.1 F.2.1 hd ht (fun hx => ?_) (fun hx => ?_)
  · rcases hc with ⟨hq, rfl⟩ | ⟨hq, rfl⟩
    · exact kk.same C (List.forall_mem_cons.mp C.2.1).2
    · simp [qzC1, hx] at hq
  · rcases hc with ⟨hq, rfl⟩ | ⟨hq, rfl⟩
    · simp [qzC1, hx] at hq
    · exact kk.same C (List.forall_mem_cons.mp C.2.1).2
theorem qz_icmp_eq {off : Int} (F : qzFx p G D z0 S s m args meth c mi) (C : qzCx G D z0 S s mi ad lsS H locs ls st hp) (hd : decode (qzMd mi).2.1 pc = .ok (.if_icmp .eq off, len)) (h : qzIf2 .eq off len pc ls st hp = (some (.inl (pc', ls', st', hp')) : Option qzA))
    (kk : qzKK p l e R s m args below meth c Q G D z0 S mi n0 hp.1 ad pc' ls' st' hp') : qzG p l e R s m args below meth c Q n0 pc ad lsS H locs st hp.1 := by
  obtain ⟨rfl, x, y, st1, rfl, hb⟩ := qzIf2_inv h
  obtain ⟨ht, hc, rfl, rfl, rfl⟩ := qzBr_inv hb
  have ho := (List.forall_mem_cons.mp (List.forall_mem_cons.mp C.2.1).2).2
  refine lv_icmp_eq F.1 F.2.1 hd ht (fun hx => ?_) (fun hx => ?_)
  · rcases hc with ⟨hq, rfl⟩ | ⟨hq, rfl⟩
    · exact kk.same C ho
    · simp only [qzC2, decide_eq_false_iff_not] at hq
      exact (hq hx).elim
  · rcases hc with ⟨hq, rfl⟩ | ⟨hq, rfl⟩
    · simp only [qzC2, decide_eq_true_eq] at hq
      exact (hx hq).elim
    · exact kk.same C ho
theorem qz_if_ne {off : Int} (F : qzFx p G D z0 S s m args meth c mi) (C : qzCx G D z0 S s mi ad lsS H locs ls st hp) (hd : decode (qzMd mi).2.1 pc = .ok (.ifCond .ne off, len)) (h : qzIf1 .ne off len pc ls st hp = (some (.inl (pc', ls', st', hp')) : Option qzA))
    (kk : qzKK p l e R s m args below meth c Q G D z0 S mi n0 hp.1 ad pc' ls' st' hp') : qzG p l e R s m args below meth c Q n0 pc ad lsS H locs st hp.1 := by
  obtain ⟨rfl, x, st1, rfl, hb⟩ := qzIf1_inv h
  obtain ⟨ht, hc, rfl, rfl, rfl⟩ := qzBr_inv hb
  refine lv_if_ne F.1 F.2.1 hd ht (fun hx => ?_) (fun hx => ?_)
  · rcases hc with ⟨hq, rfl⟩ | ⟨hq, rfl⟩
    · exact kk.same C (List.forall_mem_cons.mp C.2.1).2
    · simp [qzC1, hx] at hq
  · rcases hc with ⟨hq, rfl⟩ | ⟨hq, rfl⟩
    · simp [qzC1, hx] at hq
    · exact kk.same C (List.forall_mem_cons.mp C.2.1).2
theorem qz_icmp_ne {off : Int} (F : qzFx p G D z0 S s m args meth c mi) (C : qzCx G D z0 S s mi ad lsS H locs ls st hp) (hd : decode (qzMd mi).2.1 pc = .ok (.if_icmp .ne off, len)) (h : qzIf2 .ne off len pc ls st hp = (some (.inl (pc', ls', st', hp')) : Option qzA))
    (kk : qzKK p l e R s m args below meth c Q G D z0 S mi n0 hp.1 ad pc' ls' st' hp') : qzG p l e R s m args below meth c Q n0 pc ad lsS H locs st hp.1 := by
  obtain ⟨rfl, x, y, st1, rfl, hb⟩ := qzIf2_inv h
  obtain ⟨ht, hc, rfl, rfl, rfl⟩ := qzBr_inv hb
  have ho := (List.forall_mem_cons.mp (List.forall_mem_cons.mp C.2.1).2).2
  refine lv_icmp_ne F.1 F.2.1 hd ht (fun hx => ?_) (fun hx => ?_)
  · rcases hc with ⟨hq, rfl⟩ | ⟨hq, rfl⟩
    · exact kk.same C ho
    · simp only [qzC2, decide_eq_false_iff_not] at hq
      exact (hq hx).elim
  · rcases hc with ⟨hq, rfl⟩ | ⟨hq, rfl⟩
    · simp only [qzC2, decide_eq_true_eq] at hq
      exact (hq hx).elim
    · exact kk.same C ho
theorem qz_if_lt {off : Int} (F : qzFx p G D z0 S s m args meth c mi) (C : qzCx G D z0 S s mi ad lsS H locs ls st hp) (hd : decode (qzMd mi).2.1 pc = .ok (.ifCond .lt off, len)) (h : qzIf1 .lt off len pc ls st hp = (some (.inl (pc', ls', st', hp')) : Option qzA))
    (kk : qzKK p l e R s m args below meth c Q G D z0 S mi n0 hp.1 ad pc' ls' st' hp') : qzG p l e R s m args below meth c Q n0 pc ad lsS H locs st hp.1 := by
  obtain ⟨rfl, x, st1, rfl, hb⟩ := qzIf1_inv h
  obtain ⟨ht, hc, rfl, rfl, rfl⟩ := qzBr_inv hb
  refine lv_if_lt F.1 F.2.1 hd ht (fun hx => ?_) (fun hx => ?_)
  · rcases hc with ⟨hq, rfl⟩ | ⟨hq, rfl⟩
    · exact kk.same C (List.forall_mem_cons.mp C.2.1).2
    · simp [qzC1, hx] at hq
  · rcases hc with ⟨hq, rfl⟩ | ⟨hq, rfl⟩
    · simp [qzC1, hx] at hq
    · exact kk.same C (List.forall_mem_cons.mp C.2.1).2
theorem qz_icmp_lt {off : Int} (F : qzFx p G D z0 S s m args meth c mi) (C : qzCx G D z0 S s mi ad lsS H locs ls st hp) (hd : decode (qzMd mi).2.1 pc = .ok (.if_icmp .lt off, len)) (h : qzIf2 .lt off len pc ls st hp = (some (.inl (pc', ls', st', hp')) : Option qzA))
    (kk : qzKK p l e R s m args below meth c Q G D z0 S mi n0 hp.1 ad pc' ls' st' hp') : qzG p l e R s m args below meth c Q n0 pc ad lsS H locs st hp.1 := by
  obtain ⟨rfl, x, y, st1, rfl, hb⟩ := qzIf2_inv h
  obtain ⟨ht, hc, rfl, rfl, rfl⟩ := qzBr_inv hb
  have ho := (List.forall_mem_cons.mp (List.forall_mem_cons.mp C.2.1).2).2
  refine lv_icmp_lt F.1 F.2.1 hd ht (fun hx => ?_) (fun hx => ?_)
  · rcases hc with ⟨hq, rfl⟩ | ⟨hq, rfl⟩
    · exact kk.same C ho
    · simp only [qzC2, decide_eq_false_iff_not] at hq
      exact (hq hx).elim
  · rcases hc with ⟨hq, rfl⟩ | ⟨hq, rfl⟩
    · simp only [qzC2, decide_eq_true_eq] at hq
      exact (hx hq).elim
    · exact kk.same C ho
theorem qz_if_ge {off : Int} (F : qzFx p G D z0 S s m args meth c mi) (C : qzCx G D z0 S s mi ad lsS H locs ls st hp) (hd : decode (qzMd mi).2.1 pc = .ok (.ifCond .ge off, len)) (h : qzIf1 .ge off len pc ls st hp = (some (.inl (pc', ls', st', hp')) : Option qzA))
    (kk : qzKK p l e R s m args below meth c Q G D z0 S mi n0 hp.1 ad pc' ls' st' hp') : qzG p l e R s m args below meth c Q n0 pc ad lsS H locs st hp.1 := by
  obtain ⟨rfl, x, st1, rfl, hb⟩ := qzIf1_inv h
  obtain ⟨ht, hc, rfl, rfl, rfl⟩ := qzBr_inv hb
  refine lv_if_ge F.1 F.2.1 hd ht (fun hx => ?_) (fun hx => ?_)
  · rcases hc with ⟨hq, rfl⟩ | ⟨hq, rfl⟩
    · exact kk.same C (List.forall_mem_cons.mp C.2.1).2
    · simp [qzC1, hx] at hq
  · rcases hc with ⟨hq, rfl⟩ | ⟨hq, rfl⟩
    · simp [qzC1, hx] at hq
    · exact kk.same C (List.forall_mem_cons.mp C.2.1).2
theorem qz_icmp_ge {off : Int} (F : qzFx p G D z0 S s m args meth c mi) (C : qzCx G D z0 S s mi ad lsS H locs ls st hp) (hd : decode (qzMd mi).2.1 pc = .ok (.if_icmp .ge off, len)) (h : qzIf2 .ge off len pc ls st hp = (some (.inl (pc', ls', st', hp')) : Option qzA))
    (kk : qzKK p l e R s m args below meth c Q G D z0 S mi n0 hp.1 ad pc' ls' st' hp') : qzG p l e R s m args below meth c Q n0 pc ad lsS H locs st hp.1 := by
  obtain ⟨rfl, x, y, st1, rfl, hb⟩ := qzIf2_inv h
  obtain ⟨ht, hc, rfl, rfl, rfl⟩ := qzBr_inv hb
  have ho := (List.forall_mem_cons.mp (List.forall_mem_cons.mp C.2.1).2).2
  refine lv_icmp_ge F.1 F.2.1 hd ht (fun hx => ?_) (fun hx => ?_)
  · rcases hc with ⟨hq, rfl⟩ | ⟨hq, rfl⟩
    · exact kk.same C ho
    · simp only [qzC2, decide_eq_false_iff_not] at hq
      exact (hq hx).elim
  · rcases hc with ⟨hq, rfl⟩ | ⟨hq, rfl⟩
    · simp only [qzC2, decide_eq_true_eq] at hq
      exact (hx hq).elim
    · exact kk.same C ho
theorem qz_if_gt {off : Int} (F : qzFx p G D z0 S s m args meth c mi) (C : qzCx G D z0 S s mi ad lsS H locs ls st hp) (hd : decode (qzMd mi).2.1 pc = .ok (.ifCond .gt off, len)) (h : qzIf1 .gt off len pc ls st hp = (some (.inl (pc', ls', st', hp')) : Option qzA))
    (kk : qzKK p l e R s m args below meth c Q G D z0 S mi n0 hp.1 ad pc' ls' st' hp') : qzG p l e R s m args below meth c Q n0 pc ad lsS H locs st hp.1 := by
  obtain ⟨rfl, x, st1, rfl, hb⟩ := qzIf1_inv h
  obtain ⟨ht, hc, rfl, rfl, rfl⟩ := qzBr_inv hb
  refine lv_if_gt F.1 F.2.1 hd ht (fun hx => ?_) (fun hx => ?_)
  · rcases hc with ⟨hq, rfl⟩ | ⟨hq, rfl⟩
    · exact kk.same C (List.forall_mem_cons.mp C.2.1).2
    · simp [qzC1, hx] at hq
  · rcases hc with ⟨hq, rfl⟩ | ⟨hq, rfl⟩
    · simp [qzC1, hx] at hq
    · exact kk.same C (List.forall_mem_cons.mp C.2.1).2
theorem qz_icmp_gt {off : Int} (F : qzFx p G D z0 S s m args meth c mi) (C : qzCx G D z0 S s mi ad lsS H locs ls st hp) (hd : decode (qzMd mi).2.1 pc = .ok (.if_icmp .gt off, len)) (h : qzIf2 .gt off len pc ls st hp = (some (.inl (pc', ls', st', hp')) : Option qzA))
    (kk : qzKK p l e R s m args below meth c Q G D z0 S mi n0 hp.1 ad pc' ls' st' hp') : qzG p l e R s m args below meth c Q n0 pc ad lsS H locs st hp.1 := by
  obtain ⟨rfl, x, y, st1, rfl, hb⟩ := qzIf2_inv h
  obtain ⟨ht, hc, rfl, rfl, rfl⟩ := qzBr_inv hb
  have ho := (List.forall_mem_cons.mp (List.forall_mem_cons.mp C.2.1).2).2
  refine lv_icmp_gt F.1 F.2.1 hd ht (fun hx => ?_) (fun hx => ?_)
  · rcases hc with ⟨hq, rfl⟩ | ⟨hq, rfl⟩
    · exact kk.same C ho
    · simp only [qzC2, decide_eq_false_iff_not] at hq
      exact (hq hx).elim
  · rcases hc with ⟨hq, rfl⟩ | ⟨hq, rfl⟩
    · simp only [qzC2, decide_eq_true_eq] at hq
      exact (hx hq).elim
    · exact kk.same C ho
theorem qz_if_le {off : Int} (F : qzFx p G D z0 S s m args meth c mi) (C : qzCx G D z0 S s mi ad lsS H locs ls st hp) (hd : decode (qzMd mi).2.1 pc = .ok (.ifCond .le off, len)) (h : qzIf1 .le off len pc ls st hp = (some (.inl (pc', ls', st', hp')) : Option qzA))
    (kk : qzKK p l e R s m args below meth c Q G D z0 S mi n0 hp.1 ad pc' ls' st' hp') : qzG p l e R s m args below meth c Q n0 pc ad lsS H locs st hp.1 := by
  obtain ⟨rfl, x, st1, rfl, hb⟩ := qzIf1_inv h
  obtain ⟨ht, hc, rfl, rfl, rfl⟩ := qzBr_inv hb
  refine lv_if_le F.1 F.2.1 hd ht (fun hx => ?_) (fun hx => ?_)
  · rcases hc with ⟨hq, rfl⟩ | ⟨hq, rfl⟩
    · exact kk.same C (List.forall_mem_cons.mp C.2.1).2
    · simp [qzC1, hx] at hq
  · rcases hc with ⟨hq, rfl⟩ | ⟨hq, rfl⟩
    · simp [qzC1, hx] at hq
    · exact kk.same C (List.forall_mem_cons.mp C.2.1).2
theorem qz_icmp_le {off : Int} (F : qzFx p G D z0 S s m args meth c mi) (C : qzCx G D z0 S s mi ad lsS H locs ls st hp) (hd : decode (qzMd mi).2.1 pc = .ok (.if_icmp .le off, len)) (h : qzIf2 .le off len pc ls st hp = (some (.inl (pc', ls', st', hp')) : Option qzA))
    (kk : qzKK p l e R s m args below meth c Q G D z0 S mi n0 hp.1 ad pc' ls' st' hp') : qzG p l e R s m args below meth c Q n0 pc ad lsS H locs st hp.1 := by
  obtain ⟨rfl, x, y, st1, rfl, hb⟩ := qzIf2_inv h
  obtain ⟨ht, hc, rfl, rfl, rfl⟩ := qzBr_inv hb
  have ho := (List.forall_mem_cons.mp (List.forall_mem_cons.mp C.2.1).2).2
  refine lv_icmp_le F.1 F.2.1 hd ht (fun hx => ?_) (fun hx => ?_)
  · rcases hc with ⟨hq, rfl⟩ | ⟨hq, rfl⟩
    · exact kk.same C ho
    · simp only [qzC2, decide_eq_false_iff_not] at hq
      exact (hq hx).elim
  · rcases hc with ⟨hq, rfl⟩ | ⟨hq, rfl⟩
    · simp only [qzC2, decide_eq_true_eq] at hq
      exact (hx hq).elim
    · exact kk.same C ho
theorem qz_ifnull {off : Int} (F : qzFx p G D z0 S s m args meth c mi) (C : qzCx G D z0 S s mi ad lsS H locs ls st hp) (hd : decode (qzMd mi).2.1 pc = .ok (.ifnull off, len)) (h : qzIfN true off len pc ls st hp = (some (.inl (pc', ls', st', hp')) : Option qzA))
    (kk : qzKK p l e R s m args below meth c Q G D z0 S mi n0 hp.1 ad pc' ls' st' hp') : qzG p l e R s m args below meth c Q n0 pc ad lsS H locs st hp.1 := by
  obtain ⟨rfl, ⟨x, st1, rfl, hb⟩ | ⟨st1, rfl, hb⟩⟩ := qzIfN_inv h
  · obtain ⟨ht, hc, rfl, rfl, rfl⟩ := qzBr_inv hb
    rcases hc with ⟨hq, -⟩ | ⟨-, rfl⟩
    · cases hq
    · exact lv_ifnull F.1 F.2.1 hd (kk.same C (List.forall_mem_cons.mp C.2.1).2)
  · obtain ⟨ht, hc, rfl, rfl, rfl⟩ := qzBr_inv hb
    rcases hc with ⟨-, rfl⟩ | ⟨hq, -⟩
    · exact lv_ifnullN F.1 F.2.1 hd ht (kk.same C (List.forall_mem_cons.mp C.2.1).2)
    · cases hq
theorem qz_ifnonnull {off : Int} (F : qzFx p G D z0 S s m args meth c mi) (C : qzCx G D z0 S s mi ad lsS H locs ls st hp) (hd : decode (qzMd mi).2.1 pc = .ok (.ifnonnull off, len)) (h : qzIfN false off len pc ls st hp = (some (.inl (pc', ls', st', hp')) : Option qzA))
    (kk : qzKK p l e R s m args below meth c Q G D z0 S mi n0 hp.1 ad pc' ls' st' hp') : qzG p l e R s m args below meth c Q n0 pc ad lsS H locs st hp.1 := by
  obtain ⟨rfl, ⟨x, st1, rfl, hb⟩ | ⟨st1, rfl, hb⟩⟩ := qzIfN_inv h
  · obtain ⟨ht, hc, rfl, rfl, rfl⟩ := qzBr_inv hb
    rcases hc with ⟨-, rfl⟩ | ⟨hq, -⟩
    · exact lv_ifnonnull F.1 F.2.1 hd ht (kk.same C (List.forall_mem_cons.mp C.2.1).2)
    · cases hq
  · obtain ⟨ht, hc, rfl, rfl, rfl⟩ := qzBr_inv hb
    rcases hc with ⟨hq, -⟩ | ⟨-, rfl⟩
    · cases hq
    · exact lv_ifnonnullN F.1 F.2.1 hd (kk.same C (List.forall_mem_cons.mp C.2.1).2)
theorem qz_goto {off : Int} (F : qzFx p G D z0 S s m args meth c mi) (C : qzCx G D z0 S s mi ad lsS H locs ls st hp) (hd : decode (qzMd mi).2.1 pc = .ok (.goto off, len)) (h : qzGoto off len pc ls st hp = (some (.inl (pc', ls', st', hp')) : Option qzA))
    (kk : qzKK p l e R s m args below meth c Q G D z0 S mi n0 hp.1 ad pc' ls' st' hp') : qzG p l e R s m args below meth c Q n0 pc ad lsS H locs st hp.1 := by
  obtain ⟨rfl, ht, rfl, rfl, rfl, rfl⟩ := qzGoto_inv h
  exact lv_goto F.1 F.2.1 hd ht (kk.same C C.2.1)
theorem qz_tableswitch {d lo hi : Int} {offs : Array Int} (F : qzFx p G D z0 S s m args meth c mi) (C : qzCx G D z0 S s mi ad lsS H locs ls st hp) (hd : decode (qzMd mi).2.1 pc = .ok (.tableswitch d lo hi offs, len)) (h : qzTsw d lo hi offs pc ls st hp = (some (.inl (pc', ls', st', hp')) : Option qzA))
    (kk : qzKK p l e R s m args below meth c Q G D z0 S mi n0 hp.1 ad pc' ls' st' hp') : qzG p l e R s m args below meth c Q n0 pc ad lsS H locs st hp.1 := by
  obtain ⟨x, st1, rfl, ⟨hc, ht, rfl, rfl, rfl, rfl⟩ | ⟨hc, o, ho, ht, rfl, rfl, rfl, rfl⟩⟩ := qzTsw_inv h
  · exact lv_tableOut F.1 F.2.1 hd hc ht (kk.same C (List.forall_mem_cons.mp C.2.1).2)
  · exact lv_tableIn F.1 F.2.1 hd (fun q => hc (Or.inl q)) (fun q => hc (Or.inr q)) ho ht (kk.same C (List.forall_mem_cons.mp C.2.1).2)
end QZ1
end
section
/-! the steps that read and write cells -/
theorem qzArr_ok {kd a n : Nat} (h : qzArr kd a n = true) : a < n ∧ (qzk a).1 = kd := by simpa [qzArr] using h
theorem qzIn_ok {i : Int32} {n : Nat} (h : qzIn i n = true) : vp_in i n := by
  unfold qzIn at h
  intro q
  rcases q with q | q
  · simp [q] at h
  · simp [q] at h
theorem qzE4 {G : qzGT} {ad : Nat → Nat} {hp : qzH} {a : Nat} (h : (qzk a).1 = 4) : qzE G ad hp a = .inl (G.1, (qzk a).2, .inl (hp.2.2 a)) := by unfold qzE; rw [if_pos h]
theorem qzE5 {G : qzGT} {ad : Nat → Nat} {hp : qzH} {a : Nat} (h : (qzk a).1 = 5) : qzE G ad hp a = .inl (G.2.1, (qzk a).2, .inl (hp.2.2 a)) := by unfold qzE; rw [if_neg (by omega), if_pos h]
theorem qzE6 {G : qzGT} {ad : Nat → Nat} {hp : qzH} {a : Nat} (h : (qzk a).1 = 6) : qzE G ad hp a = .inl (G.2.2, (qzk a).2, .inr (.inr (.inr (.inr (fun j => (hp.2.1 a j).map ad))))) := by unfold qzE; rw [if_neg (by omega), if_neg (by omega), if_pos h]
theorem qzEo {G : qzGT} {ad : Nat → Nat} {hp : qzH} {a ci : Nat} (h : (qzk a).1 = ci) (hc : ci < 4) : qzE G ad hp a = .inr (ci, qzFs ad ci (hp.2.1 a) (hp.2.2 a)) := by subst h; unfold qzE; rw [if_neg (by omega), if_neg (by omega), if_neg (by omega)]
theorem qzFs_len {ad : Nat → Nat} {ci : Nat} {r : Nat → Option Nat} {h : Nat → Int32} : (qzFs ad ci r h).length = qzNf ci := by simp [qzFs]
theorem qzFs_at {ad : Nat → Nat} {ci k : Nat} {r : Nat → Option Nat} {h : Nat → Int32} (hk : k < qzNf ci) : (qzFs ad ci r h)[k]? = some (if qzRef ci k then va_rf ((r k).map ad) else .int (h k)) := by simp [qzFs, hk]
theorem qzFs_seti {ad : Nat → Nat} {ci k : Nat} {r : Nat → Option Nat} {h h' : Nat → Int32} {x : Int32} (hr : qzRef ci k = false) (h1 : h' k = x) (h2 : ∀ j, j ≠ k → h' j = h j) : qzFs ad ci r h' = (qzFs ad ci r h).set k (.int x) := by
  apply List.ext_getElem?
  intro j
  by_cases e : j = k
  · subst e
    by_cases hj : j < qzNf ci
    · rw [List.getElem?_set_self (by rw [qzFs_len]; exact hj), qzFs_at hj, hr, h1]; rfl
    · rw [List.getElem?_eq_none (by rw [qzFs_len]; omega), List.getElem?_eq_none (by rw [List.length_set, qzFs_len]; omega)]
  · rw [List.getElem?_set_ne (Ne.symm e)]
    by_cases hj : j < qzNf ci
    · rw [qzFs_at hj, qzFs_at hj, h2 j e]
    · rw [List.getElem?_eq_none (by rw [qzFs_len]; omega), List.getElem?_eq_none (by rw [qzFs_len]; omega)]
theorem qzFs_setr {ad : Nat → Nat} {ci k b : Nat} {r r' : Nat → Option Nat} {h : Nat → Int32} (hr : qzRef ci k = true) (h1 : r' k = some b) (h2 : ∀ j, j ≠ k → r' j = r j) : qzFs ad ci r' h = (qzFs ad ci r h).set k (.ref (ad b)) := by
  apply List.ext_getElem?
  intro j
  by_cases e : j = k
  · subst e
    by_cases hj : j < qzNf ci
    · rw [List.getElem?_set_self (by rw [qzFs_len]; exact hj), qzFs_at hj, hr, h1]; rfl
    · rw [List.getElem?_eq_none (by rw [qzFs_len]; omega), List.getElem?_eq_none (by rw [List.length_set, qzFs_len]; omega)]
  · rw [List.getElem?_set_ne (Ne.symm e)]
    by_cases hj : j < qzNf ci
    · rw [qzFs_at hj, qzFs_at hj, h2 j e]
    · rw [List.getElem?_eq_none (by rw [qzFs_len]; omega), List.getElem?_eq_none (by rw [qzFs_len]; omega)]
theorem qzUp_ne {α : Type} {f : Nat → Nat → α} {i k a : Nat} {v : α} (h : a ≠ i) : qzUp f i k v a = f a := by
  funext b
  simp [qzUp, h]
theorem qzUp_at {f : Nat → Nat → Int32} {i k : Nat} {v : Int32} : qzUp f i k v i = upd (f i) k v := by
  funext b
  simp [qzUp, upd]
theorem qzUr_ne {α : Type} {f : Nat → Nat → α} {i a : Nat} {g : Nat → α} (h : a ≠ i) : qzUr f i g a = f a := by
  funext b
  simp [qzUr, h]
theorem qzUr_at {α : Type} {f : Nat → Nat → α} {i : Nat} {g : Nat → α} : qzUr f i g i = g := by
  funext b
  simp [qzUr]
theorem qzE_num {G : qzGT} {ad : Nat → Nat} {n : Nat} {r : Nat → Nat → Option Nat} {h h' : Nat → Nat → Int32} {j : Nat} (e : h' j = h j) : qzE G ad (n, r, h') j = qzE G ad (n, r, h) j := by
  unfold qzE
  simp only [e]
theorem qzE_ref {G : qzGT} {ad : Nat → Nat} {n : Nat} {r r' : Nat → Nat → Option Nat} {h : Nat → Nat → Int32} {j : Nat} (e : r' j = r j) : qzE G ad (n, r', h) j = qzE G ad (n, r, h) j := by
  unfold qzE
  simp only [e]
theorem qzOwn {ci k : Nat} (hc : ci < 4) (hk : k < qzNf ci) : (qzTs ci k).1 = qzRs ci := by
  have : ∀ ci, ci < 4 → ∀ k, k < qzNf ci → (qzTs ci k).1 = qzRs ci := by decide +kernel
  exact this ci hc k hk
theorem qzNar {ci k a : Nat} (hc : ci < 4) (hk : k < qzNf ci) (hr : qzRef ci k = true) : narrow (qzTy ci k) (.ref a) = .ref a ∧ fits (qzTy ci k) (.ref a) = true := by
  have : ∀ ci, ci < 4 → ∀ k, k < qzNf ci → (qzTy ci k = .int ∨ qzTy ci k = .boolean ∨ qzTy ci k = .array .int ∨ qzTy ci k = .array .char ∨ qzTy ci k = .array (.object "BoltTailors$Game") ∨ qzTy ci k = .object "BoltTailors$Game" ∨ qzTy ci k = .object "BoltTailors$Leads") := by decide +kernel
  rcases this ci hc k hk with h | h | h | h | h | h | h <;> first | (exfalso; unfold qzRef at hr; rw [h] at hr; cases hr; done) | (rw [h]; exact ⟨rfl, rfl⟩)
section QZ2
variable {p : Program} {l : Launch} {e : Env} {R : Room} {s : State} {m : MethodId} {args : Array Value} {below : List Frame} {meth : Method} {c : Code} {Q : State → Prop} {G : qzGT} {D : va_G} {z0 : Nat} {S : Nat → Nat} {mi pc n0 : Nat} {ad : Nat → Nat} {lsS : Array Slot} {H : Heap} {locs : List Loc} {ls st ls' st' : List Value} {hp hp' : qzH} {pc' len : Nat}
theorem qzAd {ad S : Nat → Nat} (h : ∀ i, ad (1000 + i) = S i) {a : Nat} (ha : 1000 ≤ a) : ad a = S (a - 1000) := by
  have := h (a - 1000)
  rwa [show 1000 + (a - 1000) = a by omega] at this
theorem qz_iaload (F : qzFx p G D z0 S s m args meth c mi) (C : qzCx G D z0 S s mi ad lsS H locs ls st hp) (hd : decode (qzMd mi).2.1 pc = .ok (.iaload, len)) (h : qzIald len pc ls st hp = (some (.inl (pc', ls', st', hp')) : Option qzA))
    (kk : qzKK p l e R s m args below meth c Q G D z0 S mi n0 hp.1 ad pc' ls' st' hp') : qzG p l e R s m args below meth c Q n0 pc ad lsS H locs st hp.1 := by
  obtain ⟨hx, hb, hml, hr, hown, hts, hlk, hnm, hK, hNw, hSt, hz, hmi⟩ := id F
  obtain ⟨c1, c2, c3, c4, c5, hP, hD, hS⟩ := id C
  unfold qzIald at h
  split at h
  · rename_i hw
    subst hw
    split at h
    · rename_i i a st1
      have ho := (List.forall_mem_cons.mp (List.forall_mem_cons.mp C.2.1).2).2
      split at h
      · rename_i ha
        obtain ⟨ha1, ha2⟩ := qzArr_ok ha
        split at h
        · rename_i hi
          obtain ⟨rfl, rfl, rfl, rfl⟩ := qzGo_inj h
          exact va_iald (tys := qzTys G) hx hb hK hP a 0 ((qzW_get ha1).trans (by rw [qzE4 ha2])) rfl (qzIn_ok hi) hd (kk.same C (List.forall_mem_cons.mpr ⟨trivial, ho⟩))
        · exact (qz_no h).elim
      · split at h
        · rename_i ha
          split at h
          · rename_i hi
            obtain ⟨rfl, rfl, rfl, rfl⟩ := qzGo_inj h
            have hq1 : (1000 : Nat) ≤ a := ha.1
            have hq2 : (a : Nat) < 1003 := ha.2
            obtain ⟨hX, hlt⟩ := hSt.2.2.2.1 (a - 1000) (Nat.sub_lt_left_of_lt_add hq1 hq2)
            have ea := qzAd c4 ha.1
            show W p l e R s m args below meth c H locs (hp'.1 - n0) (qzSl hp'.1 - qzSl n0) Q (F0 m pc lsS (.int i :: .ref (ad a) :: st1.map (qzR ad)))
            rw [ea]
            exact va_sld hx hb hX (Nat.lt_of_lt_of_le hlt hz) (fun q => Nat.lt_irrefl _ (Nat.lt_of_lt_of_le hlt q)) hS (qzIn_ok hi) hd (kk.same C (List.forall_mem_cons.mpr ⟨trivial, ho⟩))
          · exact (qz_no h).elim
        · exact (qz_no h).elim
    · exact (qz_no h).elim
  · exact (qz_no h).elim
theorem qz_caload (F : qzFx p G D z0 S s m args meth c mi) (C : qzCx G D z0 S s mi ad lsS H locs ls st hp) (hd : decode (qzMd mi).2.1 pc = .ok (.caload, len)) (h : qzCald len pc ls st hp = (some (.inl (pc', ls', st', hp')) : Option qzA))
    (kk : qzKK p l e R s m args below meth c Q G D z0 S mi n0 hp.1 ad pc' ls' st' hp') : qzG p l e R s m args below meth c Q n0 pc ad lsS H locs st hp.1 := by
  obtain ⟨hx, hb, hml, hr, hown, hts, hlk, hnm, hK, hNw, hSt, hz, hmi⟩ := id F
  obtain ⟨c1, c2, c3, c4, c5, hP, hD, hS⟩ := id C
  unfold qzCald at h
  split at h
  · rename_i hw
    subst hw
    split at h
    · rename_i i a st1
      have ho := (List.forall_mem_cons.mp (List.forall_mem_cons.mp C.2.1).2).2
      split at h
      · rename_i ha
        obtain ⟨ha1, ha2⟩ := qzArr_ok ha
        split at h
        · rename_i hi
          obtain ⟨rfl, rfl, rfl, rfl⟩ := qzGo_inj h
          exact va_cald (tys := qzTys G) hx hb hK hP a 1 ((qzW_get ha1).trans (by rw [qzE5 ha2])) rfl (qzIn_ok hi) hd (kk.same C (List.forall_mem_cons.mpr ⟨trivial, ho⟩))
        · exact (qz_no h).elim
      · exact (qz_no h).elim
    · exact (qz_no h).elim
  · exact (qz_no h).elim
theorem qz_aaload (F : qzFx p G D z0 S s m args meth c mi) (C : qzCx G D z0 S s mi ad lsS H locs ls st hp) (hd : decode (qzMd mi).2.1 pc = .ok (.aaload, len)) (h : qzAald len pc ls st hp = (some (.inl (pc', ls', st', hp')) : Option qzA))
    (kk : qzKK p l e R s m args below meth c Q G D z0 S mi n0 hp.1 ad pc' ls' st' hp') : qzG p l e R s m args below meth c Q n0 pc ad lsS H locs st hp.1 := by
  obtain ⟨hx, hb, hml, hr, hown, hts, hlk, hnm, hK, hNw, hSt, hz, hmi⟩ := id F
  obtain ⟨c1, c2, c3, c4, c5, hP, hD, hS⟩ := id C
  unfold qzAald at h
  split at h
  · rename_i hw
    subst hw
    split at h
    · rename_i i a st1
      have ho := (List.forall_mem_cons.mp (List.forall_mem_cons.mp C.2.1).2).2
      split at h
      · rename_i ha
        obtain ⟨ha1, ha2⟩ := qzArr_ok ha
        split at h
        · rename_i hi
          obtain ⟨rfl, rfl, rfl, rfl⟩ := qzGo_inj h
          refine va_aldq (tys := qzTys G) hx hb hK hP a 2 ((qzW_get ha1).trans (by rw [qzE6 ha2])) rfl (qzIn_ok hi) hd ?_
          rw [← qzR_rf]
          exact kk.same C (List.forall_mem_cons.mpr ⟨qzOk.rf (fun b hb => c3 _ _ b hb), ho⟩)
        · exact (qz_no h).elim
      · exact (qz_no h).elim
    · exact (qz_no h).elim
  · exact (qz_no h).elim
theorem qz_iastore (F : qzFx p G D z0 S s m args meth c mi) (C : qzCx G D z0 S s mi ad lsS H locs ls st hp) (hd : decode (qzMd mi).2.1 pc = .ok (.iastore, len)) (h : qzIast len pc ls st hp = (some (.inl (pc', ls', st', hp')) : Option qzA))
    (kk : qzKK p l e R s m args below meth c Q G D z0 S mi n0 hp.1 ad pc' ls' st' hp') : qzG p l e R s m args below meth c Q n0 pc ad lsS H locs st hp.1 := by
  obtain ⟨hx, hb, hml, hr, hown, hts, hlk, hnm, hK, hNw, hSt, hz, hmi⟩ := id F
  obtain ⟨c1, c2, c3, c4, c5, hP, hD, hS⟩ := id C
  unfold qzIast at h
  split at h
  · rename_i hw
    subst hw
    split at h
    · rename_i x i a st1
      have ho := (List.forall_mem_cons.mp (List.forall_mem_cons.mp (List.forall_mem_cons.mp C.2.1).2).2).2
      split at h
      · rename_i ha
        obtain ⟨ha1, ha2⟩ := qzArr_ok ha
        split at h
        · rename_i hi
          obtain ⟨rfl, rfl, rfl, rfl⟩ := qzGo_inj h
          refine va_iast (tys := qzTys G) hx hb hK hP hD hS a 0 ((qzW_get ha1).trans (by rw [qzE4 ha2])) rfl (qzIn_ok hi) hd (fun H1 locs1 hP1 hD1 hS1 => ?_)
          have eW : qzW G ad (hp.1, hp.2.1, qzUp hp.2.2 a i.toNatClampNeg x) = (qzW G ad hp).set a (ad a, .inl (G.1, (qzk a).2, .inl (upd (hp.2.2 a) i.toNatClampNeg x))) :=
            qzW_set rfl (by rw [qzE4 ha2]; exact congrArg (fun q => Sum.inl (G.1, (qzk a).2, Sum.inl q)) qzUp_at) (fun j hj => qzE_num (qzUp_ne hj))
          rw [← eW] at hP1 hD1
          exact kk ad lsS H1 locs1 qzAg.rf (C.cells rfl ho c3 hP1 hD1 hS1)
        · exact (qz_no h).elim
      · exact (qz_no h).elim
    · exact (qz_no h).elim
  · exact (qz_no h).elim
theorem qz_castore (F : qzFx p G D z0 S s m args meth c mi) (C : qzCx G D z0 S s mi ad lsS H locs ls st hp) (hd : decode (qzMd mi).2.1 pc = .ok (.castore, len)) (h : qzCast len pc ls st hp = (some (.inl (pc', ls', st', hp')) : Option qzA))
    (kk : qzKK p l e R s m args below meth c Q G D z0 S mi n0 hp.1 ad pc' ls' st' hp') : qzG p l e R s m args below meth c Q n0 pc ad lsS H locs st hp.1 := by
  obtain ⟨hx, hb, hml, hr, hown, hts, hlk, hnm, hK, hNw, hSt, hz, hmi⟩ := id F
  obtain ⟨c1, c2, c3, c4, c5, hP, hD, hS⟩ := id C
  unfold qzCast at h
  split at h
  · rename_i hw
    subst hw
    split at h
    · rename_i x i a st1
      have ho := (List.forall_mem_cons.mp (List.forall_mem_cons.mp (List.forall_mem_cons.mp C.2.1).2).2).2
      split at h
      · rename_i ha
        obtain ⟨ha1, ha2⟩ := qzArr_ok ha
        split at h
        · rename_i hi
          obtain ⟨rfl, rfl, rfl, rfl⟩ := qzGo_inj h
          refine va_cast (tys := qzTys G) hx hb hK hP hD hS a 1 ((qzW_get ha1).trans (by rw [qzE5 ha2])) rfl (qzIn_ok hi) hd (fun H1 locs1 hP1 hD1 hS1 => ?_)
          have eW : qzW G ad (hp.1, hp.2.1, qzUp hp.2.2 a i.toNatClampNeg (vp_nar .char x)) = (qzW G ad hp).set a (ad a, .inl (G.2.1, (qzk a).2, .inl (upd (hp.2.2 a) i.toNatClampNeg (vp_nar .char x)))) :=
            qzW_set rfl (by rw [qzE5 ha2]; exact congrArg (fun q => Sum.inl (G.2.1, (qzk a).2, Sum.inl q)) qzUp_at) (fun j hj => qzE_num (qzUp_ne hj))
          rw [← eW] at hP1 hD1
          exact kk ad lsS H1 locs1 qzAg.rf (C.cells rfl ho c3 hP1 hD1 hS1)
        · exact (qz_no h).elim
      · exact (qz_no h).elim
    · exact (qz_no h).elim
  · exact (qz_no h).elim
theorem qzWf.up {hp : qzH} (hw : qzWf hp) {a k b : Nat} (hb : b < hp.1) : qzWf (hp.1, qzUp hp.2.1 a k (some b), hp.2.2) := by
  intro i j x hx
  simp only [qzUp] at hx
  split at hx
  · cases hx; exact hb
  · exact hw i j x hx
theorem qz_aastore (F : qzFx p G D z0 S s m args meth c mi) (C : qzCx G D z0 S s mi ad lsS H locs ls st hp) (hd : decode (qzMd mi).2.1 pc = .ok (.aastore, len)) (h : qzAast len pc ls st hp = (some (.inl (pc', ls', st', hp')) : Option qzA))
    (kk : qzKK p l e R s m args below meth c Q G D z0 S mi n0 hp.1 ad pc' ls' st' hp') : qzG p l e R s m args below meth c Q n0 pc ad lsS H locs st hp.1 := by
  obtain ⟨hx, hb, hml, hr, hown, hts, hlk, hnm, hK, hNw, hSt, hz, hmi⟩ := id F
  obtain ⟨c1, c2, c3, c4, c5, hP, hD, hS⟩ := id C
  unfold qzAast at h
  split at h
  · rename_i hw
    subst hw
    split at h
    · rename_i v i a st1
      have ho := (List.forall_mem_cons.mp (List.forall_mem_cons.mp (List.forall_mem_cons.mp C.2.1).2).2).2
      split at h
      · rename_i ha
        obtain ⟨ha1, ha2⟩ := qzArr_ok ha.1
        obtain ⟨hv1, hv2⟩ := qzArr_ok ha.2
        split at h
        · rename_i hi
          obtain ⟨rfl, rfl, rfl, rfl⟩ := qzGo_inj h
          refine va_astq (tys := qzTys G) (r := (RX0, TX0, 10)) hx hb hK hP hD hS a 2 v 0 ((qzW_get ha1).trans (by rw [qzE6 ha2])) rfl ((qzW_get hv1).trans (by rw [qzEo hv2 (by decide)])) rfl (qzIn_ok hi) hd (fun H1 locs1 hP1 hD1 hS1 => ?_)
          have eF : (fun j => (qzUp hp.2.1 a i.toNatClampNeg (some v) a j).map ad) = va_up (fun j => (hp.2.1 a j).map ad) i.toNatClampNeg (some (ad v)) := by
            funext j
            by_cases e : j = i.toNatClampNeg <;> simp [qzUp, va_up, e]
          have eW : qzW G ad (hp.1, qzUp hp.2.1 a i.toNatClampNeg (some v), hp.2.2) = (qzW G ad hp).set a (ad a, .inl (G.2.2, (qzk a).2, .inr (.inr (.inr (.inr (va_up (fun j => (hp.2.1 a j).map ad) i.toNatClampNeg (some (ad v)))))))) :=
            qzW_set rfl (by rw [qzE6 ha2, eF]) (fun j hj => qzE_ref (qzUp_ne hj))
          rw [← eW] at hP1 hD1
          exact kk ad lsS H1 locs1 qzAg.rf (C.cells rfl ho (c3.up hv1) hP1 hD1 hS1)
        · exact (qz_no h).elim
      · exact (qz_no h).elim
    · exact (qz_no h).elim
  · exact (qz_no h).elim
theorem qz_alen (F : qzFx p G D z0 S s m args meth c mi) (C : qzCx G D z0 S s mi ad lsS H locs ls st hp) (hd : decode (qzMd mi).2.1 pc = .ok (.arraylength, len)) (h : qzAlen len pc ls st hp = (some (.inl (pc', ls', st', hp')) : Option qzA))
    (kk : qzKK p l e R s m args below meth c Q G D z0 S mi n0 hp.1 ad pc' ls' st' hp') : qzG p l e R s m args below meth c Q n0 pc ad lsS H locs st hp.1 := by
  obtain ⟨hx, hb, hml, hr, hown, hts, hlk, hnm, hK, hNw, hSt, hz, hmi⟩ := id F
  obtain ⟨c1, c2, c3, c4, c5, hP, hD, hS⟩ := id C
  unfold qzAlen at h
  split at h
  · rename_i hw
    subst hw
    split at h
    · rename_i a st1
      have ho := (List.forall_mem_cons.mp C.2.1).2
      split at h
      · rename_i ha
        obtain ⟨rfl, rfl, rfl, rfl⟩ := qzGo_inj h
        rcases ha with ha | ha | ha
        · obtain ⟨ha1, ha2⟩ := qzArr_ok ha
          have he : (qzW G ad hp')[a]? = some (ad a, .inl (G.1, (qzk a).2, .inl (hp'.2.2 a))) := (qzW_get ha1).trans (by rw [qzE4 ha2])
          exact va_alen (tys := qzTys G) hx hb hK hP a 0 he rfl rfl hd (kk.same C (List.forall_mem_cons.mpr ⟨trivial, ho⟩))
        · obtain ⟨ha1, ha2⟩ := qzArr_ok ha
          have he : (qzW G ad hp')[a]? = some (ad a, .inl (G.2.1, (qzk a).2, .inl (hp'.2.2 a))) := (qzW_get ha1).trans (by rw [qzE5 ha2])
          exact va_alen (tys := qzTys G) hx hb hK hP a 1 he rfl rfl hd (kk.same C (List.forall_mem_cons.mpr ⟨trivial, ho⟩))
        · obtain ⟨ha1, ha2⟩ := qzArr_ok ha
          have he : (qzW G ad hp')[a]? = some (ad a, .inl (G.2.2, (qzk a).2, .inr (.inr (.inr (.inr (fun j => (hp'.2.1 a j).map ad)))))) := (qzW_get ha1).trans (by rw [qzE6 ha2])
          exact va_alen (tys := qzTys G) hx hb hK hP a 2 he rfl rfl hd (kk.same C (List.forall_mem_cons.mpr ⟨trivial, ho⟩))
      · split at h
        · rename_i ha
          obtain ⟨rfl, rfl, rfl, rfl⟩ := qzGo_inj h
          have hq1 : (1000 : Nat) ≤ a := ha.1
          have hq2 : (a : Nat) < 1003 := ha.2
          obtain ⟨hX, hlt⟩ := hSt.2.2.2.1 (a - 1000) (Nat.sub_lt_left_of_lt_add hq1 hq2)
          have ea := qzAd c4 ha.1
          show W p l e R s m args below meth c H locs (hp'.1 - n0) (qzSl hp'.1 - qzSl n0) Q (F0 m pc lsS (.ref (ad a) :: st1.map (qzR ad)))
          rw [ea]
          exact va_slen hx hb hX (Nat.lt_of_lt_of_le hlt hz) (fun q => Nat.lt_irrefl _ (Nat.lt_of_lt_of_le hlt q)) hS hd (kk.same C (List.forall_mem_cons.mpr ⟨trivial, ho⟩))
        · exact (qz_no h).elim
    · exact (qz_no h).elim
  · exact (qz_no h).elim
theorem qz_getfield {idx : Nat} (F : qzFx p G D z0 S s m args meth c mi) (C : qzCx G D z0 S s mi ad lsS H locs ls st hp) (hd : decode (qzMd mi).2.1 pc = .ok (.getfield idx, len)) (h : qzGetf (qzMd mi).2.2.2.2.2.2 idx len pc ls st hp = (some (.inl (pc', ls', st', hp')) : Option qzA))
    (kk : qzKK p l e R s m args below meth c Q G D z0 S mi n0 hp.1 ad pc' ls' st' hp') : qzG p l e R s m args below meth c Q n0 pc ad lsS H locs st hp.1 := by
  obtain ⟨hx, hb, hml, hr, hown, hts, hlk, hnm, hK, hNw, hSt, hz, hmi⟩ := id F
  obtain ⟨c1, c2, c3, c4, c5, hP, hD, hS⟩ := id C
  have hown' : s.vm.findClass (qzRs (qzMd mi).2.2.2.2.2.2) = some m.cls := by rw [← (qzPm_at hmi).2.2.2.2.1.2.2]; exact hown
  unfold qzGetf at h
  split at h
  · rename_i hw
    subst hw
    split at h
    · rename_i a st1
      have ho := (List.forall_mem_cons.mp C.2.1).2
      split at h
      · rename_i ci k hf
        obtain ⟨hc4, hkN, hw1⟩ := qzFs_ok _ (qzFind_in hf)
        dsimp only at hc4 hkN hw1
        split at h
        · rename_i ha
          obtain ⟨ha1, ha2⟩ := qzArr_ok ha.1
          have he : (qzW G ad hp)[a]? = some (ad a, .inr (ci, qzFs ad ci (hp.2.1 a) (hp.2.2 a))) := (qzW_get ha1).trans (by rw [qzEo ha2 hc4])
          split at h
          · rename_i hrf
            obtain ⟨rfl, rfl, rfl, rfl⟩ := qzGo_inj h
            refine va_get (tys := qzTys G) (own := qzRs (qzMd mi).2.2.2.2.2.2) (ref := (qzTs ci k).1) hx hb hts (qzU hc4) hown' hK hP a he (qzCl_at hc4) k hkN (hts _ hw1) (fun _ h9 => h9) ((qzFs_at hkN).trans (by rw [hrf])) hd ?_
            show W p l e R s m args below meth c H locs (hp'.1 - n0) (qzSl hp'.1 - qzSl n0) Q (F0 m (pc + 3) lsS (va_rf ((hp'.2.1 a k).map ad) :: st1.map (qzR ad)))
            rw [← qzR_rf]
            exact kk.same C (List.forall_mem_cons.mpr ⟨qzOk.rf (fun b hb => c3 _ _ b hb), ho⟩)
          · rename_i hrf
            obtain ⟨rfl, rfl, rfl, rfl⟩ := qzGo_inj h
            exact va_get (tys := qzTys G) (own := qzRs (qzMd mi).2.2.2.2.2.2) (ref := (qzTs ci k).1) hx hb hts (qzU hc4) hown' hK hP a he (qzCl_at hc4) k hkN (hts _ hw1) (fun _ h9 => h9) (v := .int (hp'.2.2 a k)) ((qzFs_at hkN).trans (by rw [if_neg hrf])) hd (kk.same C (List.forall_mem_cons.mpr ⟨trivial, ho⟩))
        · exact (qz_no h).elim
      · exact (qz_no h).elim
    · exact (qz_no h).elim
  · exact (qz_no h).elim
theorem qz_putfield {idx : Nat} (F : qzFx p G D z0 S s m args meth c mi) (C : qzCx G D z0 S s mi ad lsS H locs ls st hp) (hd : decode (qzMd mi).2.1 pc = .ok (.putfield idx, len)) (h : qzPutf mi (qzMd mi).2.2.2.2.2.2 idx len pc ls st hp = (some (.inl (pc', ls', st', hp')) : Option qzA))
    (kk : qzKK p l e R s m args below meth c Q G D z0 S mi n0 hp.1 ad pc' ls' st' hp') : qzG p l e R s m args below meth c Q n0 pc ad lsS H locs st hp.1 := by
  obtain ⟨hx, hb, hml, hr, hown, hts, hlk, hnm, hK, hNw, hSt, hz, hmi⟩ := id F
  obtain ⟨c1, c2, c3, c4, c5, hP, hD, hS⟩ := id C
  have hown' : s.vm.findClass (qzRs (qzMd mi).2.2.2.2.2.2) = some m.cls := by rw [← (qzPm_at hmi).2.2.2.2.1.2.2]; exact hown
  unfold qzPutf at h
  split at h
  · rename_i hw
    subst hw
    split at h
    · rename_i v a st1
      have ho := (List.forall_mem_cons.mp (List.forall_mem_cons.mp C.2.1).2).2
      split at h
      · rename_i ci k hf
        obtain ⟨hc4, hkN, hw1⟩ := qzFs_ok _ (qzFind_in hf)
        dsimp only at hc4 hkN hw1
        split at h
        · rename_i ha
          obtain ⟨ha1, ha2⟩ := qzArr_ok ha.1
          have he : (qzW G ad hp)[a]? = some (ad a, .inr (ci, qzFs ad ci (hp.2.1 a) (hp.2.2 a))) := (qzW_get ha1).trans (by rw [qzEo ha2 hc4])
          split at h
          · rename_i x
            split at h
            · exact (qz_no h).elim
            · rename_i hrf
              split at h
              · exact (qz_no h).elim
              · rename_i hfin
                split at h
                · rename_i hnf
                  obtain ⟨rfl, rfl, rfl, rfl⟩ := qzGo_inj h
                  refine va_put (tys := qzTys G) (own := qzRs (qzMd mi).2.2.2.2.2.2) (ref := (qzTs ci k).1) hx hb hts (qzU hc4) (qzTy ci) (qzTy_ok hc4) (qzNm_ok hc4) hown' hK hP hD hS a he (qzCl_at hc4) k hkN (hts _ hw1) (fun _ h9 => h9) (by simpa using hfin) (qzTy_ok hc4 k hkN) (v := .int x) hnf.1 hnf.2 (by rw [qzFs_len]; exact hkN) hd (fun H1 locs1 hP1 hD1 hS1 => ?_)
                  have eW : qzW G ad (hp.1, hp.2.1, qzUp hp.2.2 a k x) = (qzW G ad hp).set a (ad a, .inr (ci, (qzFs ad ci (hp.2.1 a) (hp.2.2 a)).set k (.int x))) :=
                    qzW_set rfl (by rw [qzEo ha2 hc4]; exact congrArg (fun q => Sum.inr (ci, q)) (qzFs_seti (by simpa using hrf) (by simp [qzUp]) (fun j hj => by simp [qzUp, hj]))) (fun j hj => qzE_num (qzUp_ne hj))
                  rw [← eW] at hP1 hD1
                  exact kk ad lsS H1 locs1 qzAg.rf (C.cells rfl ho c3 hP1 hD1 hS1)
                · exact (qz_no h).elim
          · rename_i b
            split at h
            · rename_i hcc
              obtain ⟨hrf, hfin, hkd, hco, hbn⟩ := hcc
              obtain ⟨rfl, rfl, rfl, rfl⟩ := qzGo_inj h
              obtain ⟨hin, -, -⟩ := (qzPm_at hmi).2.2.2.2.2.2.2 hkd
              refine va_putF (tys := qzTys G) (own := qzRs (qzMd mi).2.2.2.2.2.2) (ref := (qzTs ci k).1) hx hb hts (qzU hc4) (qzTy ci) (qzTy_ok hc4) (qzNm_ok hc4) hown' hK hP hD hS a he (qzCl_at hc4) k hkN (hts _ hw1) (fun _ h9 => h9) hfin (hnm.trans hin) (by rw [← hco]; exact qzOwn hc4 hkN) (qzTy_ok hc4 k hkN) (v := .ref (ad b)) (qzNar hc4 hkN hrf).1 (qzNar hc4 hkN hrf).2 (by rw [qzFs_len]; exact hkN) hd (fun H1 locs1 hP1 hD1 hS1 => ?_)
              have eW : qzW G ad (hp.1, qzUp hp.2.1 a k (some b), hp.2.2) = (qzW G ad hp).set a (ad a, .inr (ci, (qzFs ad ci (hp.2.1 a) (hp.2.2 a)).set k (.ref (ad b)))) :=
                qzW_set rfl (by rw [qzEo ha2 hc4]; exact congrArg (fun q => Sum.inr (ci, q)) (qzFs_setr hrf (by simp [qzUp]) (fun j hj => by simp [qzUp, hj]))) (fun j hj => qzE_ref (qzUp_ne hj))
              rw [← eW] at hP1 hD1
              exact kk ad lsS H1 locs1 qzAg.rf (C.cells rfl ho (c3.up hbn) hP1 hD1 hS1)
            · exact (qz_no h).elim
          · exact (qz_no h).elim
        · exact (qz_no h).elim
      · exact (qz_no h).elim
    · exact (qz_no h).elim
  · exact (qz_no h).elim
end QZ2
end
section
/-! the steps that make cells, and those of the JDK -/
theorem qzE_cong {G : qzGT} {ad : Nat → Nat} {hp hp' : qzH} {j : Nat} (e1 : hp'.2.1 j = hp.2.1 j) (e2 : hp'.2.2 j = hp.2.2 j) : qzE G ad hp' j = qzE G ad hp j := by
  unfold qzE
  simp only [e1, e2]
theorem qzSl_succ {n : Nat} (h : n < 67) : qzSl (n + 1) = qzSl n + (qzk n).2 := by
  have : ∀ n, n < 67 → qzSl (n + 1) = qzSl n + (qzk n).2 := by decide +kernel
  exact this n h
theorem qzSl_step (n : Nat) : qzSl n ≤ qzSl (n + 1) := by
  by_cases h : n < 67
  · rw [qzSl_succ h]; omega
  · have e : ∀ k, 67 ≤ k → qzSl k = qzSl 67 := by
      intro k hk
      have hl : qzK.length = 67 := by decide +kernel
      unfold qzSl
      rw [List.take_of_length_le (by omega), List.take_of_length_le (by omega)]
    rw [e n (by omega), e (n + 1) (by omega)]
    exact Nat.le_refl _
theorem qzSl_mono {a b : Nat} (h : a ≤ b) : qzSl a ≤ qzSl b := by
  obtain ⟨k, rfl⟩ := Nat.exists_eq_add_of_le h
  clear h
  induction k with
  | zero => exact Nat.le_refl _
  | succ k ih => exact Nat.le_trans ih (qzSl_step _)
theorem qzk_le {n : Nat} (h : n < 67) : (qzk n).2 ≤ 10290 := by
  have : ∀ n, n < 67 → (qzk n).2 ≤ 10290 := by decide +kernel
  exact this n h
theorem qzDef {ci j : Nat} (hc : ci < 4) (hj : j < qzNf ci) : defaultValue (qzTy ci j) = (if qzRef ci j then .null else .int 0) := by
  have : ∀ ci, ci < 4 → ∀ j, j < qzNf ci → defaultValue (qzTy ci j) = (if qzRef ci j then .null else .int 0) := by decide +kernel
  exact this ci hc j hj
/-- a new object, in the heap and in the addresses -/
def qzNu (hp : qzH) : qzH := (hp.1 + 1, qzUr hp.2.1 hp.1 (fun _ => none), qzUr hp.2.2 hp.1 (fun _ => 0))
def qzAn (ad : Nat → Nat) (n q : Nat) : Nat → Nat := fun i => if i = n then q else ad i
theorem qzAn_ag {ad : Nat → Nat} {n q : Nat} (h : n < 1000) : qzAg n ad (qzAn ad n q) := by
  intro i hi
  have : i ≠ n := by omega
  simp [qzAn, this]
theorem qzAn_at {ad : Nat → Nat} {n q : Nat} : qzAn ad n q n = q := by simp [qzAn]
theorem qzW_nu {G : qzGT} {ad : Nat → Nat} {hp : qzH} {q : Nat} {x : va_E} (hw : qzWf hp) (h : hp.1 < 1000) (hx : qzE G (qzAn ad hp.1 q) (qzNu hp) hp.1 = x) : qzW G (qzAn ad hp.1 q) (qzNu hp) = qzW G ad hp ++ [(q, x)] := by
  have := qzW_push (G := G) (ad := ad) (ad' := qzAn ad hp.1 q) (hp := hp) (hp' := qzNu hp) (x := x) rfl (fun j hj => qzAn_ag h j (Or.inl hj)) (fun j hj => by
    have e1 : (qzNu hp).2.1 j = hp.2.1 j := qzUr_ne (by omega)
    have e2 : (qzNu hp).2.2 j = hp.2.2 j := qzUr_ne (by omega)
    rw [qzE_cong e1 e2]
    exact qzE_ag (fun k a ha => hw j k a ha) (qzAn_ag h)) hx
  rw [this, qzAn_at]
theorem qzWf.nu {hp : qzH} (hw : qzWf hp) : qzWf (qzNu hp) := by
  intro i j a ha
  show a < hp.1 + 1
  by_cases h : i = hp.1
  · subst h
    have : (qzNu hp).2.1 hp.1 j = none := congrFun (qzUr_at (f := hp.2.1) (i := hp.1) (g := fun _ => none)) j
    rw [this] at ha; cases ha
  · have : (qzNu hp).2.1 i j = hp.2.1 i j := congrFun (qzUr_ne (f := hp.2.1) (g := fun _ => none) h) j
    rw [this] at ha
    exact Nat.lt_succ_of_lt (hw i j a ha)
section QZ3
variable {p : Program} {l : Launch} {e : Env} {R : Room} {s : State} {m : MethodId} {args : Array Value} {below : List Frame} {meth : Method} {c : Code} {Q : State → Prop} {G : qzGT} {D : va_G} {z0 : Nat} {S : Nat → Nat} {mi pc n0 : Nat} {ad : Nat → Nat} {lsS : Array Slot} {H : Heap} {locs : List Loc} {ls st ls' st' : List Value} {hp hp' : qzH} {pc' len : Nat}
/-- the room at a step -/
def qzRo (R : Room) (n0 n n' : Nat) : Prop := n0 ≤ n ∧ n' - n0 ≤ R.cells ∧ qzSl n' - qzSl n0 ≤ R.slots ∧ 12 ≤ R.frames ∧ 400 ≤ R.locals
theorem qzCx.nu {q : Nat} {x : va_E} {H1 : Heap} {locs1 : List Loc} (C : qzCx G D z0 S s mi ad lsS H locs ls st hp) (h : hp.1 < 67) {st1 : List Value} (hst : ∀ v ∈ st1, qzOk hp.1 v) (hx : qzE G (qzAn ad hp.1 q) (qzNu hp) hp.1 = x) (hP : va_P D vwCl (qzW G ad hp ++ [(q, x)]) H1) (hD : va_D (qzA0 z0) (qzW G ad hp ++ [(q, x)])) (hS : va_S (qzA0 z0) s.heap H1 locs1) :
    qzCx G D z0 S s mi (qzAn ad hp.1 q) lsS H1 locs1 ls (.ref hp.1 :: st1) (qzNu hp) := by
  obtain ⟨c1, c2, c3, c4, c5, hP0, hD0, hS0⟩ := C
  have hn : (qzNu hp).1 = hp.1 + 1 := rfl
  rw [← qzW_nu c3 c5 hx] at hP hD
  refine ⟨?_, ?_, c3.nu, fun i => ?_, ?_, hP, hD, hS⟩
  · rw [hn]; exact c1.ag (qzAn_ag c5) (Nat.le_succ _)
  · rw [hn]
    exact List.forall_mem_cons.mpr ⟨Or.inl (Nat.lt_succ_self _), fun v hv => (hst v hv).mono (Nat.le_succ _)⟩
  · rw [qzAn_ag c5 (1000 + i) (Or.inr (by omega))]; exact c4 i
  · rw [hn]; omega
theorem qzMap_ag2 {n : Nat} {ad ad' : Nat → Nat} (h : qzAg n ad ad') {st : List Value} (ho : ∀ v ∈ st, qzOk n v) : st.map (qzR ad') = st.map (qzR ad) :=
  List.map_congr_left (fun v hv => qzR_ag h (ho v hv))
theorem qzNewGoal {q : Nat} {x : va_E} {w : Nat} {H1 : Heap} {locs1 : List Loc} {st1 : List Value} (C : qzCx G D z0 S s mi ad lsS H locs ls st hp) (h : hp.1 < 67) (hst : ∀ v ∈ st1, qzOk hp.1 v) (hn0 : n0 ≤ hp.1) (hx : qzE G (qzAn ad hp.1 q) (qzNu hp) hp.1 = x) (hP : va_P D vwCl (qzW G ad hp ++ [(q, x)]) H1) (hD : va_D (qzA0 z0) (qzW G ad hp ++ [(q, x)])) (hS : va_S (qzA0 z0) s.heap H1 locs1)
    (kk : qzKK p l e R s m args below meth c Q G D z0 S mi n0 hp.1 ad (pc + w) ls (.ref hp.1 :: st1) (qzNu hp)) : W p l e R s m args below meth c H1 locs1 (hp.1 - n0 + 1) (qzSl hp.1 - qzSl n0 + (qzk hp.1).2) Q (F0 m (pc + w) lsS (.ref q :: st1.map (qzR ad))) := by
  have g := kk _ lsS H1 locs1 (qzAn_ag C.2.2.2.2.1) (C.nu h hst hx hP hD hS)
  have e1 : (qzNu hp).1 - n0 = hp.1 - n0 + 1 := by show hp.1 + 1 - n0 = _; omega
  have e2 : qzSl (qzNu hp).1 - qzSl n0 = qzSl hp.1 - qzSl n0 + (qzk hp.1).2 := by
    show qzSl (hp.1 + 1) - qzSl n0 = _
    have := qzSl_mono hn0
    rw [qzSl_succ h]; omega
  have e3 : (Value.ref hp.1 :: st1).map (qzR (qzAn ad hp.1 q)) = .ref q :: st1.map (qzR ad) := by
    rw [List.map_cons, qzMap_ag2 (qzAn_ag C.2.2.2.2.1) hst]
    show Value.ref (qzAn ad hp.1 q hp.1) :: _ = _
    rw [qzAn_at]
  unfold qzG at g
  rw [e1, e2, e3] at g
  exact g
theorem qz_getstatic {idx : Nat} (F : qzFx p G D z0 S s m args meth c mi) (C : qzCx G D z0 S s mi ad lsS H locs ls st hp) (hd : decode (qzMd mi).2.1 pc = .ok (.getstatic idx, len)) (h : qzGets (qzMd mi).2.2.2.2.2.2 idx len pc ls st hp = (some (.inl (pc', ls', st', hp')) : Option qzA))
    (kk : qzKK p l e R s m args below meth c Q G D z0 S mi n0 hp.1 ad pc' ls' st' hp') : qzG p l e R s m args below meth c Q n0 pc ad lsS H locs st hp.1 := by
  obtain ⟨hx, hb, hml, hr, hown, hts, hlk, hnm, hK, hNw, hSt, hz, hmi⟩ := id F
  obtain ⟨c1, c2, c3, c4, c5, hP, hD, hS⟩ := id C
  have hown' : s.vm.findClass (qzRs (qzMd mi).2.2.2.2.2.2) = some m.cls := by rw [← (qzPm_at hmi).2.2.2.2.1.2.2]; exact hown
  have ho : ∀ i, ∀ v ∈ (Value.ref (1000 + i) :: st), qzOk hp.1 v := fun i => List.forall_mem_cons.mpr ⟨Or.inr (Nat.le_add_right 1000 i), C.2.1⟩
  unfold qzGets at h
  split at h
  · rename_i hw
    subst hw
    split at h
    · rename_i hc
      obtain ⟨rfl, rfl, rfl, rfl⟩ := qzGo_inj h
      obtain ⟨h1, rfl⟩ := hc
      rw [h1] at hown'
      have g := kk.same C (ho 0)
      unfold qzG at g
      rw [List.map_cons, show qzR ad (.ref (1000 + 0)) = .ref (S 0) from congrArg Value.ref (c4 0)] at g
      exact va_gets (own := RX2) (ref := "BoltTailors") hx hb hSt.1 hS hown' (hts _ qzs_low) (fun _ h9 => h9) hd g
    · split at h
      · rename_i hc
        obtain ⟨rfl, rfl, rfl, rfl⟩ := qzGo_inj h
        obtain ⟨h1, rfl⟩ := hc
        rw [h1] at hown'
        have g := kk.same C (ho 1)
        unfold qzG at g
        rw [List.map_cons, show qzR ad (.ref (1000 + 1)) = .ref (S 1) from congrArg Value.ref (c4 1)] at g
        exact va_gets (own := RX2) (ref := "BoltTailors") hx hb hSt.2.1 hS hown' (hts _ qzs_high) (fun _ h9 => h9) hd g
      · split at h
        · rename_i hc
          obtain ⟨rfl, rfl, rfl, rfl⟩ := qzGo_inj h
          obtain ⟨h1, rfl⟩ := hc
          rw [h1] at hown'
          have g := kk.same C (ho 2)
          unfold qzG at g
          rw [List.map_cons, show qzR ad (.ref (1000 + 2)) = .ref (S 2) from congrArg Value.ref (c4 2)] at g
          exact va_getsN (own := RX0) (ref := "BoltTailors") hx hb hSt.2.2.1 hS hown' (va_Nw.use rfl hNw.2.1) (fun _ h9 => h9) hd g
        · exact (qz_no h).elim
  · exact (qz_no h).elim
theorem qz_ldc {idx : Nat} (F : qzFx p G D z0 S s m args meth c mi) (C : qzCx G D z0 S s mi ad lsS H locs ls st hp) (hd : decode (qzMd mi).2.1 pc = .ok (.ldc idx, len)) (h : qzLdc (qzMd mi).2.2.2.2.2.2 idx len pc ls st hp = (some (.inl (pc', ls', st', hp')) : Option qzA))
    (kk : qzKK p l e R s m args below meth c Q G D z0 S mi n0 hp.1 ad pc' ls' st' hp') : qzG p l e R s m args below meth c Q n0 pc ad lsS H locs st hp.1 := by
  obtain ⟨hx, hb, hml, hr, hown, hts, hlk, hnm, hK, hNw, hSt, hz, hmi⟩ := id F
  obtain ⟨c1, c2, c3, c4, c5, hP, hD, hS⟩ := id C
  have hown' : s.vm.findClass (qzRs (qzMd mi).2.2.2.2.2.2) = some m.cls := by rw [← (qzPm_at hmi).2.2.2.2.1.2.2]; exact hown
  unfold qzLdc at h
  split at h
  · rename_i hw
    subst hw
    split at h
    · rename_i hc
      obtain ⟨rfl, rfl, rfl, rfl⟩ := qzGo_inj h
      rcases hc with ⟨h1, rfl⟩ | ⟨h1, rfl⟩
      · rw [h1] at hown'
        exact lv_ldc (own := RX1) hx hb hown' (hts _ qzs_c1) hd (kk.same C (List.forall_mem_cons.mpr ⟨trivial, C.2.1⟩))
      · rw [h1] at hown'
        exact lv_ldc (own := RX2) hx hb hown' (hts _ qzs_c2) hd (kk.same C (List.forall_mem_cons.mpr ⟨trivial, C.2.1⟩))
    · split at h
      · rename_i hc
        obtain ⟨rfl, rfl, rfl, rfl⟩ := qzGo_inj h
        obtain ⟨h1, rfl⟩ := hc
        rw [h1] at hown'
        have g := kk.same C (st' := .ref (1000 + 3) :: st) (List.forall_mem_cons.mpr ⟨Or.inr (Nat.le_add_right 1000 3), C.2.1⟩)
        unfold qzG at g
        rw [List.map_cons, show qzR ad (.ref (1000 + 3)) = .ref (S 3) from congrArg Value.ref (c4 3)] at g
        exact va_ldcS (own := RX0) hx hb hown' hSt.2.2.2.2.1 hd g
      · exact (qz_no h).elim
  · exact (qz_no h).elim
theorem qz_new {idx : Nat} (F : qzFx p G D z0 S s m args meth c mi) (C : qzCx G D z0 S s mi ad lsS H locs ls st hp) (hd : decode (qzMd mi).2.1 pc = .ok (.new idx, len)) (h : qzNew (qzMd mi).2.2.2.2.2.2 idx len pc ls st hp = (some (.inl (pc', ls', st', hp')) : Option qzA)) (hR : qzRo R n0 hp.1 hp'.1)
    (kk : qzKK p l e R s m args below meth c Q G D z0 S mi n0 hp.1 ad pc' ls' st' hp') : qzG p l e R s m args below meth c Q n0 pc ad lsS H locs st hp.1 := by
  obtain ⟨hx, hb, hml, hr, hown, hts, hlk, hnm, hK, hNw, hSt, hz, hmi⟩ := id F
  obtain ⟨c1, c2, c3, c4, c5, hP, hD, hS⟩ := id C
  have hown' : s.vm.findClass (qzRs (qzMd mi).2.2.2.2.2.2) = some m.cls := by rw [← (qzPm_at hmi).2.2.2.2.1.2.2]; exact hown
  have hA : ∀ q, s.heap.size ≤ q → qzA0 z0 q := fun q hq => Nat.le_trans hz hq
  unfold qzNew at h
  split at h
  · rename_i hw
    subst hw
    split at h
    · rename_i ci hci
      split at h
      · rename_i hk
        obtain ⟨rfl, rfl, rfl, rfl⟩ := qzGo_inj h
        obtain ⟨hk1, hk2⟩ := hk
        obtain ⟨r0, r1, r2, -, -⟩ := hR
        have es := qzSl_succ hk2
        have em := qzSl_mono r0
        have hkk : (qzk hp.1).2 = qzNf ci := by rw [hk1]
        dsimp only at r1 r2
        have key : ∀ (hc : ci < 4) (_ : (Cond.classLink (qzRs 2) idx (qzRs ci)).before args s = true) (_ : (Cond.instantiable (qzRs ci) (qzNf ci)).before args s = true) (_ : (Cond.initialized (qzRs ci)).before args s = true) (_ : s.vm.findClass (qzRs 2) = some m.cls), qzG p l e R s m args below meth c Q n0 pc ad lsS H locs st hp.1 := by
          intro hc w1 w2 w3 w4
          refine va_new (tys := qzTys G) (own := qzRs 2) (C := qzRs ci) (T := qzTs ci) (N := qzNf ci) (ci := ci) (fs := qzFs ad ci (fun _ => none) (fun _ => 0)) hx hb hts (qzU hc) (qzTy ci) (qzTy_ok hc) w4 w1 w2 w3 hK hP hD hS hA (qzCl_at hc) ?_ (by omega) (by omega) hd (fun q H1 hP1 hD1 hS1 => ?_)
          · intro j hj
            unfold vp_V
            rw [List.getD_eq_getElem?_getD, qzFs_at hj, qzDef hc hj]
            rfl
          · rw [← hkk]
            exact qzNewGoal C hk2 C.2.1 r0 (by rw [qzEo (by rw [hk1]) hc]; exact congrArg (fun q => Sum.inr (ci, q)) (by rw [show (qzNu hp).2.1 hp.1 = fun _ => none from qzUr_at, show (qzNu hp).2.2 hp.1 = fun _ => 0 from qzUr_at]; rfl)) hP1 hD1 hS1 kk
        split at hci
        · rename_i ho
          cases hci
          obtain ⟨ho1, rfl⟩ := ho
          rw [ho1] at hown'
          exact key (by decide) (hts _ qzs_n0) (hts _ qzs_i0) (hts _ qzi_RX0) hown'
        · split at hci
          · rename_i ho
            cases hci
            obtain ⟨ho1, rfl⟩ := ho
            rw [ho1] at hown'
            exact key (by decide) (hts _ qzs_n1) (hts _ qzs_i1) (hts _ qzi_RX1) hown'
          · cases hci
      · exact (qz_no h).elim
    · exact (qz_no h).elim
  · exact (qz_no h).elim
theorem qzNewa_inv {kd w : Nat} (h : qzNewa kd len w pc ls st hp = (some (.inl (pc', ls', st', hp')) : Option qzA)) : len = w ∧ ∃ x st1, st = .int x :: st1 ∧ ¬ x < 0 ∧ qzk hp.1 = (kd, x.toNatClampNeg) ∧ hp.1 < 67 ∧ pc' = pc + w ∧ ls' = ls ∧ st' = .ref hp.1 :: st1 ∧ hp' = qzNu hp := by
  unfold qzNewa at h
  split at h
  · rename_i hw
    split at h
    · split at h
      · exact (qz_no h).elim
      · rename_i hneg
        split at h
        · rename_i hk
          exact ⟨hw, _, _, rfl, hneg, hk.1, hk.2, qzGo_inj h⟩
        · exact (qz_no h).elim
    · exact (qz_no h).elim
  · exact (qz_no h).elim
theorem qz_newarrayI (F : qzFx p G D z0 S s m args meth c mi) (C : qzCx G D z0 S s mi ad lsS H locs ls st hp) (hd : decode (qzMd mi).2.1 pc = .ok (.newarray .int, len)) (h : qzNewa 4 len 2 pc ls st hp = (some (.inl (pc', ls', st', hp')) : Option qzA)) (hR : qzRo R n0 hp.1 hp'.1)
    (kk : qzKK p l e R s m args below meth c Q G D z0 S mi n0 hp.1 ad pc' ls' st' hp') : qzG p l e R s m args below meth c Q n0 pc ad lsS H locs st hp.1 := by
  obtain ⟨hx, hb, hml, hr, hown, hts, hlk, hnm, hK, hNw, hSt, hz, hmi⟩ := id F
  obtain ⟨c1, c2, c3, c4, c5, hP, hD, hS⟩ := id C
  have hA : ∀ q, s.heap.size ≤ q → qzA0 z0 q := fun q hq => Nat.le_trans hz hq
  obtain ⟨rfl, x, st1, rfl, hneg, hk1, hk2, rfl, rfl, rfl, rfl⟩ := qzNewa_inv h
  obtain ⟨r0, r1, r2, -, -⟩ := hR
  have es := qzSl_succ hk2
  have em := qzSl_mono r0
  have hle := qzk_le hk2
  have hkk : (qzk hp.1).2 = x.toNatClampNeg := by rw [hk1]
  have ho := (List.forall_mem_cons.mp C.2.1).2
  change hp.1 + 1 - n0 ≤ R.cells at r1
  change qzSl (hp.1 + 1) - qzSl n0 ≤ R.slots at r2
  refine va_newa (atype := .int) (ty := .int) (a0 := ((qzk hp.1).2, .inl (fun _ => 0))) hx hb (hts _ qzs_aI) rfl hK hP hD hS hA (fun _ => rfl) hneg hkk.symm (by show (qzk hp.1).2 * 4 ≤ 536870912; omega) (by omega) (by omega) hd (fun q cA H1 hK1 hP1 hD1 hS1 => ?_)
  have ec : cA = G.1 := Option.some.inj (((hK1.2 3 (cA, .int) rfl).2 : s.vm.findClass _ = some cA).symm.trans ((hK.2 0 (G.1, .int) rfl).2 : s.vm.findClass _ = some G.1))
  subst ec
  exact qzNewGoal C hk2 ho r0 (by rw [qzE4 (by rw [hk1])]; rw [show (qzNu hp).2.2 hp.1 = fun _ => 0 from qzUr_at]) hP1 hD1 hS1 kk
theorem qz_newarrayC (F : qzFx p G D z0 S s m args meth c mi) (C : qzCx G D z0 S s mi ad lsS H locs ls st hp) (hd : decode (qzMd mi).2.1 pc = .ok (.newarray .char, len)) (h : qzNewa 5 len 2 pc ls st hp = (some (.inl (pc', ls', st', hp')) : Option qzA)) (hR : qzRo R n0 hp.1 hp'.1)
    (kk : qzKK p l e R s m args below meth c Q G D z0 S mi n0 hp.1 ad pc' ls' st' hp') : qzG p l e R s m args below meth c Q n0 pc ad lsS H locs st hp.1 := by
  obtain ⟨hx, hb, hml, hr, hown, hts, hlk, hnm, hK, hNw, hSt, hz, hmi⟩ := id F
  obtain ⟨c1, c2, c3, c4, c5, hP, hD, hS⟩ := id C
  have hA : ∀ q, s.heap.size ≤ q → qzA0 z0 q := fun q hq => Nat.le_trans hz hq
  obtain ⟨rfl, x, st1, rfl, hneg, hk1, hk2, rfl, rfl, rfl, rfl⟩ := qzNewa_inv h
  obtain ⟨r0, r1, r2, -, -⟩ := hR
  have es := qzSl_succ hk2
  have em := qzSl_mono r0
  have hle := qzk_le hk2
  have hkk : (qzk hp.1).2 = x.toNatClampNeg := by rw [hk1]
  have ho := (List.forall_mem_cons.mp C.2.1).2
  change hp.1 + 1 - n0 ≤ R.cells at r1
  change qzSl (hp.1 + 1) - qzSl n0 ≤ R.slots at r2
  refine va_newa (atype := .char) (ty := .char) (a0 := ((qzk hp.1).2, .inl (fun _ => 0))) hx hb (hts _ qzs_aC) rfl hK hP hD hS hA (fun _ => rfl) hneg hkk.symm (by show (qzk hp.1).2 * 2 ≤ 536870912; omega) (by omega) (by omega) hd (fun q cA H1 hK1 hP1 hD1 hS1 => ?_)
  have ec : cA = G.2.1 := Option.some.inj (((hK1.2 3 (cA, .char) rfl).2 : s.vm.findClass _ = some cA).symm.trans ((hK.2 1 (G.2.1, .char) rfl).2 : s.vm.findClass _ = some G.2.1))
  subst ec
  exact qzNewGoal C hk2 ho r0 (by rw [qzE5 (by rw [hk1])]; rw [show (qzNu hp).2.2 hp.1 = fun _ => 0 from qzUr_at]) hP1 hD1 hS1 kk
theorem qz_anewarray {idx : Nat} (F : qzFx p G D z0 S s m args meth c mi) (C : qzCx G D z0 S s mi ad lsS H locs ls st hp) (hd : decode (qzMd mi).2.1 pc = .ok (.anewarray idx, len)) (h : (if (qzMd mi).2.2.2.2.2.2 = 2 ∧ idx = 7 then qzNewa 6 len 3 pc ls st hp else none) = (some (.inl (pc', ls', st', hp')) : Option qzA)) (hR : qzRo R n0 hp.1 hp'.1)
    (kk : qzKK p l e R s m args below meth c Q G D z0 S mi n0 hp.1 ad pc' ls' st' hp') : qzG p l e R s m args below meth c Q n0 pc ad lsS H locs st hp.1 := by
  obtain ⟨hx, hb, hml, hr, hown, hts, hlk, hnm, hK, hNw, hSt, hz, hmi⟩ := id F
  obtain ⟨c1, c2, c3, c4, c5, hP, hD, hS⟩ := id C
  have hown' : s.vm.findClass (qzRs (qzMd mi).2.2.2.2.2.2) = some m.cls := by rw [← (qzPm_at hmi).2.2.2.2.1.2.2]; exact hown
  have hA : ∀ q, s.heap.size ≤ q → qzA0 z0 q := fun q hq => Nat.le_trans hz hq
  split at h
  · rename_i hoc
    obtain ⟨ho1, rfl⟩ := hoc
    rw [ho1] at hown'
    obtain ⟨rfl, x, st1, rfl, hneg, hk1, hk2, rfl, rfl, rfl, rfl⟩ := qzNewa_inv h
    obtain ⟨r0, r1, r2, -, -⟩ := hR
    have es := qzSl_succ hk2
    have em := qzSl_mono r0
    have hle := qzk_le hk2
    have hkk : (qzk hp.1).2 = x.toNatClampNeg := by rw [hk1]
    have ho := (List.forall_mem_cons.mp C.2.1).2
    change hp.1 + 1 - n0 ≤ R.cells at r1
    change qzSl (hp.1 + 1) - qzSl n0 ≤ R.slots at r2
    refine va_newq (own := RX2) (C := RX0) (N' := (qzk hp.1).2) hx hb hown' (hts _ qzs_n0) hNw.2.2 hK hP hD hS hA hneg hkk.symm (by omega) (by omega) (by omega) hd (fun q cA H1 hK1 hP1 hD1 hS1 => ?_)
    obtain ⟨kA, comp, -, -, -, e1⟩ := ((hK1.2 3 (cA, .object RX0) rfl).2 : ∃ (kA : Class) (comp : ClassId), _)
    obtain ⟨kA', comp', -, -, -, e2⟩ := ((hK.2 2 (G.2.2, .object RX0) rfl).2 : ∃ (kA : Class) (comp : ClassId), _)
    have ec : cA = G.2.2 := Option.some.inj (e1.symm.trans e2)
    subst ec
    exact qzNewGoal C hk2 ho r0 (by rw [qzE6 (by rw [hk1])]; rw [show (qzNu hp).2.1 hp.1 = fun _ => none from qzUr_at]; rfl) hP1 hD1 hS1 kk
  · exact (qz_no h).elim
/-- the texts' length and signs: what is owed of the JDK's two methods -/
def qzRm (d mc ms : Nat) : Room := { frames := d + 12, cells := mc, slots := ms, locals := 400 + 100 * d }
def qzTp (z0 : Nat) (S : Nat → Nat) (U : State) : Prop := qzSt z0 S U U.heap ∧ z0 ≤ U.heap.size
def qzRt : Room := { frames := 8, cells := 0, slots := 0, locals := 300 }
def qzTx (l : Launch) : Prop := ∀ (z0 : Nat) (S : Nat → Nat),
  Met l yJ0_length_8abf5 (Cond.code yJ0_length_8abf5 cJ0_length_8abf5 1 (some .int) :: qzWs) qzRt (va_Pc [.ref (S 3)] (qzTp z0 S)) (va_Qi (fun (r : Int32) (_ : Unit) => r = 12) (fun _ _ => True) (fun _ => False)) 0 0 (fun _ => False) ∧
  ∀ k : Int32, qzIn k 12 = true → Met l yJ0_charAt_5068e (Cond.code yJ0_charAt_5068e cJ0_charAt_5068e 2 (some .char) :: qzWs) qzRt (va_Pc [.ref (S 3), .int k] (qzTp z0 S)) (va_Qi (fun (r : Int32) (_ : Unit) => r = qzCh k.toNatClampNeg) (fun _ _ => True) (fun _ => False)) 0 0 (fun _ => False)
theorem qzSt.now {z0 : Nat} {S : Nat → Nat} {s U : State} {H : Heap} {locs : List Loc} (h : qzSt z0 S s s.heap) (hz : z0 ≤ s.heap.size) (hS : va_S (qzA0 z0) s.heap H locs) (hU : U.heap = H) (hW : s.WarmedH U.vm) : qzSt z0 S U U.heap := by
  rw [hU]
  exact (h.kept hz hS.2.1).warm hW
theorem qz_min {idx : Nat} {own : String} {x y : Int32} {st1 : List Value} (F : qzFx p G D z0 S s m args meth c mi) (C : qzCx G D z0 S s mi ad lsS H locs ls (.int y :: .int x :: st1) hp) (hd : decode (qzMd mi).2.1 pc = .ok (.invokestatic idx, 3)) (hown : s.vm.findClass own = some m.cls) (hl : Cond.methodLink own idx Lib.Math.min.name ∈ qzWs) (h8 : st1.length ≤ 8) (hR : qzRo R n0 hp.1 hp.1)
    (kk : qzKK p l e R s m args below meth c Q G D z0 S mi n0 hp.1 ad (pc + 3) ls (.int (if y < x then y else x) :: st1) hp) : qzG p l e R s m args below meth c Q n0 pc ad lsS H locs (.int y :: .int x :: st1) hp.1 := by
  obtain ⟨hx, hb, hml, hr, -, hts, hlk, hnm, hK, hNw, hSt, hz, hmi⟩ := id F
  have ho := (List.forall_mem_cons.mp (List.forall_mem_cons.mp C.2.1).2).2
  have hsum := qzOk.sum (ad := ad) ho
  obtain ⟨r0, r1, r2, r3, r4⟩ := hR
  exact va_mmin (rest := st1.map (qzR ad)) hx hb (hml.trans C.1.size.symm) hown (hts _ hl) (hts _ qzs_min_s) (hts _ qzs_mth) (hts _ qzs_min_c) (by omega) (by rw [hsum]; omega) r1 r2 hd (kk.same C (List.forall_mem_cons.mpr ⟨trivial, ho⟩))
theorem qz_max {idx : Nat} {own : String} {x y : Int32} {st1 : List Value} (F : qzFx p G D z0 S s m args meth c mi) (C : qzCx G D z0 S s mi ad lsS H locs ls (.int y :: .int x :: st1) hp) (hd : decode (qzMd mi).2.1 pc = .ok (.invokestatic idx, 3)) (hown : s.vm.findClass own = some m.cls) (hl : Cond.methodLink own idx Lib.Math.max.name ∈ qzWs) (h8 : st1.length ≤ 8) (hR : qzRo R n0 hp.1 hp.1)
    (kk : qzKK p l e R s m args below meth c Q G D z0 S mi n0 hp.1 ad (pc + 3) ls (.int (if x < y then y else x) :: st1) hp) : qzG p l e R s m args below meth c Q n0 pc ad lsS H locs (.int y :: .int x :: st1) hp.1 := by
  obtain ⟨hx, hb, hml, hr, -, hts, hlk, hnm, hK, hNw, hSt, hz, hmi⟩ := id F
  have ho := (List.forall_mem_cons.mp (List.forall_mem_cons.mp C.2.1).2).2
  have hsum := qzOk.sum (ad := ad) ho
  obtain ⟨r0, r1, r2, r3, r4⟩ := hR
  exact va_mmax (rest := st1.map (qzR ad)) hx hb (hml.trans C.1.size.symm) hown (hts _ hl) (hts _ qzs_max_s) (hts _ qzs_mth) (hts _ qzs_max_c) (by omega) (by rw [hsum]; omega) r1 r2 hd (kk.same C (List.forall_mem_cons.mpr ⟨trivial, ho⟩))
theorem qz_copy {idx a b : Nat} {own : String} {n dp sp : Int32} {st1 : List Value} (F : qzFx p G D z0 S s m args meth c mi) (C : qzCx G D z0 S s mi ad lsS H locs ls (.int n :: .int dp :: .ref a :: .int sp :: .ref b :: st1) hp) (hd : decode (qzMd mi).2.1 pc = .ok (.invokestatic idx, 3)) (hown : s.vm.findClass own = some m.cls) (hl : Cond.methodLink own idx arraycopyName ∈ qzWs)
    (hc : qzArr 4 a hp.1 = true ∧ qzArr 4 b hp.1 = true ∧ ¬ sp < 0 ∧ ¬ dp < 0 ∧ ¬ n < 0 ∧ sp.toNatClampNeg + n.toNatClampNeg ≤ (qzk b).2 ∧ dp.toNatClampNeg + n.toNatClampNeg ≤ (qzk a).2 ∧ st1.length ≤ 8) (hR : qzRo R n0 hp.1 hp.1)
    (kk : qzKK p l e R s m args below meth c Q G D z0 S mi n0 hp.1 ad (pc + 3) ls st1 (hp.1, hp.2.1, qzUr hp.2.2 a (va_cpy (hp.2.2 b) (hp.2.2 a) sp.toNatClampNeg dp.toNatClampNeg n.toNatClampNeg))) : qzG p l e R s m args below meth c Q n0 pc ad lsS H locs (.int n :: .int dp :: .ref a :: .int sp :: .ref b :: st1) hp.1 := by
  obtain ⟨hx, hb, hml, hr, -, hts, hlk, hnm, hK, hNw, hSt, hz, hmi⟩ := id F
  obtain ⟨c1, c2, c3, c4, c5, hP, hD, hS⟩ := id C
  have ho : ∀ v ∈ st1, qzOk hp.1 v := fun v hv => C.2.1 v (by simp [hv])
  have hsum := qzOk.sum (ad := ad) ho
  obtain ⟨r0, r1, r2, r3, r4⟩ := hR
  obtain ⟨ha, hb', g1, g2, g3, g4, g5, g6⟩ := hc
  obtain ⟨ha1, ha2⟩ := qzArr_ok ha
  obtain ⟨hb1, hb2⟩ := qzArr_ok hb'
  refine va_copyi (tys := qzTys G) (rest := st1.map (qzR ad)) (ty := .int) hx hb (hml.trans C.1.size.symm) hown (hts _ hl) (hts _ qzs_acn) (hts _ qzs_acs) (hts _ qzs_aci) hK hP hD hS b a 0 0 ((qzW_get hb1).trans (by rw [qzE4 hb2])) ((qzW_get ha1).trans (by rw [qzE4 ha2])) rfl rfl rfl g1 g2 g3 g4 g5 (fun _ _ => rfl) (by omega) (by rw [hsum]; show st1.length + 18 ≤ R.locals; omega) hd (fun H1 locs1 hP1 hD1 hS1 => ?_)
  have eW : qzW G ad (hp.1, hp.2.1, qzUr hp.2.2 a (va_cpy (hp.2.2 b) (hp.2.2 a) sp.toNatClampNeg dp.toNatClampNeg n.toNatClampNeg)) = (qzW G ad hp).set a (ad a, .inl (G.1, (qzk a).2, .inl (va_cpy (hp.2.2 b) (hp.2.2 a) sp.toNatClampNeg dp.toNatClampNeg n.toNatClampNeg))) :=
    qzW_set rfl (by rw [qzE4 ha2]; exact congrArg (fun q => Sum.inl (G.1, (qzk a).2, Sum.inl q)) qzUr_at) (fun j hj => qzE_num (qzUr_ne hj))
  rw [← eW] at hP1 hD1
  exact kk ad lsS H1 locs1 qzAg.rf (C.cells rfl ho c3 hP1 hD1 hS1)
theorem qz_objinit {idx a : Nat} {own : String} {st1 : List Value} (F : qzFx p G D z0 S s m args meth c mi) (C : qzCx G D z0 S s mi ad lsS H locs ls (.ref a :: st1) hp) (hd : decode (qzMd mi).2.1 pc = .ok (.invokespecial idx, 3)) (hown : s.vm.findClass own = some m.cls) (hl : Cond.methodLink own idx objectInit ∈ qzWs) (h8 : st1.length ≤ 8) (hR : qzRo R n0 hp.1 hp.1)
    (kk : qzKK p l e R s m args below meth c Q G D z0 S mi n0 hp.1 ad (pc + 3) ls st1 hp) : qzG p l e R s m args below meth c Q n0 pc ad lsS H locs (.ref a :: st1) hp.1 := by
  obtain ⟨hx, hb, hml, hr, -, hts, hlk, hnm, hK, hNw, hSt, hz, hmi⟩ := id F
  have ho := (List.forall_mem_cons.mp C.2.1).2
  have hsum := qzOk.sum (ad := ad) ho
  obtain ⟨r0, r1, r2, r3, r4⟩ := hR
  refine W.objInit (rest := st1.map (qzR ad)) hx hb hown (hts _ hl) (hts _ qzs_oii) (hts _ qzs_oic) rfl (C.1.size.trans hml.symm) rfl hd (by omega) (by rw [hsum]; show 2 * 0 + st1.length + 12 ≤ R.locals; omega) ?_
  exact W.eq (g2 := F0 m (pc + 3) lsS (st1.map (qzR ad))) rfl (kk.same C ho)
theorem qz_stat {idx : Nat} (F : qzFx p G D z0 S s m args meth c mi) (C : qzCx G D z0 S s mi ad lsS H locs ls st hp) (hd : decode (qzMd mi).2.1 pc = .ok (.invokestatic idx, len)) (h : qzStat (qzMd mi).2.2.2.2.2.2 idx len pc ls st hp = (some (.inl (pc', ls', st', hp')) : Option qzA)) (hR : qzRo R n0 hp.1 hp'.1)
    (kk : qzKK p l e R s m args below meth c Q G D z0 S mi n0 hp.1 ad pc' ls' st' hp') : qzG p l e R s m args below meth c Q n0 pc ad lsS H locs st hp.1 := by
  have hown' : s.vm.findClass (qzRs (qzMd mi).2.2.2.2.2.2) = some m.cls := by rw [← (qzPm_at F.2.2.2.2.2.2.2.2.2.2.2.2).2.2.2.2.1.2.2]; exact F.2.2.2.2.1
  unfold qzStat at h
  split at h
  · rename_i hc
    split at h
    · rename_i hw
      subst hw
      split at h
      · split at h
        · rename_i h8
          obtain ⟨rfl, rfl, rfl, rfl⟩ := qzGo_inj h
          rcases hc with ⟨h1, rfl⟩ | ⟨h1, rfl⟩
          · rw [h1] at hown'
            exact qz_min F C hd hown' qzs_mi0 h8 hR kk
          · rw [h1] at hown'
            exact qz_min F C hd hown' qzs_mi2 h8 hR kk
        · exact (qz_no h).elim
      · exact (qz_no h).elim
    · exact (qz_no h).elim
  · split at h
    · rename_i hc
      split at h
      · rename_i hw
        subst hw
        split at h
        · split at h
          · rename_i h8
            obtain ⟨rfl, rfl, rfl, rfl⟩ := qzGo_inj h
            obtain ⟨h1, rfl⟩ := hc
            rw [h1] at hown'
            exact qz_max F C hd hown' qzs_ma2 h8 hR kk
          · exact (qz_no h).elim
        · exact (qz_no h).elim
      · exact (qz_no h).elim
    · split at h
      · rename_i hc
        split at h
        · rename_i hw
          subst hw
          split at h
          · split at h
            · rename_i h8
              obtain ⟨rfl, rfl, rfl, rfl⟩ := qzGo_inj h
              rcases hc with ⟨h1, rfl⟩ | ⟨h1, rfl⟩
              · rw [h1] at hown'
                exact qz_copy F C hd hown' qzs_ac0 h8 hR kk
              · rw [h1] at hown'
                exact qz_copy F C hd hown' qzs_ac1 h8 hR kk
            · exact (qz_no h).elim
          · exact (qz_no h).elim
        · exact (qz_no h).elim
      · unfold qzCall at h
        repeat' split at h
        all_goals cases h
theorem qz_spec {idx : Nat} (F : qzFx p G D z0 S s m args meth c mi) (C : qzCx G D z0 S s mi ad lsS H locs ls st hp) (hd : decode (qzMd mi).2.1 pc = .ok (.invokespecial idx, len)) (h : qzSpec (qzMd mi).2.2.2.2.2.2 idx len pc ls st hp = (some (.inl (pc', ls', st', hp')) : Option qzA)) (hR : qzRo R n0 hp.1 hp'.1)
    (kk : qzKK p l e R s m args below meth c Q G D z0 S mi n0 hp.1 ad pc' ls' st' hp') : qzG p l e R s m args below meth c Q n0 pc ad lsS H locs st hp.1 := by
  have hown' : s.vm.findClass (qzRs (qzMd mi).2.2.2.2.2.2) = some m.cls := by rw [← (qzPm_at F.2.2.2.2.2.2.2.2.2.2.2.2).2.2.2.2.1.2.2]; exact F.2.2.2.2.1
  unfold qzSpec at h
  split at h
  · rename_i hc
    split at h
    · rename_i hw
      subst hw
      split at h
      · split at h
        · rename_i h8
          obtain ⟨rfl, rfl, rfl, rfl⟩ := qzGo_inj h
          rcases hc with ⟨h1, rfl⟩ | ⟨h1, rfl⟩ | ⟨h1, rfl⟩ | ⟨h1, rfl⟩
          · rw [h1] at hown'
            exact qz_objinit F C hd hown' qzs_oi0 h8 hR kk
          · rw [h1] at hown'
            exact qz_objinit F C hd hown' qzs_oi1 h8 hR kk
          · rw [h1] at hown'
            exact qz_objinit F C hd hown' qzs_oi2 h8 hR kk
          · rw [h1] at hown'
            exact qz_objinit F C hd hown' qzs_oi3 h8 hR kk
        · exact (qz_no h).elim
      · exact (qz_no h).elim
    · exact (qz_no h).elim
  · unfold qzCall at h
    repeat' split at h
    all_goals cases h
end QZ3
end
section
/-! a call: the callee's contract, out of its run -/
def qzPre (G : qzGT) (D : va_G) (z0 : Nat) (S : Nat → Nat) (ad : Nat → Nat) (hp : qzH) (U : State) : Prop := z0 ≤ U.heap.size ∧ va_P D vwCl (qzW G ad hp) U.heap ∧ va_K D vwCl (qzTys G) U ∧ va_D (qzA0 z0) (qzW G ad hp) ∧ qzNw U ∧ qzSt z0 S U U.heap
/-- what holds of the heap behind a run -/
def qzEnd (G : qzGT) (D : va_G) (z0 : Nat) (S : Nat → Nat) (ad : Nat → Nat) (n : Nat) (v : Option Value) (hp1 : qzH) (ad' : Nat → Nat) (H : Heap) : Prop :=
  qzAg n ad ad' ∧ (∀ i, ad' (1000 + i) = S i) ∧ qzWf hp1 ∧ hp1.1 < 1000 ∧ (∀ w, v = some w → qzOk hp1.1 w) ∧ va_P D vwCl (qzW G ad' hp1) H ∧ va_D (qzA0 z0) (qzW G ad' hp1)
def qzPost (G : qzGT) (D : va_G) (z0 : Nat) (S : Nat → Nat) (ad : Nat → Nat) (n : Nat) (v : Option Value) (hp1 : qzH) : Array Value → State → Outcome → State → Prop := fun _ st oc t =>
  (∃ ad', oc = .returned (v.map (qzR ad')) ∧ qzEnd G D z0 S ad n v hp1 ad' t.heap) ∧ va_F (qzA0 z0) st t
theorem qzBlind {G : qzGT} {D : va_G} {z0 : Nat} {S : Nat → Nat} {ad : Nat → Nat} {hp : qzH} {av : List Value} : FrameBlind (va_Pc av (qzPre G D z0 S ad hp)) := by
  intro a U g mk q
  obtain ⟨q0, z, hP, hK, hD, hN, hS⟩ := q
  exact ⟨q0, z, hP, va_K.moved (u := U) (U := U.calling g mk a) (Vm.Alike.refl U.vm) hK, hD, qzNw.same (s := U) (U := U.calling g mk a) rfl hN, qzSt.same (s := U) (U := U.calling g mk a) rfl hS⟩
section QZ4
variable {p : Program} {l : Launch} {e : Env} {R : Room} {s : State} {m : MethodId} {args : Array Value} {below : List Frame} {meth : Method} {c : Code} {Q : State → Prop} {G : qzGT} {D : va_G} {z0 : Nat} {S : Nat → Nat} {mi pc n0 : Nat} {ad : Nat → Nat} {lsS : Array Slot} {H : Heap} {locs : List Loc} {ls st ls' st' : List Value} {hp hp' : qzH} {pc' len : Nat}
theorem qzPre.of {U : State} (F : qzFx p G D z0 S s m args meth c mi) (C : qzCx G D z0 S s mi ad lsS H locs ls st hp) (hU : U.heap = H) (hW : s.WarmedH U.vm) : qzPre G D z0 S ad hp U := by
  obtain ⟨hx, hb, hml, hr, hown, hts, hlk, hnm, hK, hNw, hSt, hz, hmi⟩ := id F
  obtain ⟨c1, c2, c3, c4, c5, hP, hD, hS⟩ := id C
  exact ⟨by rw [hU]; exact Nat.le_trans hz hS.1, by rw [hU]; exact hP, va_K.moved hW.alike hK, hD, hNw.warm hW, hSt.now hz hS hU hW⟩
theorem qz_run {cells slots mc ms n : Nat} {v : Option Value} {hp1 : qzH} {st0 rst : List Value} {aa : Array Value} (hr : va_Run p l e R s m args below meth c H locs cells slots mc ms (F0 m pc lsS st0) rst (qzPost G D z0 S ad n v hp1 aa) (qzA0 z0)) (hS : va_S (qzA0 z0) s.heap H locs)
    (kk : ∀ (ad' : Nat → Nat) (H1 : Heap) (locs1 : List Loc), qzEnd G D z0 S ad n v hp1 ad' H1 → va_S (qzA0 z0) s.heap H1 locs1 → W p l e R s m args below meth c H1 locs1 (cells + mc) (slots + ms) Q (F0 m (pc + 3) lsS ((v.map (qzR ad')).toList ++ rst))) : W p l e R s m args below meth c H locs cells slots Q (F0 m pc lsS st0) := by
  intro T hT X
  obtain ⟨v', st₀, t, T', L, h0, X', hL, e1, e2, ⟨⟨ad', hv, hE⟩, hz, hk⟩, st⟩ := hr T hT X
  cases hv
  rw [h0] at hz hk
  obtain ⟨t2, a1, b1⟩ := kk ad' T'.heap (locs ++ L) (by rw [e1]; exact hE) ⟨Nat.le_trans hS.1 (by rw [e1]; exact hz), fun q h1 h2 => by rw [e1, hk q (Nat.lt_of_lt_of_le h1 hS.1) h2]; exact hS.2.1 q h1 h2, fun q hq => (List.mem_append.mp hq).elim (hS.2.2 q) (hL q)⟩ T' rfl X'
  exact ⟨t2, st t2 a1, b1⟩
/-- the contract that a run gives -/
def qzMet (l : Launch) (G : qzGT) (D : va_G) (z0 : Nat) (S : Nat → Nat) (ad : Nat → Nat) (d mj : Nat) (as : List Value) (hp : qzH) (v : Option Value) (hp1 : qzH) : Prop :=
  Met l (qzMd mj).1 (Cond.code (qzMd mj).1 (qzMd mj).2.1 (qzMd mj).2.2.1 (qzMd mj).2.2.2.1 :: qzWs) (qzRm d (hp1.1 - hp.1) (qzSl hp1.1 - qzSl hp.1)) (va_Pc (as.map (qzR ad)) (qzPre G D z0 S ad hp)) (qzPost G D z0 S ad hp.1 v hp1) (hp1.1 - hp.1) (qzSl hp1.1 - qzSl hp.1) (qzA0 z0)
/-- behind a call the method goes on -/
theorem qz_after {mc ms : Nat} {v : Option Value} {hp1 : qzH} {rest : List Value} {H1 : Heap} {locs1 : List Loc} {ad' : Nat → Nat} (C : qzCx G D z0 S s mi ad lsS H locs ls st hp) (hn0 : n0 ≤ hp.1) (hn1 : hp.1 ≤ hp1.1) (hrest : ∀ w ∈ rest, qzOk hp.1 w) (hE : qzEnd G D z0 S ad hp.1 v hp1 ad' H1) (hS : va_S (qzA0 z0) s.heap H1 locs1) (h1 : mc = hp1.1 - hp.1) (h2 : ms = qzSl hp1.1 - qzSl hp.1)
    (kk : qzKK p l e R s m args below meth c Q G D z0 S mi n0 hp.1 ad (pc + 3) ls (v.toList ++ rest) hp1) : W p l e R s m args below meth c H1 locs1 (hp.1 - n0 + mc) (qzSl hp.1 - qzSl n0 + ms) Q (F0 m (pc + 3) lsS ((v.map (qzR ad')).toList ++ rest.map (qzR ad))) := by
  obtain ⟨e1, e2, e3, e4, e5, e6, e7⟩ := hE
  have g := kk ad' lsS H1 locs1 e1 ⟨C.1.ag e1 hn1, by
    intro w hw
    rcases List.mem_append.mp hw with q | q
    · cases v with
      | none => cases q
      | some x =>
        have : w = x := by simpa using q
        subst this
        exact e5 _ rfl
    · exact (hrest w q).mono hn1, e3, e2, e4, e6, e7, hS⟩
  have t1 : hp1.1 - n0 = hp.1 - n0 + mc := by omega
  have t2 : qzSl hp1.1 - qzSl n0 = qzSl hp.1 - qzSl n0 + ms := by
    have a1 := qzSl_mono hn0
    have a2 := qzSl_mono hn1
    omega
  have t3 : (v.toList ++ rest).map (qzR ad') = (v.map (qzR ad')).toList ++ rest.map (qzR ad) := by
    rw [List.map_append, qzMap_ag2 e1 hrest]
    cases v <;> rfl
  unfold qzG at g
  rw [t1, t2, t3] at g
  exact g
theorem qzCall_inv {kd oc idx mj : Nat} {as rest : List Value} (h : qzCall kd oc idx len st hp = (some (.inr (.inl (mj, as, rest))) : Option qzA)) : len = 3 ∧ rest.length ≤ 8 ∧ mj < 149 ∧ (qzMd mj).2.2.2.2.1 = kd ∧ (∃ nest, ((oc, idx), (mj, nest)) ∈ qzCl ∧ (kd = 1 → nest = false)) ∧
    ((kd = 0 ∧ as.length = (qzMd mj).2.2.2.2.2.1 ∧ st = as.reverse ++ rest) ∨ (¬ kd = 0 ∧ ∃ b as1, as = .ref b :: as1 ∧ qzArr (qzMd mj).2.2.2.2.2.2 b hp.1 = true ∧ as1.length = (qzMd mj).2.2.2.2.2.1 ∧ st = as1.reverse ++ .ref b :: rest)) := by
  unfold qzCall at h
  split at h
  · rename_i hw
    split at h
    · rename_i mj' nest hf
      split at h
      · rename_i hc
        split at h
        · rename_i hk
          split at h
          · rename_i h8
            simp only [Option.some.injEq, Sum.inr.injEq, Sum.inl.injEq, Prod.mk.injEq] at h
            obtain ⟨rfl, rfl, rfl⟩ := h
            exact ⟨hw, h8.2, hc.2.1, hc.1, ⟨nest, qzFind_in hf, fun q => by omega⟩, Or.inl ⟨hk, by rw [List.length_reverse, List.length_take]; omega, by rw [List.reverse_reverse, List.take_append_drop]⟩⟩
          · cases h
        · rename_i hk
          split at h
          · rename_i b rest' hdr
            split at h
            · rename_i h8
              simp only [Option.some.injEq, Sum.inr.injEq, Sum.inl.injEq, Prod.mk.injEq] at h
              obtain ⟨rfl, rfl, rfl⟩ := h
              refine ⟨hw, h8.2.1, hc.2.1, hc.1, ⟨nest, qzFind_in hf, hc.2.2⟩, Or.inr ⟨hk, b, _, rfl, h8.1, by rw [List.length_reverse, List.length_take]; omega, ?_⟩⟩
              rw [List.reverse_reverse, ← hdr, List.take_append_drop]
            · cases h
          · cases h
      · cases h
    · cases h
  · cases h
end QZ4
end
section
/-! a call, the answers, and the whole: a run of the interpreter is a contract of the machine -/
theorem qzOc : ∀ mi, mi < 149 → ¬ (qzMd mi).2.2.2.2.1 = 0 → (qzMd mi).2.2.2.2.2.2 < 4 := by decide +kernel
section QZ5
variable {p : Program} {l : Launch} {e : Env} {R : Room} {s : State} {m : MethodId} {args : Array Value} {below : List Frame} {meth : Method} {c : Code} {Q : State → Prop} {G : qzGT} {D : va_G} {z0 : Nat} {S : Nat → Nat} {mi pc n0 : Nat} {ad : Nat → Nat} {lsS : Array Slot} {H : Heap} {locs : List Loc} {ls st ls' st' : List Value} {hp hp' : qzH} {pc' len : Nat}
/-- room for a call -/
def qzRc (R : Room) (d n0 n n1 : Nat) : Prop := d + 13 ≤ R.frames ∧ 500 + 100 * d ≤ R.locals ∧ n - n0 + (n1 - n) ≤ R.cells ∧ qzSl n - qzSl n0 + (qzSl n1 - qzSl n) ≤ R.slots ∧ n0 ≤ n ∧ n ≤ n1
theorem qz_callS {idx mj d : Nat} {as rest : List Value} {v : Option Value} {hp1 : qzH} (F : qzFx p G D z0 S s m args meth c mi) (C : qzCx G D z0 S s mi ad lsS H locs ls st hp) (hd : decode (qzMd mi).2.1 pc = .ok (.invokestatic idx, len)) (h : qzCall 0 (qzMd mi).2.2.2.2.2.2 idx len st hp = (some (.inr (.inl (mj, as, rest))) : Option qzA)) (hM : qzMet l G D z0 S ad d mj as hp v hp1) (hR : qzRc R d n0 hp.1 hp1.1)
    (kk : qzKK p l e R s m args below meth c Q G D z0 S mi n0 hp.1 ad (pc + 3) ls (v.toList ++ rest) hp1) : qzG p l e R s m args below meth c Q n0 pc ad lsS H locs st hp.1 := by
  obtain ⟨hx, hb, hml, hr, hown, hts, hlk, hnm, hK, hNw, hSt, hz, hmi⟩ := id F
  obtain ⟨c1, c2, c3, c4, c5, hP, hD, hS⟩ := id C
  have hown' : s.vm.findClass (qzRs (qzMd mi).2.2.2.2.2.2) = some m.cls := by rw [← (qzPm_at hmi).2.2.2.2.1.2.2]; exact hown
  obtain ⟨rfl, h8, hmj, hkd, ⟨nest, hin, -⟩, hcase⟩ := qzCall_inv h
  obtain ⟨pm1, pm2, pm3, pm4, ⟨pm5, pm6, pm7⟩, pmS, pmV, pmI⟩ := qzPm_at hmj
  obtain ⟨-, hpc⟩ := qzCs _ hin
  dsimp only at hpc
  obtain ⟨r1, r2, r3, r4, r5, r6⟩ := hR
  rcases hcase with ⟨-, hlen, rfl⟩ | ⟨q, -⟩
  · have hrest : ∀ w ∈ rest, qzOk hp.1 w := fun w hw => C.2.1 w (List.mem_append_right _ hw)
    have hsum := qzOk.sum (ad := ad) hrest
    have hst : (as.reverse ++ rest).map (qzR ad) = (as.map (qzR ad)).reverse ++ rest.map (qzR ad) := by rw [List.map_append, List.map_reverse]
    have hS0 : CallFix p m c (qzMd mi).2.1 (qzMd mi).2.2.1 s args qzWs (qzRs (qzMd mi).2.2.2.2.2.2) := ⟨hx, hb, hml, hown', hts⟩
    have hp0 : PreS s H (va_Pc (as.map (qzR ad)) (qzPre G D z0 S ad hp)) (as.map (qzR ad)) := ⟨qzBlind, fun U hU hW => ⟨rfl, qzPre.of F C hU hW⟩⟩
    have hroom : (qzRm d (hp1.1 - hp.1) (qzSl hp1.1 - qzSl hp.1)).frames + 1 ≤ R.frames ∧ 8 + ((qzMd mj).2.2.1 + 11) + (qzRm d (hp1.1 - hp.1) (qzSl hp1.1 - qzSl hp.1)).locals ≤ R.locals := ⟨by show d + 12 + 1 ≤ _; omega, by show 8 + ((qzMd mj).2.2.1 + 11) + (400 + 100 * d) ≤ _; omega⟩
    have hrun : va_Run p l e R s m args below meth c H locs (hp.1 - n0) (qzSl hp.1 - qzSl n0) (hp1.1 - hp.1) (qzSl hp1.1 - qzSl hp.1) (F0 m pc lsS ((as.reverse ++ rest).map (qzR ad))) (rest.map (qzR ad)) (qzPost G D z0 S ad hp.1 v hp1 (as.map (qzR ad)).toArray) (qzA0 z0) := by
      rcases hpc with ⟨-, hlk2⟩ | ⟨-, host, hlk2⟩
      · exact va_runS hS0 hM ⟨callB_of (qzMd mj).2.2.2.2.2.1 hts (qzGood pm2) rfl rfl rfl (hts _ pm3) (hts _ hlk2) pm4 hroom, hts _ (pmS hkd)⟩ hp0 rfl (by rw [List.length_map]; exact hlen) C.1.size hst (by show 2 * 0 + _ ≤ 8; rw [hsum]; omega) hd ⟨r3, r4⟩
      · have hnw : va_Nw (.methodLinkNest (qzRs (qzMd mi).2.2.2.2.2.2) idx (qzMd mj).1 host) s := hNw.1 ((qzMd mi).2.2.2.2.2.2, idx, (qzMd mj).1, host) hlk2
        have hst2 : (Cond.static (qzMd mj).1).before args s = true := hts _ (pmS hkd)
        have hcn : va_CN R s args (qzRs (qzMd mi).2.2.2.2.2.2) idx (qzMd mj).1 host (qzMd mj).2.1 (qzMd mj).2.2.1 (qzMd mj).2.2.2.1 (Cond.code (qzMd mj).1 (qzMd mj).2.1 (qzMd mj).2.2.1 (qzMd mj).2.2.2.1 :: qzWs) (qzRm d (hp1.1 - hp.1) (qzSl hp1.1 - qzSl hp.1)) (hp1.1 - hp.1) (qzSl hp1.1 - qzSl hp.1) (qzMd mj).2.2.2.2.2.1 := va_cnB (qzMd mj).2.2.2.2.2.1 hts (qzGood pm2) rfl rfl rfl hnw (hts _ pm3) pm4 hroom
        exact va_runSN (host := host) hS0 hM ⟨hcn, hst2, trivial⟩ hp0 rfl (by rw [List.length_map]; exact hlen) C.1.size hst (by show 2 * 0 + _ ≤ 8; rw [hsum]; omega) hd ⟨r3, r4⟩
    exact qz_run hrun hS (fun ad' H1 locs1 hE hS1 => qz_after C r5 r6 hrest hE hS1 rfl rfl kk)
  · exact (q rfl).elim
theorem qz_callV {idx mj d : Nat} {as rest : List Value} {v : Option Value} {hp1 : qzH} (F : qzFx p G D z0 S s m args meth c mi) (C : qzCx G D z0 S s mi ad lsS H locs ls st hp) (hd : decode (qzMd mi).2.1 pc = .ok (.invokevirtual idx, len)) (h : qzCall 1 (qzMd mi).2.2.2.2.2.2 idx len st hp = (some (.inr (.inl (mj, as, rest))) : Option qzA)) (hM : qzMet l G D z0 S ad d mj as hp v hp1) (hR : qzRc R d n0 hp.1 hp1.1)
    (kk : qzKK p l e R s m args below meth c Q G D z0 S mi n0 hp.1 ad (pc + 3) ls (v.toList ++ rest) hp1) : qzG p l e R s m args below meth c Q n0 pc ad lsS H locs st hp.1 := by
  obtain ⟨hx, hb, hml, hr, hown, hts, hlk, hnm, hK, hNw, hSt, hz, hmi⟩ := id F
  obtain ⟨c1, c2, c3, c4, c5, hP, hD, hS⟩ := id C
  have hown' : s.vm.findClass (qzRs (qzMd mi).2.2.2.2.2.2) = some m.cls := by rw [← (qzPm_at hmi).2.2.2.2.1.2.2]; exact hown
  obtain ⟨rfl, h8, hmj, hkd, ⟨nest, hin, hnest⟩, hcase⟩ := qzCall_inv h
  obtain ⟨pm1, pm2, pm3, pm4, ⟨pm5, pm6, pm7⟩, pmS, pmV, pmI⟩ := qzPm_at hmj
  obtain ⟨-, hpc⟩ := qzCs _ hin
  dsimp only at hpc
  have hnf := hnest rfl
  obtain ⟨r1, r2, r3, r4, r5, r6⟩ := hR
  rcases hcase with ⟨q, -⟩ | ⟨-, b, as1, rfl, hab, hlen, rfl⟩
  · cases q
  · have hrest : ∀ w ∈ rest, qzOk hp.1 w := fun w hw => C.2.1 w (List.mem_append_right _ (List.mem_cons_of_mem _ hw))
    have hsum := qzOk.sum (ad := ad) hrest
    have hst : (as1.reverse ++ .ref b :: rest).map (qzR ad) = (as1.map (qzR ad)).reverse ++ .ref (ad b) :: rest.map (qzR ad) := by rw [List.map_append, List.map_reverse]; rfl
    have hS0 : CallFix p m c (qzMd mi).2.1 (qzMd mi).2.2.1 s args qzWs (qzRs (qzMd mi).2.2.2.2.2.2) := ⟨hx, hb, hml, hown', hts⟩
    obtain ⟨hb1, hb2⟩ := qzArr_ok hab
    have hoc := qzOc mj hmj (by rw [hkd]; decide)
    have hp0 : PreV s H (qzMd mj).1.cls (ad b) (va_Pc ((.ref b :: as1).map (qzR ad)) (qzPre G D z0 S ad hp)) (as1.map (qzR ad)) := ⟨qzBlind, by rw [pm7]; exact va_recv (tys := qzTys G) hK hP (qzCl_at hoc) ((qzW_get hb1).trans (by rw [qzEo hb2 hoc])), fun U hU hW => ⟨rfl, qzPre.of F C hU hW⟩⟩
    have hroom : (qzRm d (hp1.1 - hp.1) (qzSl hp1.1 - qzSl hp.1)).frames + 1 ≤ R.frames ∧ 8 + ((qzMd mj).2.2.1 + 11) + (qzRm d (hp1.1 - hp.1) (qzSl hp1.1 - qzSl hp.1)).locals ≤ R.locals := ⟨by show d + 12 + 1 ≤ _; omega, by show 8 + ((qzMd mj).2.2.1 + 11) + (400 + 100 * d) ≤ _; omega⟩
    have hrun : va_Run p l e R s m args below meth c H locs (hp.1 - n0) (qzSl hp.1 - qzSl n0) (hp1.1 - hp.1) (qzSl hp1.1 - qzSl hp.1) (F0 m pc lsS ((as1.reverse ++ .ref b :: rest).map (qzR ad))) (rest.map (qzR ad)) (qzPost G D z0 S ad hp.1 v hp1 (Value.ref (ad b) :: as1.map (qzR ad)).toArray) (qzA0 z0) := by
      rcases hpc with ⟨-, hlk2⟩ | ⟨hq, -⟩
      · exact va_runV hS0 hM ⟨callB_of (qzMd mj).2.2.2.2.2.1 hts (qzGood pm2) rfl rfl rfl (hts _ pm3) (hts _ hlk2) pm4 hroom, hts _ (pmV hkd).1, hts _ (pmV hkd).2⟩ hp0 rfl (by rw [List.length_map]; exact hlen) C.1.size hst (by show 2 * 0 + _ ≤ 8; rw [hsum]; omega) hd ⟨r3, r4⟩
      · rw [hnf] at hq; cases hq
    exact qz_run hrun hS (fun ad' H1 locs1 hE hS1 => qz_after C r5 r6 hrest hE hS1 rfl rfl kk)
theorem qz_callI {idx mj d : Nat} {as rest : List Value} {v : Option Value} {hp1 : qzH} (F : qzFx p G D z0 S s m args meth c mi) (C : qzCx G D z0 S s mi ad lsS H locs ls st hp) (hd : decode (qzMd mi).2.1 pc = .ok (.invokespecial idx, len)) (h : qzCall 2 (qzMd mi).2.2.2.2.2.2 idx len st hp = (some (.inr (.inl (mj, as, rest))) : Option qzA)) (hM : qzMet l G D z0 S ad d mj as hp v hp1) (hR : qzRc R d n0 hp.1 hp1.1)
    (kk : qzKK p l e R s m args below meth c Q G D z0 S mi n0 hp.1 ad (pc + 3) ls (v.toList ++ rest) hp1) : qzG p l e R s m args below meth c Q n0 pc ad lsS H locs st hp.1 := by
  obtain ⟨hx, hb, hml, hr, hown, hts, hlk, hnm, hK, hNw, hSt, hz, hmi⟩ := id F
  obtain ⟨c1, c2, c3, c4, c5, hP, hD, hS⟩ := id C
  have hown' : s.vm.findClass (qzRs (qzMd mi).2.2.2.2.2.2) = some m.cls := by rw [← (qzPm_at hmi).2.2.2.2.1.2.2]; exact hown
  obtain ⟨rfl, h8, hmj, hkd, ⟨nest, hin, -⟩, hcase⟩ := qzCall_inv h
  obtain ⟨pm1, pm2, pm3, pm4, ⟨pm5, pm6, pm7⟩, pmS, pmV, pmI⟩ := qzPm_at hmj
  obtain ⟨-, hpc⟩ := qzCs _ hin
  dsimp only at hpc
  obtain ⟨r1, r2, r3, r4, r5, r6⟩ := hR
  obtain ⟨pi1, pi2, pi3⟩ := pmI hkd
  rcases hcase with ⟨q, -⟩ | ⟨-, b, as1, rfl, hab, hlen, rfl⟩
  · cases q
  · have hrest : ∀ w ∈ rest, qzOk hp.1 w := fun w hw => C.2.1 w (List.mem_append_right _ (List.mem_cons_of_mem _ hw))
    have hsum := qzOk.sum (ad := ad) hrest
    have hst : (as1.reverse ++ .ref b :: rest).map (qzR ad) = (as1.map (qzR ad)).reverse ++ .ref (ad b) :: rest.map (qzR ad) := by rw [List.map_append, List.map_reverse]; rfl
    have hS0 : CallFix p m c (qzMd mi).2.1 (qzMd mi).2.2.1 s args qzWs (qzRs (qzMd mi).2.2.2.2.2.2) := ⟨hx, hb, hml, hown', hts⟩
    have hp0 : PreS s H (va_Pc ((.ref b :: as1).map (qzR ad)) (qzPre G D z0 S ad hp)) (.ref (ad b) :: as1.map (qzR ad)) := ⟨qzBlind, fun U hU hW => ⟨rfl, qzPre.of F C hU hW⟩⟩
    have hroom : (qzRm d (hp1.1 - hp.1) (qzSl hp1.1 - qzSl hp.1)).frames + 1 ≤ R.frames ∧ 8 + ((qzMd mj).2.2.1 + 11) + (qzRm d (hp1.1 - hp.1) (qzSl hp1.1 - qzSl hp.1)).locals ≤ R.locals := ⟨by show d + 12 + 1 ≤ _; omega, by show 8 + ((qzMd mj).2.2.1 + 11) + (400 + 100 * d) ≤ _; omega⟩
    have hM' : Met l (qzMd mj).1 (Cond.code (qzMd mj).1 (qzMd mj).2.1 (qzMd mj).2.2.1 none :: qzWs) (qzRm d (hp1.1 - hp.1) (qzSl hp1.1 - qzSl hp.1)) (va_Pc ((.ref b :: as1).map (qzR ad)) (qzPre G D z0 S ad hp)) (qzPost G D z0 S ad hp.1 v hp1) (hp1.1 - hp.1) (qzSl hp1.1 - qzSl hp.1) (qzA0 z0) := by
      have := hM
      unfold qzMet at this
      rw [pi3] at this
      exact this
    have pm2' : Cond.code (qzMd mj).1 (qzMd mj).2.1 (qzMd mj).2.2.1 none ∈ qzWs := by rw [pi3] at pm2; exact pm2
    have hrun : va_Run p l e R s m args below meth c H locs (hp.1 - n0) (qzSl hp.1 - qzSl n0) (hp1.1 - hp.1) (qzSl hp1.1 - qzSl hp.1) (F0 m pc lsS ((as1.reverse ++ .ref b :: rest).map (qzR ad))) (rest.map (qzR ad)) (qzPost G D z0 S ad hp.1 v hp1 (Value.ref (ad b) :: as1.map (qzR ad)).toArray) (qzA0 z0) := by
      rcases hpc with ⟨-, hlk2⟩ | ⟨-, host, hlk2⟩
      · exact va_runI hS0 hM' ⟨callB_of (qzMd mj).2.2.2.2.2.1 hts (qzGood pm2') rfl rfl rfl (hts _ pm3) (hts _ hlk2) pm4 hroom, pi1, hts _ pi2⟩ hp0 rfl (by rw [List.length_map]; exact hlen) C.1.size hst (by show 2 * 0 + _ ≤ 8; rw [hsum]; omega) hd ⟨r3, r4⟩
      · have hnw : va_Nw (.methodLinkNest (qzRs (qzMd mi).2.2.2.2.2.2) idx (qzMd mj).1 host) s := hNw.1 ((qzMd mi).2.2.2.2.2.2, idx, (qzMd mj).1, host) hlk2
        have hst2 : (Cond.instanceMethod (qzMd mj).1).before args s = true := hts _ pi2
        have hcn : va_CN R s args (qzRs (qzMd mi).2.2.2.2.2.2) idx (qzMd mj).1 host (qzMd mj).2.1 (qzMd mj).2.2.1 none (Cond.code (qzMd mj).1 (qzMd mj).2.1 (qzMd mj).2.2.1 none :: qzWs) (qzRm d (hp1.1 - hp.1) (qzSl hp1.1 - qzSl hp.1)) (hp1.1 - hp.1) (qzSl hp1.1 - qzSl hp.1) (qzMd mj).2.2.2.2.2.1 := va_cnB (qzMd mj).2.2.2.2.2.1 hts (qzGood pm2') rfl rfl rfl hnw (hts _ pm3) pm4 hroom
        exact va_runIN (host := host) hS0 hM' ⟨hcn, pi1, hst2⟩ hp0 rfl (by rw [List.length_map]; exact hlen) C.1.size hst (by show 2 * 0 + _ ≤ 8; rw [hsum]; omega) hd ⟨r3, r4⟩
    exact qz_run hrun hS (fun ad' H1 locs1 hE hS1 => qz_after C r5 r6 hrest hE hS1 rfl rfl kk)
/-- the texts -/
theorem qz_virt {idx : Nat} (hTx : qzTx l) (F : qzFx p G D z0 S s m args meth c mi) (C : qzCx G D z0 S s mi ad lsS H locs ls st hp) (hd : decode (qzMd mi).2.1 pc = .ok (.invokevirtual idx, len)) (h : qzVirt (qzMd mi).2.2.2.2.2.2 idx len pc ls st hp = (some (.inl (pc', ls', st', hp')) : Option qzA)) (hR : qzRo R n0 hp.1 hp'.1)
    (kk : qzKK p l e R s m args below meth c Q G D z0 S mi n0 hp.1 ad pc' ls' st' hp') : qzG p l e R s m args below meth c Q n0 pc ad lsS H locs st hp.1 := by
  obtain ⟨hx, hb, hml, hr, hown, hts, hlk, hnm, hK, hNw, hSt, hz, hmi⟩ := id F
  obtain ⟨c1, c2, c3, c4, c5, hP, hD, hS⟩ := id C
  have hown' : s.vm.findClass (qzRs (qzMd mi).2.2.2.2.2.2) = some m.cls := by rw [← (qzPm_at hmi).2.2.2.2.1.2.2]; exact hown
  have hbl : ∀ av, FrameBlind (va_Pc av (qzTp z0 S)) := fun av a U g mk q => ⟨q.1, qzSt.same (s := U) (U := U.calling g mk a) rfl q.2.1, q.2.2⟩
  have hpre : ∀ U : State, U.heap = H → s.WarmedH U.vm → qzTp z0 S U := fun U hU hW => ⟨hSt.now hz hS hU hW, by rw [hU]; exact Nat.le_trans hz hS.1⟩
  have hcell : ∃ cell : Cell, H[S 3]? = some cell ∧ cell.vm.isStatics = false ∧ s.vm.findClass RJ0 = some cell.cls := by
    obtain ⟨adV, hv⟩ := (hSt.kept hz hS.2.1).2.2.2.2.2.1
    obtain ⟨cell, q1, q2, q3, -⟩ := (hv.1 0 (by decide)).1
    exact ⟨cell, q1, q2, q3⟩
  have ea : ad 1003 = S 3 := c4 3
  obtain ⟨r0, r1, r2, r3, r4⟩ := hR
  have hroom : ∀ mx : Nat, mx ≤ 2 → qzRt.frames + 1 ≤ R.frames ∧ 8 + (mx + 11) + qzRt.locals ≤ R.locals := fun mx hm => ⟨by show 8 + 1 ≤ _; omega, by show 8 + (mx + 11) + 300 ≤ _; omega⟩
  unfold qzVirt at h
  split at h
  · rename_i hc
    obtain ⟨h1, rfl⟩ := hc
    rw [h1] at hown'
    split at h
    · rename_i hw
      subst hw
      split at h
      · rename_i a st1
        split at h
        · rename_i h8
          obtain ⟨rfl, h8⟩ := h8
          obtain ⟨rfl, rfl, rfl, rfl⟩ := qzGo_inj h
          have ho := (List.forall_mem_cons.mp C.2.1).2
          have hsum := qzOk.sum (ad := ad) ho
          show W p l e R s m args below meth c H locs (hp'.1 - n0) (qzSl hp'.1 - qzSl n0) Q (F0 m pc lsS (.ref (ad 1003) :: st1.map (qzR ad)))
          rw [ea]
          refine va_calli (rest := st1.map (qzR ad)) (mc := 0) (ms := 0) (va_runV (As := []) (C := RJ0) ⟨hx, hb, hml, hown', hts⟩ (hTx z0 S).1 ⟨callB_of 0 hts (qzGood qzs_slc) rfl rfl rfl (hts _ qzs_str) (hts _ qzs_sl) (by decide +kernel) (hroom 1 (by omega)), hts _ qzs_sli, hts _ qzs_sls⟩ ⟨hbl _, hcell, fun U hU hW => ⟨rfl, hpre U hU hW⟩⟩ rfl rfl C.1.size rfl (by show 2 * 0 + _ ≤ 8; rw [hsum]; omega) hd ⟨r1, r2⟩) hS (fun q _ z => z.elim) (fun q z => z.elim) (fun r u t H1 locs1 _ _ hre _ hsz hk1 hS1 => ?_)
          subst hre
          have hkp : ∀ (k : Nat) (q : Nat × va_E), (qzW G ad hp')[k]? = some q → H1[q.1]? = H[q.1]? := fun k q hq => hk1 q.1 (hP k q hq).lt (fun z => z)
          exact kk ad lsS H1 locs1 qzAg.rf (C.cells rfl (List.forall_mem_cons.mpr ⟨trivial, ho⟩) c3 (hP.kept hkp) hD hS1)
        · exact (qz_no h).elim
      · exact (qz_no h).elim
    · exact (qz_no h).elim
  · split at h
    · rename_i hc
      obtain ⟨h1, rfl⟩ := hc
      rw [h1] at hown'
      split at h
      · rename_i hw
        subst hw
        split at h
        · rename_i i a st1
          split at h
          · rename_i h8
            obtain ⟨rfl, hin, h8⟩ := h8
            obtain ⟨rfl, rfl, rfl, rfl⟩ := qzGo_inj h
            have ho := (List.forall_mem_cons.mp (List.forall_mem_cons.mp C.2.1).2).2
            have hsum := qzOk.sum (ad := ad) ho
            show W p l e R s m args below meth c H locs (hp'.1 - n0) (qzSl hp'.1 - qzSl n0) Q (F0 m pc lsS (.int i :: .ref (ad 1003) :: st1.map (qzR ad)))
            rw [ea]
            refine va_calli (rest := st1.map (qzR ad)) (mc := 0) (ms := 0) (va_runV (As := [.int i]) (C := RJ0) ⟨hx, hb, hml, hown', hts⟩ ((hTx z0 S).2 i hin) ⟨callB_of 1 hts (qzGood qzs_scc) rfl rfl rfl (hts _ qzs_str) (hts _ qzs_sc) (by decide +kernel) (hroom 2 (by omega)), hts _ qzs_sci, hts _ qzs_scs⟩ ⟨hbl _, hcell, fun U hU hW => ⟨rfl, hpre U hU hW⟩⟩ rfl rfl C.1.size rfl (by show 2 * 0 + _ ≤ 8; rw [hsum]; omega) hd ⟨r1, r2⟩) hS (fun q _ z => z.elim) (fun q z => z.elim) (fun r u t H1 locs1 _ _ hre _ hsz hk1 hS1 => ?_)
            subst hre
            have hkp : ∀ (k : Nat) (q : Nat × va_E), (qzW G ad hp')[k]? = some q → H1[q.1]? = H[q.1]? := fun k q hq => hk1 q.1 (hP k q hq).lt (fun z => z)
            exact kk ad lsS H1 locs1 qzAg.rf (C.cells rfl (List.forall_mem_cons.mpr ⟨trivial, ho⟩) c3 (hP.kept hkp) hD hS1)
          · exact (qz_no h).elim
        · exact (qz_no h).elim
      · exact (qz_no h).elim
    · unfold qzCall at h
      repeat' split at h
      all_goals cases h
end QZ5
end
section
/-! what a step can come to; the heap grows only -/
def qzLeft (n : Nat) (r : qzA) : Prop := ∃ q : Nat × List Value × List Value × qzH, r = .inl q ∧ n ≤ q.2.2.2.1
theorem qzGo_l {pc : Nat} {ls st : List Value} {hp : qzH} {r : qzA} (h : qzGo pc ls st hp = some r) {n : Nat} (hn : n ≤ hp.1) : qzLeft n r := by
  unfold qzGo at h
  cases h
  exact ⟨_, rfl, hn⟩
theorem qzPush_l {pc len : Nat} {ls st : List Value} {hp : qzH} {r : qzA} {v0 : Value} {w : Nat} (h : qzPush v0 len w pc ls st hp = some r) : qzLeft hp.1 r := by
  unfold qzPush at h
  repeat' split at h
  all_goals first | exact (qz_no h).elim | exact qzGo_l h (Nat.le_refl _) | exact qzGo_l h (Nat.le_succ _)
theorem qzIload_l {pc len : Nat} {ls st : List Value} {hp : qzH} {r : qzA} {i w : Nat} (h : qzIload i len w pc ls st hp = some r) : qzLeft hp.1 r := by
  unfold qzIload at h
  repeat' split at h
  all_goals first | exact (qz_no h).elim | exact qzGo_l h (Nat.le_refl _) | exact qzGo_l h (Nat.le_succ _)
theorem qzAload_l {pc len : Nat} {ls st : List Value} {hp : qzH} {r : qzA} {i w : Nat} (h : qzAload i len w pc ls st hp = some r) : qzLeft hp.1 r := by
  unfold qzAload at h
  repeat' split at h
  all_goals first | exact (qz_no h).elim | exact qzGo_l h (Nat.le_refl _) | exact qzGo_l h (Nat.le_succ _)
theorem qzIstore_l {pc len : Nat} {ls st : List Value} {hp : qzH} {r : qzA} {i w : Nat} (h : qzIstore i len w pc ls st hp = some r) : qzLeft hp.1 r := by
  unfold qzIstore at h
  repeat' split at h
  all_goals first | exact (qz_no h).elim | exact qzGo_l h (Nat.le_refl _) | exact qzGo_l h (Nat.le_succ _)
theorem qzAstore_l {pc len : Nat} {ls st : List Value} {hp : qzH} {r : qzA} {i w : Nat} (h : qzAstore i len w pc ls st hp = some r) : qzLeft hp.1 r := by
  unfold qzAstore at h
  repeat' split at h
  all_goals first | exact (qz_no h).elim | exact qzGo_l h (Nat.le_refl _) | exact qzGo_l h (Nat.le_succ _)
theorem qzBin_l {pc len : Nat} {ls st : List Value} {hp : qzH} {r : qzA} {f : Int32 → Int32 → Int32} (h : qzBin f len pc ls st hp = some r) : qzLeft hp.1 r := by
  unfold qzBin at h
  repeat' split at h
  all_goals first | exact (qz_no h).elim | exact qzGo_l h (Nat.le_refl _) | exact qzGo_l h (Nat.le_succ _)
theorem qzBinD_l {pc len : Nat} {ls st : List Value} {hp : qzH} {r : qzA} {f : Int32 → Int32 → Int32} (h : qzBinD f len pc ls st hp = some r) : qzLeft hp.1 r := by
  unfold qzBinD at h
  repeat' split at h
  all_goals first | exact (qz_no h).elim | exact qzGo_l h (Nat.le_refl _) | exact qzGo_l h (Nat.le_succ _)
theorem qzI2c_l {pc len : Nat} {ls st : List Value} {hp : qzH} {r : qzA}  (h : qzI2c len pc ls st hp = some r) : qzLeft hp.1 r := by
  unfold qzI2c at h
  repeat' split at h
  all_goals first | exact (qz_no h).elim | exact qzGo_l h (Nat.le_refl _) | exact qzGo_l h (Nat.le_succ _)
theorem qzIinc_l {pc len : Nat} {ls st : List Value} {hp : qzH} {r : qzA} {i : Nat} {n : Int} (h : qzIinc i n len pc ls st hp = some r) : qzLeft hp.1 r := by
  unfold qzIinc at h
  repeat' split at h
  all_goals first | exact (qz_no h).elim | exact qzGo_l h (Nat.le_refl _) | exact qzGo_l h (Nat.le_succ _)
theorem qzDup_l {pc len : Nat} {ls st : List Value} {hp : qzH} {r : qzA}  (h : qzDup len pc ls st hp = some r) : qzLeft hp.1 r := by
  unfold qzDup at h
  repeat' split at h
  all_goals first | exact (qz_no h).elim | exact qzGo_l h (Nat.le_refl _) | exact qzGo_l h (Nat.le_succ _)
theorem qzDup2_l {pc len : Nat} {ls st : List Value} {hp : qzH} {r : qzA}  (h : qzDup2 len pc ls st hp = some r) : qzLeft hp.1 r := by
  unfold qzDup2 at h
  repeat' split at h
  all_goals first | exact (qz_no h).elim | exact qzGo_l h (Nat.le_refl _) | exact qzGo_l h (Nat.le_succ _)
theorem qzPop_l {pc len : Nat} {ls st : List Value} {hp : qzH} {r : qzA}  (h : qzPop len pc ls st hp = some r) : qzLeft hp.1 r := by
  unfold qzPop at h
  repeat' split at h
  all_goals first | exact (qz_no h).elim | exact qzGo_l h (Nat.le_refl _) | exact qzGo_l h (Nat.le_succ _)
theorem qzBr_l {pc : Nat} {ls st : List Value} {hp : qzH} {r : qzA} {b : Bool} {off : Int} (h : qzBr b pc off ls st hp = some r) : qzLeft hp.1 r := by
  unfold qzBr at h
  repeat' split at h
  all_goals first | exact (qz_no h).elim | exact qzGo_l h (Nat.le_refl _) | exact qzGo_l h (Nat.le_succ _)
theorem qzIf1_l {pc len : Nat} {ls st : List Value} {hp : qzH} {r : qzA} {k : ClassFile.Cond} {off : Int} (h : qzIf1 k off len pc ls st hp = some r) : qzLeft hp.1 r := by
  unfold qzIf1 at h
  repeat' split at h
  all_goals first | exact (qz_no h).elim | exact qzBr_l h
theorem qzIf2_l {pc len : Nat} {ls st : List Value} {hp : qzH} {r : qzA} {k : ClassFile.Cond} {off : Int} (h : qzIf2 k off len pc ls st hp = some r) : qzLeft hp.1 r := by
  unfold qzIf2 at h
  repeat' split at h
  all_goals first | exact (qz_no h).elim | exact qzBr_l h
theorem qzIfN_l {pc len : Nat} {ls st : List Value} {hp : qzH} {r : qzA} {k : Bool} {off : Int} (h : qzIfN k off len pc ls st hp = some r) : qzLeft hp.1 r := by
  unfold qzIfN at h
  repeat' split at h
  all_goals first | exact (qz_no h).elim | exact qzBr_l h
theorem qzGoto_l {pc len : Nat} {ls st : List Value} {hp : qzH} {r : qzA} {off : Int} (h : qzGoto off len pc ls st hp = some r) : qzLeft hp.1 r := by
  unfold qzGoto at h
  repeat' split at h
  all_goals first | exact (qz_no h).elim | exact qzGo_l h (Nat.le_refl _) | exact qzGo_l h (Nat.le_succ _)
theorem qzTsw_l {pc : Nat} {ls st : List Value} {hp : qzH} {r : qzA} {d lo hi : Int} {offs : Array Int} (h : qzTsw d lo hi offs pc ls st hp = some r) : qzLeft hp.1 r := by
  unfold qzTsw at h
  repeat' split at h
  all_goals first | exact (qz_no h).elim | exact qzGo_l h (Nat.le_refl _) | exact qzGo_l h (Nat.le_succ _)
theorem qzIald_l {pc len : Nat} {ls st : List Value} {hp : qzH} {r : qzA}  (h : qzIald len pc ls st hp = some r) : qzLeft hp.1 r := by
  unfold qzIald at h
  repeat' split at h
  all_goals first | exact (qz_no h).elim | exact qzGo_l h (Nat.le_refl _) | exact qzGo_l h (Nat.le_succ _)
theorem qzCald_l {pc len : Nat} {ls st : List Value} {hp : qzH} {r : qzA}  (h : qzCald len pc ls st hp = some r) : qzLeft hp.1 r := by
  unfold qzCald at h
  repeat' split at h
  all_goals first | exact (qz_no h).elim | exact qzGo_l h (Nat.le_refl _) | exact qzGo_l h (Nat.le_succ _)
theorem qzAald_l {pc len : Nat} {ls st : List Value} {hp : qzH} {r : qzA}  (h : qzAald len pc ls st hp = some r) : qzLeft hp.1 r := by
  unfold qzAald at h
  repeat' split at h
  all_goals first | exact (qz_no h).elim | exact qzGo_l h (Nat.le_refl _) | exact qzGo_l h (Nat.le_succ _)
theorem qzIast_l {pc len : Nat} {ls st : List Value} {hp : qzH} {r : qzA}  (h : qzIast len pc ls st hp = some r) : qzLeft hp.1 r := by
  unfold qzIast at h
  repeat' split at h
  all_goals first | exact (qz_no h).elim | exact qzGo_l h (Nat.le_refl _) | exact qzGo_l h (Nat.le_succ _)
theorem qzCast_l {pc len : Nat} {ls st : List Value} {hp : qzH} {r : qzA}  (h : qzCast len pc ls st hp = some r) : qzLeft hp.1 r := by
  unfold qzCast at h
  repeat' split at h
  all_goals first | exact (qz_no h).elim | exact qzGo_l h (Nat.le_refl _) | exact qzGo_l h (Nat.le_succ _)
theorem qzAast_l {pc len : Nat} {ls st : List Value} {hp : qzH} {r : qzA}  (h : qzAast len pc ls st hp = some r) : qzLeft hp.1 r := by
  unfold qzAast at h
  repeat' split at h
  all_goals first | exact (qz_no h).elim | exact qzGo_l h (Nat.le_refl _) | exact qzGo_l h (Nat.le_succ _)
theorem qzAlen_l {pc len : Nat} {ls st : List Value} {hp : qzH} {r : qzA}  (h : qzAlen len pc ls st hp = some r) : qzLeft hp.1 r := by
  unfold qzAlen at h
  repeat' split at h
  all_goals first | exact (qz_no h).elim | exact qzGo_l h (Nat.le_refl _) | exact qzGo_l h (Nat.le_succ _)
theorem qzGetf_l {pc len : Nat} {ls st : List Value} {hp : qzH} {r : qzA} {oc idx : Nat} (h : qzGetf oc idx len pc ls st hp = some r) : qzLeft hp.1 r := by
  unfold qzGetf at h
  repeat' split at h
  all_goals first | exact (qz_no h).elim | exact qzGo_l h (Nat.le_refl _) | exact qzGo_l h (Nat.le_succ _)
theorem qzPutf_l {pc len : Nat} {ls st : List Value} {hp : qzH} {r : qzA} {mi oc idx : Nat} (h : qzPutf mi oc idx len pc ls st hp = some r) : qzLeft hp.1 r := by
  unfold qzPutf at h
  repeat' split at h
  all_goals first | exact (qz_no h).elim | exact qzGo_l h (Nat.le_refl _) | exact qzGo_l h (Nat.le_succ _)
theorem qzGets_l {pc len : Nat} {ls st : List Value} {hp : qzH} {r : qzA} {oc idx : Nat} (h : qzGets oc idx len pc ls st hp = some r) : qzLeft hp.1 r := by
  unfold qzGets at h
  repeat' split at h
  all_goals first | exact (qz_no h).elim | exact qzGo_l h (Nat.le_refl _) | exact qzGo_l h (Nat.le_succ _)
theorem qzLdc_l {pc len : Nat} {ls st : List Value} {hp : qzH} {r : qzA} {oc idx : Nat} (h : qzLdc oc idx len pc ls st hp = some r) : qzLeft hp.1 r := by
  unfold qzLdc at h
  repeat' split at h
  all_goals first | exact (qz_no h).elim | exact qzGo_l h (Nat.le_refl _) | exact qzGo_l h (Nat.le_succ _)
theorem qzNew_l {pc len : Nat} {ls st : List Value} {hp : qzH} {r : qzA} {oc idx : Nat} (h : qzNew oc idx len pc ls st hp = some r) : qzLeft hp.1 r := by
  unfold qzNew at h
  repeat' split at h
  all_goals first | exact (qz_no h).elim | exact qzGo_l h (Nat.le_refl _) | exact qzGo_l h (Nat.le_succ _)
theorem qzNewa_l {pc len : Nat} {ls st : List Value} {hp : qzH} {r : qzA} {kd w : Nat} (h : qzNewa kd len w pc ls st hp = some r) : qzLeft hp.1 r := by
  unfold qzNewa at h
  repeat' split at h
  all_goals first | exact (qz_no h).elim | exact qzGo_l h (Nat.le_refl _) | exact qzGo_l h (Nat.le_succ _)
theorem qzCall_r {kd oc idx len : Nat} {st : List Value} {hp : qzH} {r : qzA} (h : qzCall kd oc idx len st hp = some r) : ∃ q, r = .inr (.inl q) := by
  unfold qzCall at h
  repeat' split at h
  all_goals first | exact (qz_no h).elim | (cases h; exact ⟨_, rfl⟩)
theorem qzStat_r {oc idx len pc : Nat} {ls st : List Value} {hp : qzH} {r : qzA} (h : qzStat oc idx len pc ls st hp = some r) : qzLeft hp.1 r ∨ qzCall 0 oc idx len st hp = some r := by
  unfold qzStat at h
  repeat' split at h
  all_goals first | exact (qz_no h).elim | exact Or.inl (qzGo_l h (Nat.le_refl _)) | exact Or.inr h
theorem qzSpec_r {oc idx len pc : Nat} {ls st : List Value} {hp : qzH} {r : qzA} (h : qzSpec oc idx len pc ls st hp = some r) : qzLeft hp.1 r ∨ qzCall 2 oc idx len st hp = some r := by
  unfold qzSpec at h
  repeat' split at h
  all_goals first | exact (qz_no h).elim | exact Or.inl (qzGo_l h (Nat.le_refl _)) | exact Or.inr h
theorem qzVirt_r {oc idx len pc : Nat} {ls st : List Value} {hp : qzH} {r : qzA} (h : qzVirt oc idx len pc ls st hp = some r) : qzLeft hp.1 r ∨ qzCall 1 oc idx len st hp = some r := by
  unfold qzVirt at h
  repeat' split at h
  all_goals first | exact (qz_no h).elim | exact Or.inl (qzGo_l h (Nat.le_refl _)) | exact Or.inr h
theorem qzRet_r {mi len : Nat} {st : List Value} {r : qzA} (h : qzRet mi len st = some r) : ∃ v, r = .inr (.inr v) := by
  unfold qzRet at h
  repeat' split at h
  all_goals first | exact (qz_no h).elim | (cases h; exact ⟨_, rfl⟩)
theorem qzAret_r {mi len : Nat} {st : List Value} {r : qzA} (h : qzAret mi len st = some r) : ∃ v, r = .inr (.inr v) := by
  unfold qzAret at h
  repeat' split at h
  all_goals first | exact (qz_no h).elim | (cases h; exact ⟨_, rfl⟩)
theorem qzVret_r {mi len : Nat} {st : List Value} {r : qzA} (h : qzVret mi len st = some r) : ∃ v, r = .inr (.inr v) := by
  unfold qzVret at h
  repeat' split at h
  all_goals first | exact (qz_no h).elim | (cases h; exact ⟨_, rfl⟩)
theorem qzLeft.no2 {n : Nat} {q : (Nat × List Value × List Value) ⊕ Option Value} (h : qzLeft n (.inr q)) : False := by
  obtain ⟨x, hx, -⟩ := h
  cases hx
/-- which kinds of end a step has -/
theorem qzI_r {mi pc len : Nat} {ins : Instr} {ls st : List Value} {hp : qzH} {r : qzA} (h : qzI mi pc ins len ls st hp = some r) : qzLeft hp.1 r ∨ (∃ q, r = .inr (.inl q) ∧ ((∃ idx, ins = .invokestatic idx ∧ qzCall 0 (qzMd mi).2.2.2.2.2.2 idx len st hp = some r) ∨ (∃ idx, ins = .invokespecial idx ∧ qzCall 2 (qzMd mi).2.2.2.2.2.2 idx len st hp = some r) ∨ (∃ idx, ins = .invokevirtual idx ∧ qzCall 1 (qzMd mi).2.2.2.2.2.2 idx len st hp = some r))) ∨ (∃ v, r = .inr (.inr v) ∧ ((ins = .ireturn ∧ qzRet mi len st = some r) ∨ (ins = .areturn ∧ qzAret mi len st = some r) ∨ (ins = .return_ ∧ qzVret mi len st = some r))) := by
  cases ins with
  | iconst n => exact Or.inl (qzPush_l h)
  | bipush n => exact Or.inl (qzPush_l h)
  | sipush n => exact Or.inl (qzPush_l h)
  | aconst_null => exact Or.inl (qzPush_l h)
  | iload_n k => exact Or.inl (qzIload_l h)
  | iload k => exact Or.inl (qzIload_l h)
  | aload_n k => exact Or.inl (qzAload_l h)
  | aload k => exact Or.inl (qzAload_l h)
  | istore_n k => exact Or.inl (qzIstore_l h)
  | istore k => exact Or.inl (qzIstore_l h)
  | astore_n k => exact Or.inl (qzAstore_l h)
  | astore k => exact Or.inl (qzAstore_l h)
  | iadd => exact Or.inl (qzBin_l h)
  | isub => exact Or.inl (qzBin_l h)
  | imul => exact Or.inl (qzBin_l h)
  | iand => exact Or.inl (qzBin_l h)
  | ior => exact Or.inl (qzBin_l h)
  | ishl => exact Or.inl (qzBin_l h)
  | ishr => exact Or.inl (qzBin_l h)
  | idiv => exact Or.inl (qzBinD_l h)
  | irem => exact Or.inl (qzBinD_l h)
  | i2c => exact Or.inl (qzI2c_l h)
  | iinc i n => exact Or.inl (qzIinc_l h)
  | dup => exact Or.inl (qzDup_l h)
  | dup2 => exact Or.inl (qzDup2_l h)
  | pop => exact Or.inl (qzPop_l h)
  | ifnull off => exact Or.inl (qzIfN_l h)
  | ifnonnull off => exact Or.inl (qzIfN_l h)
  | goto off => exact Or.inl (qzGoto_l h)
  | tableswitch d lo hi offs => exact Or.inl (qzTsw_l h)
  | iaload => exact Or.inl (qzIald_l h)
  | caload => exact Or.inl (qzCald_l h)
  | aaload => exact Or.inl (qzAald_l h)
  | iastore => exact Or.inl (qzIast_l h)
  | castore => exact Or.inl (qzCast_l h)
  | aastore => exact Or.inl (qzAast_l h)
  | arraylength => exact Or.inl (qzAlen_l h)
  | getfield idx => exact Or.inl (qzGetf_l h)
  | putfield idx => exact Or.inl (qzPutf_l h)
  | getstatic idx => exact Or.inl (qzGets_l h)
  | ldc idx => exact Or.inl (qzLdc_l h)
  | new idx => exact Or.inl (qzNew_l h)
  | ifCond k off => exact Or.inl (qzIf1_l h)
  | if_icmp k off => exact Or.inl (qzIf2_l h)
  | newarray t => cases t with
    | int => exact Or.inl (qzNewa_l h)
    | char => exact Or.inl (qzNewa_l h)
    | _ => exact (qz_no h).elim
  | anewarray idx =>
    have h1 : (if (qzMd mi).2.2.2.2.2.2 = 2 ∧ idx = 7 then qzNewa 6 len 3 pc ls st hp else none) = some r := h
    split at h1
    · exact Or.inl (qzNewa_l h1)
    · exact (qz_no h1).elim
  | invokestatic idx =>
    rcases qzStat_r h with h1 | h1
    · exact Or.inl h1
    · obtain ⟨q, rfl⟩ := qzCall_r h1
      exact Or.inr (Or.inl ⟨q, rfl, Or.inl ⟨idx, rfl, h1⟩⟩)
  | invokespecial idx =>
    rcases qzSpec_r h with h1 | h1
    · exact Or.inl h1
    · obtain ⟨q, rfl⟩ := qzCall_r h1
      exact Or.inr (Or.inl ⟨q, rfl, Or.inr (Or.inl ⟨idx, rfl, h1⟩)⟩)
  | invokevirtual idx =>
    rcases qzVirt_r h with h1 | h1
    · exact Or.inl h1
    · obtain ⟨q, rfl⟩ := qzCall_r h1
      exact Or.inr (Or.inl ⟨q, rfl, Or.inr (Or.inr ⟨idx, rfl, h1⟩)⟩)
  | ireturn =>
    obtain ⟨v, rfl⟩ := qzRet_r h
    exact Or.inr (Or.inr ⟨v, rfl, Or.inl ⟨rfl, h⟩⟩)
  | areturn =>
    obtain ⟨v, rfl⟩ := qzAret_r h
    exact Or.inr (Or.inr ⟨v, rfl, Or.inr (Or.inl ⟨rfl, h⟩)⟩)
  | return_ =>
    obtain ⟨v, rfl⟩ := qzVret_r h
    exact Or.inr (Or.inr ⟨v, rfl, Or.inr (Or.inr ⟨rfl, h⟩)⟩)
  | _ => exact (qz_no h).elim
section QZ6
variable {p : Program} {l : Launch} {e : Env} {R : Room} {s : State} {m : MethodId} {args : Array Value} {below : List Frame} {meth : Method} {c : Code} {Q : State → Prop} {G : qzGT} {D : va_G} {z0 : Nat} {S : Nat → Nat} {mi pc n0 : Nat} {ad : Nat → Nat} {lsS : Array Slot} {H : Heap} {locs : List Loc} {ls st ls' st' : List Value} {hp hp' : qzH} {pc' len : Nat}
theorem qz_go {ins : Instr} (hTx : qzTx l) (F : qzFx p G D z0 S s m args meth c mi) (C : qzCx G D z0 S s mi ad lsS H locs ls st hp) (hd : decode (qzMd mi).2.1 pc = .ok (ins, len)) (h : qzI mi pc ins len ls st hp = (some (.inl (pc', ls', st', hp')) : Option qzA)) (hR : qzRo R n0 hp.1 hp'.1)
    (kk : qzKK p l e R s m args below meth c Q G D z0 S mi n0 hp.1 ad pc' ls' st' hp') : qzG p l e R s m args below meth c Q n0 pc ad lsS H locs st hp.1 := by
  cases ins with
  | iconst n => exact qz_iconst F C hd h kk
  | bipush n => exact qz_bipush F C hd h kk
  | sipush n => exact qz_sipush F C hd h kk
  | aconst_null => exact qz_aconst_null F C hd h kk
  | iload_n k => exact qz_iload_n F C hd h kk
  | iload k => exact qz_iload F C hd h kk
  | aload_n k => exact qz_aload_n F C hd h kk
  | aload k => exact qz_aload F C hd h kk
  | istore_n k => exact qz_istore_n F C hd h kk
  | istore k => exact qz_istore F C hd h kk
  | astore_n k => exact qz_astore_n F C hd h kk
  | astore k => exact qz_astore F C hd h kk
  | iadd => exact qz_iadd F C hd h kk
  | isub => exact qz_isub F C hd h kk
  | imul => exact qz_imul F C hd h kk
  | iand => exact qz_iand F C hd h kk
  | ior => exact qz_ior F C hd h kk
  | ishl => exact qz_ishl F C hd h kk
  | ishr => exact qz_ishr F C hd h kk
  | idiv => exact qz_idiv F C hd h kk
  | irem => exact qz_irem F C hd h kk
  | i2c => exact qz_i2c F C hd h kk
  | iinc i n => exact qz_iinc F C hd h kk
  | dup => exact qz_dup F C hd h kk
  | dup2 => exact qz_dup2 F C hd h kk
  | pop => exact qz_pop F C hd h kk
  | ifnull off => exact qz_ifnull F C hd h kk
  | ifnonnull off => exact qz_ifnonnull F C hd h kk
  | goto off => exact qz_goto F C hd h kk
  | tableswitch d lo hi offs => exact qz_tableswitch F C hd h kk
  | iaload => exact qz_iaload F C hd h kk
  | caload => exact qz_caload F C hd h kk
  | aaload => exact qz_aaload F C hd h kk
  | iastore => exact qz_iastore F C hd h kk
  | castore => exact qz_castore F C hd h kk
  | aastore => exact qz_aastore F C hd h kk
  | arraylength => exact qz_alen F C hd h kk
  | getfield idx => exact qz_getfield F C hd h kk
  | putfield idx => exact qz_putfield F C hd h kk
  | getstatic idx => exact qz_getstatic F C hd h kk
  | ldc idx => exact qz_ldc F C hd h kk
  | new idx => exact qz_new F C hd h hR kk
  | ifCond k off => cases k with
    | eq => exact qz_if_eq F C hd h kk
    | ne => exact qz_if_ne F C hd h kk
    | lt => exact qz_if_lt F C hd h kk
    | ge => exact qz_if_ge F C hd h kk
    | gt => exact qz_if_gt F C hd h kk
    | le => exact qz_if_le F C hd h kk
  | if_icmp k off => cases k with
    | eq => exact qz_icmp_eq F C hd h kk
    | ne => exact qz_icmp_ne F C hd h kk
    | lt => exact qz_icmp_lt F C hd h kk
    | ge => exact qz_icmp_ge F C hd h kk
    | gt => exact qz_icmp_gt F C hd h kk
    | le => exact qz_icmp_le F C hd h kk
  | newarray t => cases t with
    | int => exact qz_newarrayI F C hd h hR kk
    | char => exact qz_newarrayC F C hd h hR kk
    | _ => exact (qz_no h).elim
  | anewarray idx => exact qz_anewarray F C hd h hR kk
  | invokestatic idx => exact qz_stat F C hd h hR kk
  | invokespecial idx => exact qz_spec F C hd h hR kk
  | invokevirtual idx => exact qz_virt hTx F C hd h hR kk
  | ireturn => obtain ⟨v, hv⟩ := qzRet_r h; cases hv
  | areturn => obtain ⟨v, hv⟩ := qzAret_r h; cases hv
  | return_ => obtain ⟨v, hv⟩ := qzVret_r h; cases hv
  | _ => exact (qz_no h).elim
/-- an answer -/
theorem qz_end {ins : Instr} {nn : Nat} {ad0 : Nat → Nat} {v : Option Value} (F : qzFx p G D z0 S s m args meth c mi) (C : qzCx G D z0 S s mi ad lsS H locs ls st hp) (hag : qzAg nn ad0 ad) (hd : decode (qzMd mi).2.1 pc = .ok (ins, len)) (h : (ins = .ireturn ∧ qzRet mi len st = (some (.inr (.inr v)) : Option qzA)) ∨ (ins = .areturn ∧ qzAret mi len st = (some (.inr (.inr v)) : Option qzA)) ∨ (ins = .return_ ∧ qzVret mi len st = (some (.inr (.inr v)) : Option qzA))) (k1 k2 : Nat) :
    W p l e R s m args below meth c H locs k1 k2 (MQ below (qzPost G D z0 S ad0 nn v hp) args s k1 k2 (qzA0 z0)) (F0 m pc lsS (st.map (qzR ad))) := by
  obtain ⟨hx, hb, hml, hr, hown, hts, hlk, hnm, hK, hNw, hSt, hz, hmi⟩ := id F
  obtain ⟨c1, c2, c3, c4, c5, hP, hD, hS⟩ := id C
  have fin : ∀ (w : Option Value), (∀ x, w = some x → qzOk hp.1 x) → ∀ t : State, t.heap = H → s.WarmedH t.vm → qzPost G D z0 S ad0 nn w hp args s (.returned (w.map (qzR ad))) t := fun w hw t ht _ => ⟨⟨ad, rfl, hag, c4, c3, c5, hw, by rw [ht]; exact hP, hD⟩, hS.F ht⟩
  rcases h with ⟨rfl, h⟩ | ⟨rfl, h⟩ | ⟨rfl, h⟩
  · unfold qzRet at h
    split at h
    · rename_i hw
      subst hw
      split at h
      · split at h
        · rename_i ty hty
          split at h
          · rename_i hn
            cases h
            exact W.zret hx hb (hr.trans hty) hn (fin (some (.int _)) (fun x hx => by cases hx; trivial)) hS.2.2 hd hlk
          · exact (qz_no h).elim
        · exact (qz_no h).elim
      · exact (qz_no h).elim
    · exact (qz_no h).elim
  · unfold qzAret at h
    split at h
    · rename_i hw
      subst hw
      split at h
      · rename_i C0 hty
        split at h
        · rename_i a
          cases h
          exact W.aret hx hb (hr.trans hty) (Or.inl ⟨_, rfl⟩) (Or.inr ⟨_, rfl⟩) (fin (some (.ref a)) (fun x hx => by cases hx; exact (List.forall_mem_cons.mp C.2.1).1)) hS.2.2 hd hlk
        · cases h
          exact W.aret hx hb (hr.trans hty) (Or.inl ⟨_, rfl⟩) (Or.inl rfl) (fin (some .null) (fun x hx => by cases hx; trivial)) hS.2.2 hd hlk
        · exact (qz_no h).elim
      · exact (qz_no h).elim
    · exact (qz_no h).elim
  · unfold qzVret at h
    split at h
    · rename_i hw
      subst hw
      split at h
      · rename_i hty
        split at h
        · cases h
          exact W.vret hx hb (hr.trans hty) (fin none (fun x hx => by cases hx)) hS.2.2 hd hlk
        · exact (qz_no h).elim
      · exact (qz_no h).elim
    · exact (qz_no h).elim
end QZ6
/-- a contract out of the walk of its body -/
theorem qz_met {l : Launch} {G : qzGT} {D : va_G} {z0 : Nat} {S : Nat → Nat} {ad : Nat → Nat} {d mj : Nat} {as : List Value} {hp : qzH} {v : Option Value} {hp1 : qzH} (hmj : mj < 149) (has : ∀ v ∈ as, qzOk hp.1 v) (hl : as.length ≤ (qzMd mj).2.2.1) (hw : qzWf hp) (h1 : hp.1 < 1000) (hc4 : ∀ i, ad (1000 + i) = S i)
    (hW : ∀ {p : Program} {e : Env} {s : State} {m : MethodId} {args : Array Value} {below : List Frame} {meth : Method} {c : Code} {lsS : Array Slot} {H : Heap} {locs : List Loc}, qzFx p G D z0 S s m args meth c mj → qzCx G D z0 S s mj ad lsS H locs (qzLoc mj as) [] hp →
      W p l e (qzRm d (hp1.1 - hp.1) (qzSl hp1.1 - qzSl hp.1)) s m args below meth c H locs (hp.1 - hp.1) (qzSl hp.1 - qzSl hp.1) (MQ below (qzPost G D z0 S ad hp.1 v hp1) args s (hp1.1 - hp.1) (qzSl hp1.1 - qzSl hp.1) (qzA0 z0)) (F0 m 0 lsS [])) : qzMet l G D z0 S ad d mj as hp v hp1 := by
  obtain ⟨pm1, pm2, pm3, pm4, ⟨pm5, pm6, pm7⟩, pmS, pmV, pmI⟩ := qzPm_at hmj
  unfold qzMet
  refine Met.ofW (cc := (qzMd mj).2.1) (maxL := (qzMd mj).2.2.1) (ret := (qzMd mj).2.2.2.1) pm1 rfl ?_
  intro p e s m args below meth c s₁ B hml hv
  obtain ⟨rfl, hz, hP, hK, hD, hN, hS⟩ := hv
  rw [lg_entry_eq]
  have hts0 := atoms_spec B.pre
  have hts : ∀ w ∈ qzWs, w.before (as.map (qzR ad)).toArray s = true := fun w hw => hts0 w (List.mem_cons_of_mem _ hw)
  have F : qzFx p G D z0 S s m (as.map (qzR ad)).toArray meth c mj := ⟨B.exec, B.bytes, hml, B.returns, findClass_of_methodNamed B.named, hts, B.notSynchronized, (name_of_methodNamed B.named B.method).1, hK, hN, hS, hz, hmj⟩
  have g := hW (below := below) F ⟨qzLs.entry has hl, fun v hv => (List.not_mem_nil hv).elim, hw, hc4, h1, hP, hD, va_S.rf⟩ (e := e)
  rw [Nat.sub_self, Nat.sub_self] at g
  exact g
/-- A RUN OF THE INTERPRETER IS A RUN OF THE MACHINE -/
theorem qz_sound (l : Launch) (hTx : qzTx l) : ∀ (f d mi pc : Nat) (ls st : List Value) (hp : qzH) (v : Option Value) (hpF : qzH), qzX f d mi pc ls st hp = some (v, hpF) → hp.1 ≤ hpF.1 ∧
    ∀ {p : Program} {e : Env} {s : State} {m : MethodId} {args : Array Value} {below : List Frame} {meth : Method} {c : Code} {G : qzGT} {D : va_G} {z0 : Nat} {S : Nat → Nat} {n0 nn : Nat} {ad0 ad : Nat → Nat} {lsS : Array Slot} {H : Heap} {locs : List Loc}, n0 ≤ hp.1 → nn ≤ hp.1 → qzAg nn ad0 ad → qzFx p G D z0 S s m args meth c mi → qzCx G D z0 S s mi ad lsS H locs ls st hp →
      W p l e (qzRm d (hpF.1 - n0) (qzSl hpF.1 - qzSl n0)) s m args below meth c H locs (hp.1 - n0) (qzSl hp.1 - qzSl n0) (MQ below (qzPost G D z0 S ad0 nn v hpF) args s (hpF.1 - n0) (qzSl hpF.1 - qzSl n0) (qzA0 z0)) (F0 m pc lsS (st.map (qzR ad))) := by
  intro f
  induction f with
  | zero => intro d mi pc ls st hp v hpF h; cases h
  | succ f ih =>
    intro d mi pc ls st hp v hpF h
    unfold qzX at h
    split at h
    · cases h
    · rename_i pc' ls' st' hp' hs
      obtain ⟨m1, hW⟩ := ih _ _ _ _ _ _ _ _ h
      unfold qzStep at hs
      split at hs
      · rename_i ins len hd
        have hmo : hp.1 ≤ hp'.1 := by
          rcases qzI_r hs with ⟨q, hq, hn⟩ | ⟨q, hq, -⟩ | ⟨q, hq, -⟩
          · cases hq; exact hn
          · cases hq
          · cases hq
        refine ⟨Nat.le_trans hmo m1, fun {p e s m args below meth c G D z0 S n0 nn ad0 ad lsS H locs} hn0 hnn hag F C => ?_⟩
        have r1 := qzSl_mono m1
        refine qz_go hTx F C hd hs (n0 := n0) (hp' := hp') ⟨hn0, by show hp'.1 - n0 ≤ hpF.1 - n0; omega, by show qzSl hp'.1 - qzSl n0 ≤ qzSl hpF.1 - qzSl n0; omega, by show 12 ≤ d + 12; omega, by show 400 ≤ 400 + 100 * d; omega⟩ ?_
        intro ad' lsS' H' locs' hag' C'
        exact hW (Nat.le_trans hn0 hmo) (Nat.le_trans hnn hmo) (hag.tr hag' hnn) F C'
      · cases hs
    · rename_i v' hs
      cases h
      refine ⟨Nat.le_refl _, fun {p e s m args below meth c G D z0 S n0 nn ad0 ad lsS H locs} hn0 hnn hag F C => ?_⟩
      unfold qzStep at hs
      split at hs
      · rename_i ins len hd
        rcases qzI_r hs with ⟨q, hq, hn⟩ | ⟨q, hq, -⟩ | ⟨q, hq, hr⟩
        · cases hq
        · cases hq
        · exact qz_end F C hag hd hr _ _
      · cases hs
    · rename_i mj as rest hs
      split at h
      · cases h
      · rename_i d'
        split at h
        · cases h
        · rename_i v1 hp1 hcal
          obtain ⟨m1, hWc⟩ := ih _ _ _ _ _ _ _ _ hcal
          obtain ⟨m2, hWr⟩ := ih _ _ _ _ _ _ _ _ h
          refine ⟨Nat.le_trans m1 m2, fun {p e s m args below meth c G D z0 S n0 nn ad0 ad lsS H locs} hn0 hnn hag F C => ?_⟩
          unfold qzStep at hs
          split at hs
          · rename_i ins len hd
            have r1 := qzSl_mono m1
            have r2 := qzSl_mono m2
            have r3 := qzSl_mono hn0
            have hRc : qzRc (qzRm (d' + 1) (hpF.1 - n0) (qzSl hpF.1 - qzSl n0)) d' n0 hp.1 hp1.1 := ⟨by show d' + 13 ≤ d' + 1 + 12; omega, by show 500 + 100 * d' ≤ 400 + 100 * (d' + 1); omega, by show hp.1 - n0 + (hp1.1 - hp.1) ≤ hpF.1 - n0; omega, by show qzSl hp.1 - qzSl n0 + (qzSl hp1.1 - qzSl hp.1) ≤ qzSl hpF.1 - qzSl n0; omega, hn0, m1⟩
            have hKK : qzKK p l e (qzRm (d' + 1) (hpF.1 - n0) (qzSl hpF.1 - qzSl n0)) s m args below meth c (MQ below (qzPost G D z0 S ad0 nn v hpF) args s (hpF.1 - n0) (qzSl hpF.1 - qzSl n0) (qzA0 z0)) G D z0 S mi n0 hp.1 ad (pc + 3) ls (v1.toList ++ rest) hp1 := fun ad' lsS' H' locs' hag' C' => hWr (Nat.le_trans hn0 m1) (Nat.le_trans hnn m1) (hag.tr hag' hnn) F C'
            have hmet : mj < 149 → (∀ w ∈ as, qzOk hp.1 w) → as.length ≤ (qzMd mj).2.2.1 → qzMet l G D z0 S ad d' mj as hp v1 hp1 := fun hmj has hal => qz_met hmj has hal C.2.2.1 C.2.2.2.2.1 C.2.2.2.1 (fun F' C' => hWc (Nat.le_refl _) (Nat.le_refl _) qzAg.rf F' C')
            have hokS : ∀ kd oc idx len, qzCall kd oc idx len st hp = (some (.inr (.inl (mj, as, rest))) : Option qzA) → qzMet l G D z0 S ad d' mj as hp v1 hp1 := by
              intro kd oc idx len hc
              obtain ⟨-, -, hmj, hkd, -, hcase⟩ := qzCall_inv hc
              obtain ⟨-, -, -, -, ⟨-, pm6, -⟩, -⟩ := qzPm_at hmj
              rcases hcase with ⟨h0, hlen, hst⟩ | ⟨h0, b, as1, rfl, hab, hlen, hst⟩
              · refine hmet hmj (fun w hw => C.2.1 w (by rw [hst]; exact List.mem_append_left _ (List.mem_reverse.mpr hw))) ?_
                rw [hlen]; split at pm6 <;> omega
              · refine hmet hmj (fun w hw => C.2.1 w ?_) ?_
                · rw [hst]
                  rcases List.mem_cons.mp hw with rfl | hw
                  · exact List.mem_append_right _ List.mem_cons_self
                  · exact List.mem_append_left _ (List.mem_reverse.mpr hw)
                · rw [List.length_cons, hlen]
                  rw [hkd, if_neg h0] at pm6
                  exact pm6
            rcases qzI_r hs with ⟨q, hq, hn⟩ | ⟨q, hq, hr⟩ | ⟨q, hq, hr⟩
            · cases hq
            · rcases hr with ⟨idx, rfl, hc⟩ | ⟨idx, rfl, hc⟩ | ⟨idx, rfl, hc⟩
              · exact qz_callS F C hd hc (hokS _ _ _ _ hc) hRc hKK
              · exact qz_callI F C hd hc (hokS _ _ _ _ hc) hRc hKK
              · exact qz_callV F C hd hc (hokS _ _ _ _ hc) hRc hKK
            · cases hq
          · cases hs
/-- the contract of a run, from its first place -/
theorem qz_contract {l : Launch} (hTx : qzTx l) {f d mj : Nat} {as : List Value} {hp hp1 : qzH} {v : Option Value} (h : qzX f d mj 0 (qzLoc mj as) [] hp = some (v, hp1)) {G : qzGT} {D : va_G} {z0 : Nat} {S : Nat → Nat} {ad : Nat → Nat} (hmj : mj < 149) (has : ∀ v ∈ as, qzOk hp.1 v) (hl : as.length ≤ (qzMd mj).2.2.1) (hw : qzWf hp) (h1 : hp.1 < 1000) (hc4 : ∀ i, ad (1000 + i) = S i) : qzMet l G D z0 S ad d mj as hp v hp1 :=
  qz_met hmj has hl hw h1 hc4 (fun F' C' => (qz_sound l hTx f d mj 0 _ _ hp v hp1 h).2 (Nat.le_refl _) (Nat.le_refl _) qzAg.rf F' C')
end
