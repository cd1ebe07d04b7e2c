-- ===== PART A: goes FIRST, ahead of the names: the tables' words, and 'selects' of the private methods out of them =====
/-- a private method of a class that the tables say can be made, by its rows of tables_1 -/
def lw_okq (q : MethodName × Nat) : Prop := (q.1.cls ≠ "java/lang/invoke/MethodHandle" ∧ q.1.cls ≠ "java/lang/invoke/VarHandle") ∧ Cond.instantiable q.1.cls q.2 ∈ tables_1 ∧ Cond.privateMethod q.1 ∈ tables_1 ∧ Cond.instanceMethod q.1 ∈ tables_1
theorem lw_p0 : lw_okq (⟨"BoltTailors", "errorOfCut", "(I)I"⟩, 10) := ⟨⟨by decide +kernel, by decide +kernel⟩, List.mem_of_getElem? (i := 13) (by decide +kernel), List.mem_of_getElem? (i := 188) (by decide +kernel), List.mem_of_getElem? (i := 189) (by decide +kernel)⟩
theorem lw_p1 : lw_okq (⟨"BoltTailors", "record", "()V"⟩, 10) := ⟨⟨by decide +kernel, by decide +kernel⟩, List.mem_of_getElem? (i := 13) (by decide +kernel), List.mem_of_getElem? (i := 203) (by decide +kernel), List.mem_of_getElem? (i := 204) (by decide +kernel)⟩
theorem lw_p2 : lw_okq (⟨"BoltTailors", "dropOldest", "()V"⟩, 10) := ⟨⟨by decide +kernel, by decide +kernel⟩, List.mem_of_getElem? (i := 13) (by decide +kernel), List.mem_of_getElem? (i := 207) (by decide +kernel), List.mem_of_getElem? (i := 208) (by decide +kernel)⟩
theorem lw_p3 : lw_okq (⟨"BoltTailors", "pastAt", "(I)LBoltTailors$Game;"⟩, 10) := ⟨⟨by decide +kernel, by decide +kernel⟩, List.mem_of_getElem? (i := 13) (by decide +kernel), List.mem_of_getElem? (i := 211) (by decide +kernel), List.mem_of_getElem? (i := 212) (by decide +kernel)⟩
theorem lw_p4 : lw_okq (⟨"BoltTailors", "cutBy", "(I)I"⟩, 10) := ⟨⟨by decide +kernel, by decide +kernel⟩, List.mem_of_getElem? (i := 13) (by decide +kernel), List.mem_of_getElem? (i := 272) (by decide +kernel), List.mem_of_getElem? (i := 273) (by decide +kernel)⟩
theorem lw_p5 : lw_okq (⟨"BoltTailors", "choice", "(LBoltTailors$Game;I)I"⟩, 10) := ⟨⟨by decide +kernel, by decide +kernel⟩, List.mem_of_getElem? (i := 13) (by decide +kernel), List.mem_of_getElem? (i := 276) (by decide +kernel), List.mem_of_getElem? (i := 277) (by decide +kernel)⟩
theorem lw_p6 : lw_okq (⟨"BoltTailors", "faultAsBolt", "()I"⟩, 10) := ⟨⟨by decide +kernel, by decide +kernel⟩, List.mem_of_getElem? (i := 13) (by decide +kernel), List.mem_of_getElem? (i := 369) (by decide +kernel), List.mem_of_getElem? (i := 370) (by decide +kernel)⟩
theorem lw_p7 : lw_okq (⟨"BoltTailors", "lettersAhead", "()I"⟩, 10) := ⟨⟨by decide +kernel, by decide +kernel⟩, List.mem_of_getElem? (i := 13) (by decide +kernel), List.mem_of_getElem? (i := 373) (by decide +kernel), List.mem_of_getElem? (i := 374) (by decide +kernel)⟩
theorem lw_p8 : lw_okq (⟨"BoltTailors", "signAt", "(I)C"⟩, 10) := ⟨⟨by decide +kernel, by decide +kernel⟩, List.mem_of_getElem? (i := 13) (by decide +kernel), List.mem_of_getElem? (i := 377) (by decide +kernel), List.mem_of_getElem? (i := 378) (by decide +kernel)⟩
theorem lw_p9 : lw_okq (⟨"BoltTailors", "faultBehindStar", "(I)I"⟩, 10) := ⟨⟨by decide +kernel, by decide +kernel⟩, List.mem_of_getElem? (i := 13) (by decide +kernel), List.mem_of_getElem? (i := 381) (by decide +kernel), List.mem_of_getElem? (i := 382) (by decide +kernel)⟩
theorem lw_p10 : lw_okq (⟨"BoltTailors", "digitsOfNumber", "(I)I"⟩, 10) := ⟨⟨by decide +kernel, by decide +kernel⟩, List.mem_of_getElem? (i := 13) (by decide +kernel), List.mem_of_getElem? (i := 385) (by decide +kernel), List.mem_of_getElem? (i := 386) (by decide +kernel)⟩
theorem lw_p11 : lw_okq (⟨"BoltTailors", "digitAt", "(I)I"⟩, 10) := ⟨⟨by decide +kernel, by decide +kernel⟩, List.mem_of_getElem? (i := 13) (by decide +kernel), List.mem_of_getElem? (i := 389) (by decide +kernel), List.mem_of_getElem? (i := 390) (by decide +kernel)⟩
theorem lw_p12 : lw_okq (⟨"BoltTailors", "faultAsCuts", "()I"⟩, 10) := ⟨⟨by decide +kernel, by decide +kernel⟩, List.mem_of_getElem? (i := 13) (by decide +kernel), List.mem_of_getElem? (i := 393) (by decide +kernel), List.mem_of_getElem? (i := 394) (by decide +kernel)⟩
theorem lw_p13 : lw_okq (⟨"BoltTailors", "layPattern", "(I)V"⟩, 10) := ⟨⟨by decide +kernel, by decide +kernel⟩, List.mem_of_getElem? (i := 13) (by decide +kernel), List.mem_of_getElem? (i := 404) (by decide +kernel), List.mem_of_getElem? (i := 405) (by decide +kernel)⟩
theorem lw_p14 : lw_okq (⟨"BoltTailors", "layLetters", "(III)V"⟩, 10) := ⟨⟨by decide +kernel, by decide +kernel⟩, List.mem_of_getElem? (i := 13) (by decide +kernel), List.mem_of_getElem? (i := 408) (by decide +kernel), List.mem_of_getElem? (i := 409) (by decide +kernel)⟩
theorem lw_p15 : lw_okq (⟨"BoltTailors", "codeOnPad", "(I)I"⟩, 10) := ⟨⟨by decide +kernel, by decide +kernel⟩, List.mem_of_getElem? (i := 13) (by decide +kernel), List.mem_of_getElem? (i := 416) (by decide +kernel), List.mem_of_getElem? (i := 417) (by decide +kernel)⟩
def lw_privs_1 : List (MethodName × Nat) := [(⟨"BoltTailors", "errorOfCut", "(I)I"⟩, 10), (⟨"BoltTailors", "record", "()V"⟩, 10), (⟨"BoltTailors", "dropOldest", "()V"⟩, 10), (⟨"BoltTailors", "pastAt", "(I)LBoltTailors$Game;"⟩, 10), (⟨"BoltTailors", "cutBy", "(I)I"⟩, 10), (⟨"BoltTailors", "choice", "(LBoltTailors$Game;I)I"⟩, 10), (⟨"BoltTailors", "faultAsBolt", "()I"⟩, 10), (⟨"BoltTailors", "lettersAhead", "()I"⟩, 10), (⟨"BoltTailors", "signAt", "(I)C"⟩, 10), (⟨"BoltTailors", "faultBehindStar", "(I)I"⟩, 10), (⟨"BoltTailors", "digitsOfNumber", "(I)I"⟩, 10), (⟨"BoltTailors", "digitAt", "(I)I"⟩, 10), (⟨"BoltTailors", "faultAsCuts", "()I"⟩, 10), (⟨"BoltTailors", "layPattern", "(I)V"⟩, 10), (⟨"BoltTailors", "layLetters", "(III)V"⟩, 10), (⟨"BoltTailors", "codeOnPad", "(I)I"⟩, 10)]
theorem lw_r1 : ∀ q ∈ lw_privs_1, lw_okq q := List.forall_mem_cons.mpr ⟨lw_p0, List.forall_mem_cons.mpr ⟨lw_p1, List.forall_mem_cons.mpr ⟨lw_p2, List.forall_mem_cons.mpr ⟨lw_p3, List.forall_mem_cons.mpr ⟨lw_p4, List.forall_mem_cons.mpr ⟨lw_p5, List.forall_mem_cons.mpr ⟨lw_p6, List.forall_mem_cons.mpr ⟨lw_p7, List.forall_mem_cons.mpr ⟨lw_p8, List.forall_mem_cons.mpr ⟨lw_p9, List.forall_mem_cons.mpr ⟨lw_p10, List.forall_mem_cons.mpr ⟨lw_p11, List.forall_mem_cons.mpr ⟨lw_p12, List.forall_mem_cons.mpr ⟨lw_p13, List.forall_mem_cons.mpr ⟨lw_p14, List.forall_mem_cons.mpr ⟨lw_p15, fun _ h => absurd h List.not_mem_nil⟩⟩⟩⟩⟩⟩⟩⟩⟩⟩⟩⟩⟩⟩⟩⟩
theorem lw_p16 : lw_okq (⟨"BoltTailors", "leadTold", "(LBoltTailors$Game;)I"⟩, 10) := ⟨⟨by decide +kernel, by decide +kernel⟩, List.mem_of_getElem? (i := 13) (by decide +kernel), List.mem_of_getElem? (i := 483) (by decide +kernel), List.mem_of_getElem? (i := 484) (by decide +kernel)⟩
theorem lw_p17 : lw_okq (⟨"BoltTailors", "leadGoneInto", "(LBoltTailors$Game;)I"⟩, 10) := ⟨⟨by decide +kernel, by decide +kernel⟩, List.mem_of_getElem? (i := 13) (by decide +kernel), List.mem_of_getElem? (i := 493) (by decide +kernel), List.mem_of_getElem? (i := 494) (by decide +kernel)⟩
theorem lw_p18 : lw_okq (⟨"BoltTailors", "leadOfCut", "(LBoltTailors$Game;I)I"⟩, 10) := ⟨⟨by decide +kernel, by decide +kernel⟩, List.mem_of_getElem? (i := 13) (by decide +kernel), List.mem_of_getElem? (i := 501) (by decide +kernel), List.mem_of_getElem? (i := 502) (by decide +kernel)⟩
theorem lw_p19 : lw_okq (⟨"BoltTailorsModel", "beginsAgain", "()V"⟩, 14) := ⟨⟨by decide +kernel, by decide +kernel⟩, List.mem_of_getElem? (i := 529) (by decide +kernel), List.mem_of_getElem? (i := 535) (by decide +kernel), List.mem_of_getElem? (i := 536) (by decide +kernel)⟩
theorem lw_p20 : lw_okq (⟨"BoltTailorsModel", "errorCut", "(I)I"⟩, 14) := ⟨⟨by decide +kernel, by decide +kernel⟩, List.mem_of_getElem? (i := 529) (by decide +kernel), List.mem_of_getElem? (i := 586) (by decide +kernel), List.mem_of_getElem? (i := 587) (by decide +kernel)⟩
theorem lw_p21 : lw_okq (⟨"BoltTailorsModel", "records", "()V"⟩, 14) := ⟨⟨by decide +kernel, by decide +kernel⟩, List.mem_of_getElem? (i := 529) (by decide +kernel), List.mem_of_getElem? (i := 593) (by decide +kernel), List.mem_of_getElem? (i := 594) (by decide +kernel)⟩
theorem lw_p22 : lw_okq (⟨"BoltTailorsModel", "goCut", "(IZ)I"⟩, 14) := ⟨⟨by decide +kernel, by decide +kernel⟩, List.mem_of_getElem? (i := 529) (by decide +kernel), List.mem_of_getElem? (i := 600) (by decide +kernel), List.mem_of_getElem? (i := 601) (by decide +kernel)⟩
theorem lw_p23 : lw_okq (⟨"BoltTailorsModel", "coatOf", "(II)I"⟩, 14) := ⟨⟨by decide +kernel, by decide +kernel⟩, List.mem_of_getElem? (i := 529) (by decide +kernel), List.mem_of_getElem? (i := 607) (by decide +kernel), List.mem_of_getElem? (i := 608) (by decide +kernel)⟩
theorem lw_p24 : lw_okq (⟨"BoltTailorsModel", "worthOf", "(III)I"⟩, 14) := ⟨⟨by decide +kernel, by decide +kernel⟩, List.mem_of_getElem? (i := 529) (by decide +kernel), List.mem_of_getElem? (i := 611) (by decide +kernel), List.mem_of_getElem? (i := 612) (by decide +kernel)⟩
theorem lw_p25 : lw_okq (⟨"BoltTailorsModel", "folds", "(II)Z"⟩, 14) := ⟨⟨by decide +kernel, by decide +kernel⟩, List.mem_of_getElem? (i := 529) (by decide +kernel), List.mem_of_getElem? (i := 615) (by decide +kernel), List.mem_of_getElem? (i := 616) (by decide +kernel)⟩
theorem lw_p26 : lw_okq (⟨"BoltTailorsModel", "matches", "(II)Z"⟩, 14) := ⟨⟨by decide +kernel, by decide +kernel⟩, List.mem_of_getElem? (i := 529) (by decide +kernel), List.mem_of_getElem? (i := 619) (by decide +kernel), List.mem_of_getElem? (i := 620) (by decide +kernel)⟩
theorem lw_p27 : lw_okq (⟨"BoltTailorsModel", "adds", "(III)V"⟩, 14) := ⟨⟨by decide +kernel, by decide +kernel⟩, List.mem_of_getElem? (i := 529) (by decide +kernel), List.mem_of_getElem? (i := 623) (by decide +kernel), List.mem_of_getElem? (i := 624) (by decide +kernel)⟩
theorem lw_p28 : lw_okq (⟨"BoltTailorsModel", "isOver", "()Z"⟩, 14) := ⟨⟨by decide +kernel, by decide +kernel⟩, List.mem_of_getElem? (i := 529) (by decide +kernel), List.mem_of_getElem? (i := 631) (by decide +kernel), List.mem_of_getElem? (i := 632) (by decide +kernel)⟩
theorem lw_p29 : lw_okq (⟨"BoltTailorsModel", "laysLeads", "()V"⟩, 14) := ⟨⟨by decide +kernel, by decide +kernel⟩, List.mem_of_getElem? (i := 529) (by decide +kernel), List.mem_of_getElem? (i := 635) (by decide +kernel), List.mem_of_getElem? (i := 636) (by decide +kernel)⟩
theorem lw_p30 : lw_okq (⟨"BoltTailorsModel", "laysLead", "(IIII)V"⟩, 14) := ⟨⟨by decide +kernel, by decide +kernel⟩, List.mem_of_getElem? (i := 529) (by decide +kernel), List.mem_of_getElem? (i := 639) (by decide +kernel), List.mem_of_getElem? (i := 640) (by decide +kernel)⟩
theorem lw_p31 : lw_okq (⟨"BoltTailorsModel", "most", "(I)I"⟩, 14) := ⟨⟨by decide +kernel, by decide +kernel⟩, List.mem_of_getElem? (i := 529) (by decide +kernel), List.mem_of_getElem? (i := 643) (by decide +kernel), List.mem_of_getElem? (i := 644) (by decide +kernel)⟩
def lw_privs_2 : List (MethodName × Nat) := [(⟨"BoltTailors", "leadTold", "(LBoltTailors$Game;)I"⟩, 10), (⟨"BoltTailors", "leadGoneInto", "(LBoltTailors$Game;)I"⟩, 10), (⟨"BoltTailors", "leadOfCut", "(LBoltTailors$Game;I)I"⟩, 10), (⟨"BoltTailorsModel", "beginsAgain", "()V"⟩, 14), (⟨"BoltTailorsModel", "errorCut", "(I)I"⟩, 14), (⟨"BoltTailorsModel", "records", "()V"⟩, 14), (⟨"BoltTailorsModel", "goCut", "(IZ)I"⟩, 14), (⟨"BoltTailorsModel", "coatOf", "(II)I"⟩, 14), (⟨"BoltTailorsModel", "worthOf", "(III)I"⟩, 14), (⟨"BoltTailorsModel", "folds", "(II)Z"⟩, 14), (⟨"BoltTailorsModel", "matches", "(II)Z"⟩, 14), (⟨"BoltTailorsModel", "adds", "(III)V"⟩, 14), (⟨"BoltTailorsModel", "isOver", "()Z"⟩, 14), (⟨"BoltTailorsModel", "laysLeads", "()V"⟩, 14), (⟨"BoltTailorsModel", "laysLead", "(IIII)V"⟩, 14), (⟨"BoltTailorsModel", "most", "(I)I"⟩, 14)]
theorem lw_r2 : ∀ q ∈ lw_privs_2, lw_okq q := List.forall_mem_cons.mpr ⟨lw_p16, List.forall_mem_cons.mpr ⟨lw_p17, List.forall_mem_cons.mpr ⟨lw_p18, List.forall_mem_cons.mpr ⟨lw_p19, List.forall_mem_cons.mpr ⟨lw_p20, List.forall_mem_cons.mpr ⟨lw_p21, List.forall_mem_cons.mpr ⟨lw_p22, List.forall_mem_cons.mpr ⟨lw_p23, List.forall_mem_cons.mpr ⟨lw_p24, List.forall_mem_cons.mpr ⟨lw_p25, List.forall_mem_cons.mpr ⟨lw_p26, List.forall_mem_cons.mpr ⟨lw_p27, List.forall_mem_cons.mpr ⟨lw_p28, List.forall_mem_cons.mpr ⟨lw_p29, List.forall_mem_cons.mpr ⟨lw_p30, List.forall_mem_cons.mpr ⟨lw_p31, fun _ h => absurd h List.not_mem_nil⟩⟩⟩⟩⟩⟩⟩⟩⟩⟩⟩⟩⟩⟩⟩⟩
theorem lw_p32 : lw_okq (⟨"BoltTailorsModel", "leadBy", "(IIIIIZ)I"⟩, 14) := ⟨⟨by decide +kernel, by decide +kernel⟩, List.mem_of_getElem? (i := 529) (by decide +kernel), List.mem_of_getElem? (i := 647) (by decide +kernel), List.mem_of_getElem? (i := 648) (by decide +kernel)⟩
theorem lw_p33 : lw_okq (⟨"BoltTailorsModel", "leadAt", "(IIII)I"⟩, 14) := ⟨⟨by decide +kernel, by decide +kernel⟩, List.mem_of_getElem? (i := 529) (by decide +kernel), List.mem_of_getElem? (i := 651) (by decide +kernel), List.mem_of_getElem? (i := 652) (by decide +kernel)⟩
theorem lw_p34 : lw_okq (⟨"BoltTailorsModel", "cutsBy", "(Z)I"⟩, 14) := ⟨⟨by decide +kernel, by decide +kernel⟩, List.mem_of_getElem? (i := 529) (by decide +kernel), List.mem_of_getElem? (i := 658) (by decide +kernel), List.mem_of_getElem? (i := 659) (by decide +kernel)⟩
theorem lw_p35 : lw_okq (⟨"BoltTailorsModel", "choice", "(Z)I"⟩, 14) := ⟨⟨by decide +kernel, by decide +kernel⟩, List.mem_of_getElem? (i := 529) (by decide +kernel), List.mem_of_getElem? (i := 662) (by decide +kernel), List.mem_of_getElem? (i := 663) (by decide +kernel)⟩
theorem lw_p36 : lw_okq (⟨"BoltTailorsModel", "own", "()I"⟩, 14) := ⟨⟨by decide +kernel, by decide +kernel⟩, List.mem_of_getElem? (i := 529) (by decide +kernel), List.mem_of_getElem? (i := 666) (by decide +kernel), List.mem_of_getElem? (i := 667) (by decide +kernel)⟩
theorem lw_p37 : lw_okq (⟨"BoltTailorsModel", "others", "()I"⟩, 14) := ⟨⟨by decide +kernel, by decide +kernel⟩, List.mem_of_getElem? (i := 529) (by decide +kernel), List.mem_of_getElem? (i := 670) (by decide +kernel), List.mem_of_getElem? (i := 671) (by decide +kernel)⟩
theorem lw_p38 : lw_okq (⟨"BoltTailorsModel", "isBolt", "()Z"⟩, 14) := ⟨⟨by decide +kernel, by decide +kernel⟩, List.mem_of_getElem? (i := 529) (by decide +kernel), List.mem_of_getElem? (i := 702) (by decide +kernel), List.mem_of_getElem? (i := 703) (by decide +kernel)⟩
theorem lw_p39 : lw_okq (⟨"BoltTailorsModel", "here", "()I"⟩, 14) := ⟨⟨by decide +kernel, by decide +kernel⟩, List.mem_of_getElem? (i := 529) (by decide +kernel), List.mem_of_getElem? (i := 706) (by decide +kernel), List.mem_of_getElem? (i := 707) (by decide +kernel)⟩
theorem lw_p40 : lw_okq (⟨"BoltTailorsModel", "takes", "(Z)V"⟩, 14) := ⟨⟨by decide +kernel, by decide +kernel⟩, List.mem_of_getElem? (i := 529) (by decide +kernel), List.mem_of_getElem? (i := 713) (by decide +kernel), List.mem_of_getElem? (i := 714) (by decide +kernel)⟩
theorem lw_p41 : lw_okq (⟨"BoltTailorsModel", "takesRule", "()V"⟩, 14) := ⟨⟨by decide +kernel, by decide +kernel⟩, List.mem_of_getElem? (i := 529) (by decide +kernel), List.mem_of_getElem? (i := 717) (by decide +kernel), List.mem_of_getElem? (i := 718) (by decide +kernel)⟩
theorem lw_p42 : lw_okq (⟨"BoltTailorsModel", "takesDigit", "(II)I"⟩, 14) := ⟨⟨by decide +kernel, by decide +kernel⟩, List.mem_of_getElem? (i := 529) (by decide +kernel), List.mem_of_getElem? (i := 721) (by decide +kernel), List.mem_of_getElem? (i := 722) (by decide +kernel)⟩
theorem lw_p43 : lw_okq (⟨"BoltTailorsModel", "areCuts", "()Z"⟩, 14) := ⟨⟨by decide +kernel, by decide +kernel⟩, List.mem_of_getElem? (i := 529) (by decide +kernel), List.mem_of_getElem? (i := 725) (by decide +kernel), List.mem_of_getElem? (i := 726) (by decide +kernel)⟩
theorem lw_p44 : lw_okq (⟨"BoltTailorsModel", "takesCut", "()V"⟩, 14) := ⟨⟨by decide +kernel, by decide +kernel⟩, List.mem_of_getElem? (i := 529) (by decide +kernel), List.mem_of_getElem? (i := 729) (by decide +kernel), List.mem_of_getElem? (i := 730) (by decide +kernel)⟩
theorem lw_p45 : lw_okq (⟨"BoltTailorsModel", "makes", "(I)Z"⟩, 14) := ⟨⟨by decide +kernel, by decide +kernel⟩, List.mem_of_getElem? (i := 529) (by decide +kernel), List.mem_of_getElem? (i := 741) (by decide +kernel), List.mem_of_getElem? (i := 742) (by decide +kernel)⟩
theorem lw_p46 : lw_okq (⟨"BoltTailorsModel", "changes", "()I"⟩, 14) := ⟨⟨by decide +kernel, by decide +kernel⟩, List.mem_of_getElem? (i := 529) (by decide +kernel), List.mem_of_getElem? (i := 761) (by decide +kernel), List.mem_of_getElem? (i := 762) (by decide +kernel)⟩
theorem lw_p47 : lw_okq (⟨"BoltTailorsModel", "coloursLeft", "()I"⟩, 14) := ⟨⟨by decide +kernel, by decide +kernel⟩, List.mem_of_getElem? (i := 529) (by decide +kernel), List.mem_of_getElem? (i := 765) (by decide +kernel), List.mem_of_getElem? (i := 766) (by decide +kernel)⟩
def lw_privs_3 : List (MethodName × Nat) := [(⟨"BoltTailorsModel", "leadBy", "(IIIIIZ)I"⟩, 14), (⟨"BoltTailorsModel", "leadAt", "(IIII)I"⟩, 14), (⟨"BoltTailorsModel", "cutsBy", "(Z)I"⟩, 14), (⟨"BoltTailorsModel", "choice", "(Z)I"⟩, 14), (⟨"BoltTailorsModel", "own", "()I"⟩, 14), (⟨"BoltTailorsModel", "others", "()I"⟩, 14), (⟨"BoltTailorsModel", "isBolt", "()Z"⟩, 14), (⟨"BoltTailorsModel", "here", "()I"⟩, 14), (⟨"BoltTailorsModel", "takes", "(Z)V"⟩, 14), (⟨"BoltTailorsModel", "takesRule", "()V"⟩, 14), (⟨"BoltTailorsModel", "takesDigit", "(II)I"⟩, 14), (⟨"BoltTailorsModel", "areCuts", "()Z"⟩, 14), (⟨"BoltTailorsModel", "takesCut", "()V"⟩, 14), (⟨"BoltTailorsModel", "makes", "(I)Z"⟩, 14), (⟨"BoltTailorsModel", "changes", "()I"⟩, 14), (⟨"BoltTailorsModel", "coloursLeft", "()I"⟩, 14)]
theorem lw_r3 : ∀ q ∈ lw_privs_3, lw_okq q := List.forall_mem_cons.mpr ⟨lw_p32, List.forall_mem_cons.mpr ⟨lw_p33, List.forall_mem_cons.mpr ⟨lw_p34, List.forall_mem_cons.mpr ⟨lw_p35, List.forall_mem_cons.mpr ⟨lw_p36, List.forall_mem_cons.mpr ⟨lw_p37, List.forall_mem_cons.mpr ⟨lw_p38, List.forall_mem_cons.mpr ⟨lw_p39, List.forall_mem_cons.mpr ⟨lw_p40, List.forall_mem_cons.mpr ⟨lw_p41, List.forall_mem_cons.mpr ⟨lw_p42, List.forall_mem_cons.mpr ⟨lw_p43, List.forall_mem_cons.mpr ⟨lw_p44, List.forall_mem_cons.mpr ⟨lw_p45, List.forall_mem_cons.mpr ⟨lw_p46, List.forall_mem_cons.mpr ⟨lw_p47, fun _ h => absurd h List.not_mem_nil⟩⟩⟩⟩⟩⟩⟩⟩⟩⟩⟩⟩⟩⟩⟩⟩
theorem lw_p48 : lw_okq (⟨"BoltTailorsModel", "leftOf", "(I)I"⟩, 14) := ⟨⟨by decide +kernel, by decide +kernel⟩, List.mem_of_getElem? (i := 529) (by decide +kernel), List.mem_of_getElem? (i := 769) (by decide +kernel), List.mem_of_getElem? (i := 770) (by decide +kernel)⟩
theorem lw_p49 : lw_okq (⟨"BoltTailorsModel", "longestFold", "()I"⟩, 14) := ⟨⟨by decide +kernel, by decide +kernel⟩, List.mem_of_getElem? (i := 529) (by decide +kernel), List.mem_of_getElem? (i := 773) (by decide +kernel), List.mem_of_getElem? (i := 774) (by decide +kernel)⟩
def lw_privs_4 : List (MethodName × Nat) := [(⟨"BoltTailorsModel", "leftOf", "(I)I"⟩, 14), (⟨"BoltTailorsModel", "longestFold", "()I"⟩, 14)]
theorem lw_r4 : ∀ q ∈ lw_privs_4, lw_okq q := List.forall_mem_cons.mpr ⟨lw_p48, List.forall_mem_cons.mpr ⟨lw_p49, fun _ h => absurd h List.not_mem_nil⟩⟩
def lw_privs : List (MethodName × Nat) := lw_privs_1 ++ (lw_privs_2 ++ (lw_privs_3 ++ (lw_privs_4)))
def lw_tbl : List Cond := k2_sels lw_privs ++ tables_1
theorem lw_privs_ok : ∀ q ∈ lw_privs, lw_okq q := by
  show ∀ q ∈ lw_privs_1 ++ (lw_privs_2 ++ (lw_privs_3 ++ (lw_privs_4))), lw_okq q
  exact List.forall_mem_append.mpr ⟨lw_r1, List.forall_mem_append.mpr ⟨lw_r2, List.forall_mem_append.mpr ⟨lw_r3, lw_r4⟩⟩⟩
/-- the streams that the claim lets the run draw from -/
abbrev lw_cs : List Choice := [Jvm.Choice.named "NaN.bits"]
theorem lw_bits : nanBits ∈ lw_cs := by first | decide | exact List.mem_cons_self | simp [lw_cs, nanBits]
/-! ===== END ===== -/

/-! ===== BEGIN printed: names, fields, word lists, decode rows ===== -/
def RX0 : String := "BoltTailors$Game"
def TX0 : u_T := fun k => match k with
  | 0 => ("BoltTailors$Game", "colours", "[I", true)
  | 1 => ("BoltTailors$Game", "settings", "[I", true)
  | 2 => ("BoltTailors$Game", "pieceFirst", "[I", true)
  | 3 => ("BoltTailors$Game", "pieceSize", "[I", true)
  | 4 => ("BoltTailors$Game", "pieceWorth", "[I", true)
  | 5 => ("BoltTailors$Game", "pieceTraits", "[I", true)
  | 6 => ("BoltTailors$Game", "stripes", "I", false)
  | 7 => ("BoltTailors$Game", "first", "I", false)
  | 8 => ("BoltTailors$Game", "end", "I", false)
  | _ => ("BoltTailors$Game", "cuts", "I", false)
def tyX0 : Nat → FieldType := fun k => match k with
  | 0 => .array .int
  | 1 => .array .int
  | 2 => .array .int
  | 3 => .array .int
  | 4 => .array .int
  | 5 => .array .int
  | 6 => .int
  | 7 => .int
  | 8 => .int
  | _ => .int
theorem nmX0 : ∀ a, a < 10 → ∀ b, b < 10 → a ≠ b → (TX0 a).2.1 ≠ (TX0 b).2.1 := by decide +kernel
theorem tyX0_ok : ∀ k, k < 10 → parseFieldDescriptor (TX0 k).2.2.1 = some (tyX0 k) := by decide +kernel
abbrev cX0_init : ByteArray := prog_2_method_1_code
def yX0_init : MethodName := ⟨RX0, "<init>", "()V"⟩
abbrev cX0_copyFrom : ByteArray := prog_2_method_2_code
def yX0_copyFrom : MethodName := ⟨RX0, "copyFrom", "(LBoltTailors$Game;)V"⟩
abbrev cX0_begin : ByteArray := prog_2_method_3_code
def yX0_begin : MethodName := ⟨RX0, "begin", "()V"⟩
abbrev cX0_remaining : ByteArray := prog_2_method_4_code
def yX0_remaining : MethodName := ⟨RX0, "remaining", "()I"⟩
abbrev cX0_isOver : ByteArray := prog_2_method_5_code
def yX0_isOver : MethodName := ⟨RX0, "isOver", "()Z"⟩
abbrev cX0_onTurn : ByteArray := prog_2_method_6_code
def yX0_onTurn : MethodName := ⟨RX0, "onTurn", "()I"⟩
abbrev cX0_longestCut : ByteArray := prog_2_method_7_code
def yX0_longestCut : MethodName := ⟨RX0, "longestCut", "()I"⟩
abbrev cX0_worthOfCut : ByteArray := prog_2_method_8_code
def yX0_worthOfCut : MethodName := ⟨RX0, "worthOfCut", "(I)I"⟩
abbrev cX0_sew : ByteArray := prog_2_method_9_code
def yX0_sew : MethodName := ⟨RX0, "sew", "(I)I"⟩
abbrev cX0_turnRound : ByteArray := prog_2_method_10_code
def yX0_turnRound : MethodName := ⟨RX0, "turnRound", "()I"⟩
abbrev cX0_piecesOf : ByteArray := prog_2_method_11_code
def yX0_piecesOf : MethodName := ⟨RX0, "piecesOf", "(I)I"⟩
abbrev cX0_endOfCoat : ByteArray := prog_2_method_12_code
def yX0_endOfCoat : MethodName := ⟨RX0, "endOfCoat", "(I)I"⟩
abbrev cX0_sumOfCoat : ByteArray := prog_2_method_13_code
def yX0_sumOfCoat : MethodName := ⟨RX0, "sumOfCoat", "([II)I"⟩
abbrev cX0_piecesWith : ByteArray := prog_2_method_14_code
def yX0_piecesWith : MethodName := ⟨RX0, "piecesWith", "(II)I"⟩
abbrev cX0_colourChanges : ByteArray := prog_2_method_15_code
def yX0_colourChanges : MethodName := ⟨RX0, "colourChanges", "()I"⟩
abbrev cX0_stripesLeftOf : ByteArray := prog_2_method_16_code
def yX0_stripesLeftOf : MethodName := ⟨RX0, "stripesLeftOf", "(I)I"⟩
abbrev cX0_coloursLeft : ByteArray := prog_2_method_17_code
def yX0_coloursLeft : MethodName := ⟨RX0, "coloursLeft", "()I"⟩
abbrev cX0_longestFold : ByteArray := prog_2_method_18_code
def yX0_longestFold : MethodName := ⟨RX0, "longestFold", "()I"⟩
def RX1 : String := "BoltTailors$Leads"
def TX1 : u_T := fun k => match k with
  | 0 => ("BoltTailors$Leads", "colours", "[I", true)
  | 1 => ("BoltTailors$Leads", "settings", "[I", true)
  | 2 => ("BoltTailors$Leads", "kept", "[I", true)
  | _ => ("BoltTailors$Leads", "stripes", "I", false)
def tyX1 : Nat → FieldType := fun k => match k with
  | 0 => .array .int
  | 1 => .array .int
  | 2 => .array .int
  | _ => .int
theorem nmX1 : ∀ a, a < 4 → ∀ b, b < 4 → a ≠ b → (TX1 a).2.1 ≠ (TX1 b).2.1 := by decide +kernel
theorem tyX1_ok : ∀ k, k < 4 → parseFieldDescriptor (TX1 k).2.2.1 = some (tyX1 k) := by decide +kernel
abbrev cX1_init : ByteArray := prog_3_method_1_code
def yX1_init : MethodName := ⟨RX1, "<init>", "()V"⟩
abbrev cX1_fitTo : ByteArray := prog_3_method_2_code
def yX1_fitTo : MethodName := ⟨RX1, "fitTo", "(LBoltTailors$Game;)V"⟩
abbrev cX1_isFor : ByteArray := prog_3_method_3_code
def yX1_isFor : MethodName := ⟨RX1, "isFor", "(LBoltTailors$Game;)Z"⟩
abbrev cX1_told : ByteArray := prog_3_method_4_code
def yX1_told : MethodName := ⟨RX1, "told", "(IIII)I"⟩
abbrev cX1_keep : ByteArray := prog_3_method_5_code
def yX1_keep : MethodName := ⟨RX1, "keep", "(IIIII)V"⟩
abbrev cX1_place : ByteArray := prog_3_method_6_code
def yX1_place : MethodName := ⟨RX1, "place", "(IIII)I"⟩
def RX2 : String := "BoltTailors"
def TX2 : u_T := fun k => match k with
  | 0 => ("BoltTailors", "now", "LBoltTailors$Game;", true)
  | 1 => ("BoltTailors", "trial", "LBoltTailors$Game;", true)
  | 2 => ("BoltTailors", "snapshot", "LBoltTailors$Game;", true)
  | 3 => ("BoltTailors", "hasSnapshot", "Z", false)
  | 4 => ("BoltTailors", "past", "[LBoltTailors$Game;", true)
  | 5 => ("BoltTailors", "states", "I", false)
  | 6 => ("BoltTailors", "pad", "[C", true)
  | 7 => ("BoltTailors", "signs", "I", false)
  | 8 => ("BoltTailors", "leadsByRows", "LBoltTailors$Leads;", true)
  | _ => ("BoltTailors", "leadsByCuts", "LBoltTailors$Leads;", true)
def tyX2 : Nat → FieldType := fun k => match k with
  | 0 => .object "BoltTailors$Game"
  | 1 => .object "BoltTailors$Game"
  | 2 => .object "BoltTailors$Game"
  | 3 => .boolean
  | 4 => .array (.object "BoltTailors$Game")
  | 5 => .int
  | 6 => .array .char
  | 7 => .int
  | 8 => .object "BoltTailors$Leads"
  | _ => .object "BoltTailors$Leads"
theorem nmX2 : ∀ a, a < 10 → ∀ b, b < 10 → a ≠ b → (TX2 a).2.1 ≠ (TX2 b).2.1 := by decide +kernel
theorem tyX2_ok : ∀ k, k < 10 → parseFieldDescriptor (TX2 k).2.2.1 = some (tyX2 k) := by decide +kernel
abbrev cX2_init : ByteArray := prog_1_method_1_code
def yX2_init : MethodName := ⟨RX2, "<init>", "()V"⟩
abbrev cX2_cut : ByteArray := prog_1_method_2_code
def yX2_cut : MethodName := ⟨RX2, "cut", "(IZ)I"⟩
abbrev cX2_best : ByteArray := prog_1_method_3_code
def yX2_best : MethodName := ⟨RX2, "best", "()I"⟩
abbrev cX2_greedy : ByteArray := prog_1_method_4_code
def yX2_greedy : MethodName := ⟨RX2, "greedy", "()I"⟩
abbrev cX2_again : ByteArray := prog_1_method_5_code
def yX2_again : MethodName := ⟨RX2, "again", "()I"⟩
abbrev cX2_mirror : ByteArray := prog_1_method_6_code
def yX2_mirror : MethodName := ⟨RX2, "mirror", "()I"⟩
abbrev cX2_set : ByteArray := prog_1_method_7_code
def yX2_set : MethodName := ⟨RX2, "set", "(II)I"⟩
abbrev cX2_append : ByteArray := prog_1_method_8_code
def yX2_append : MethodName := ⟨RX2, "append", "(I)I"⟩
abbrev cX2_clear : ByteArray := prog_1_method_9_code
def yX2_clear : MethodName := ⟨RX2, "clear", "()I"⟩
abbrev cX2_fault : ByteArray := prog_1_method_10_code
def yX2_fault : MethodName := ⟨RX2, "fault", "(I)I"⟩
abbrev cX2_load : ByteArray := prog_1_method_11_code
def yX2_load : MethodName := ⟨RX2, "load", "()I"⟩
abbrev cX2_play : ByteArray := prog_1_method_12_code
def yX2_play : MethodName := ⟨RX2, "play", "()I"⟩
abbrev cX2_stripe : ByteArray := prog_1_method_13_code
def yX2_stripe : MethodName := ⟨RX2, "stripe", "(I)I"⟩
abbrev cX2_coat : ByteArray := prog_1_method_14_code
def yX2_coat : MethodName := ⟨RX2, "coat", "(II)I"⟩
abbrev cX2_piece : ByteArray := prog_1_method_15_code
def yX2_piece : MethodName := ⟨RX2, "piece", "(III)I"⟩
abbrev cX2_count : ByteArray := prog_1_method_16_code
def yX2_count : MethodName := ⟨RX2, "count", "(I)I"⟩
abbrev cX2_left : ByteArray := prog_1_method_17_code
def yX2_left : MethodName := ⟨RX2, "left", "(I)I"⟩
abbrev cX2_worth : ByteArray := prog_1_method_18_code
def yX2_worth : MethodName := ⟨RX2, "worth", "(IZ)I"⟩
abbrev cX2_lead : ByteArray := prog_1_method_19_code
def yX2_lead : MethodName := ⟨RX2, "lead", "(I)I"⟩
abbrev cX2_leadWith : ByteArray := prog_1_method_20_code
def yX2_leadWith : MethodName := ⟨RX2, "leadWith", "(IZ)I"⟩
abbrev cX2_bestCut : ByteArray := prog_1_method_21_code
def yX2_bestCut : MethodName := ⟨RX2, "bestCut", "()I"⟩
abbrev cX2_ended : ByteArray := prog_1_method_22_code
def yX2_ended : MethodName := ⟨RX2, "ended", "(III)I"⟩
abbrev cX2_rate : ByteArray := prog_1_method_23_code
def yX2_rate : MethodName := ⟨RX2, "rate", "()D"⟩
abbrev cX2_undo : ByteArray := prog_1_method_24_code
def yX2_undo : MethodName := ⟨RX2, "undo", "()I"⟩
abbrev cX2_save : ByteArray := prog_1_method_25_code
def yX2_save : MethodName := ⟨RX2, "save", "()I"⟩
abbrev cX2_restore : ByteArray := prog_1_method_26_code
def yX2_restore : MethodName := ⟨RX2, "restore", "()I"⟩
abbrev cX2_pastAt : ByteArray := prog_1_method_27_code
def yX2_pastAt : MethodName := ⟨RX2, "pastAt", "(I)LBoltTailors$Game;"⟩
abbrev cX2_record : ByteArray := prog_1_method_28_code
def yX2_record : MethodName := ⟨RX2, "record", "()V"⟩
abbrev cX2_dropOldest : ByteArray := prog_1_method_29_code
def yX2_dropOldest : MethodName := ⟨RX2, "dropOldest", "()V"⟩
abbrev cX2_codeOf : ByteArray := prog_1_method_30_code
def yX2_codeOf : MethodName := ⟨RX2, "codeOf", "(IZ)I"⟩
abbrev cX2_isFromLeft : ByteArray := prog_1_method_31_code
def yX2_isFromLeft : MethodName := ⟨RX2, "isFromLeft", "(I)Z"⟩
abbrev cX2_sizeOf : ByteArray := prog_1_method_32_code
def yX2_sizeOf : MethodName := ⟨RX2, "sizeOf", "(I)I"⟩
abbrev cX2_pieceStart : ByteArray := prog_1_method_33_code
def yX2_pieceStart : MethodName := ⟨RX2, "pieceStart", "(III)I"⟩
abbrev cX2_restStart : ByteArray := prog_1_method_34_code
def yX2_restStart : MethodName := ⟨RX2, "restStart", "(II)I"⟩
abbrev cX2_restEnd : ByteArray := prog_1_method_35_code
def yX2_restEnd : MethodName := ⟨RX2, "restEnd", "(II)I"⟩
abbrev cX2_errorOfCut : ByteArray := prog_1_method_36_code
def yX2_errorOfCut : MethodName := ⟨RX2, "errorOfCut", "(I)I"⟩
abbrev cX2_cutBy : ByteArray := prog_1_method_37_code
def yX2_cutBy : MethodName := ⟨RX2, "cutBy", "(I)I"⟩
abbrev cX2_choice : ByteArray := prog_1_method_38_code
def yX2_choice : MethodName := ⟨RX2, "choice", "(LBoltTailors$Game;I)I"⟩
abbrev cX2_leadTold : ByteArray := prog_1_method_39_code
def yX2_leadTold : MethodName := ⟨RX2, "leadTold", "(LBoltTailors$Game;)I"⟩
abbrev cX2_tellRows : ByteArray := prog_1_method_40_code
def yX2_tellRows : MethodName := ⟨RX2, "tellRows", "(LBoltTailors$Leads;II)V"⟩
abbrev cX2_raiseRow : ByteArray := prog_1_method_41_code
def yX2_raiseRow : MethodName := ⟨RX2, "raiseRow", "(LBoltTailors$Leads;III)V"⟩
abbrev cX2_leadGoneInto : ByteArray := prog_1_method_42_code
def yX2_leadGoneInto : MethodName := ⟨RX2, "leadGoneInto", "(LBoltTailors$Game;)I"⟩
abbrev cX2_leadOfCut : ByteArray := prog_1_method_43_code
def yX2_leadOfCut : MethodName := ⟨RX2, "leadOfCut", "(LBoltTailors$Game;I)I"⟩
abbrev cX2_goInto : ByteArray := prog_1_method_44_code
def yX2_goInto : MethodName := ⟨RX2, "goInto", "(LBoltTailors$Leads;IIIII)I"⟩
abbrev cX2_goThrough : ByteArray := prog_1_method_45_code
def yX2_goThrough : MethodName := ⟨RX2, "goThrough", "(LBoltTailors$Leads;IIIIII)I"⟩
abbrev cX2_traitsOf : ByteArray := prog_1_method_46_code
def yX2_traitsOf : MethodName := ⟨RX2, "traitsOf", "([IIII)I"⟩
abbrev cX2_worthOf : ByteArray := prog_1_method_47_code
def yX2_worthOf : MethodName := ⟨RX2, "worthOf", "(II[I)I"⟩
abbrev cX2_isFold : ByteArray := prog_1_method_48_code
def yX2_isFold : MethodName := ⟨RX2, "isFold", "([III)Z"⟩
abbrev cX2_signAt : ByteArray := prog_1_method_49_code
def yX2_signAt : MethodName := ⟨RX2, "signAt", "(I)C"⟩
abbrev cX2_digitAt : ByteArray := prog_1_method_50_code
def yX2_digitAt : MethodName := ⟨RX2, "digitAt", "(I)I"⟩
abbrev cX2_isSide : ByteArray := prog_1_method_51_code
def yX2_isSide : MethodName := ⟨RX2, "isSide", "(C)Z"⟩
abbrev cX2_lettersAhead : ByteArray := prog_1_method_52_code
def yX2_lettersAhead : MethodName := ⟨RX2, "lettersAhead", "()I"⟩
abbrev cX2_faultAsBolt : ByteArray := prog_1_method_53_code
def yX2_faultAsBolt : MethodName := ⟨RX2, "faultAsBolt", "()I"⟩
abbrev cX2_faultBehindStar : ByteArray := prog_1_method_54_code
def yX2_faultBehindStar : MethodName := ⟨RX2, "faultBehindStar", "(I)I"⟩
abbrev cX2_digitsOfNumber : ByteArray := prog_1_method_55_code
def yX2_digitsOfNumber : MethodName := ⟨RX2, "digitsOfNumber", "(I)I"⟩
abbrev cX2_faultAsCuts : ByteArray := prog_1_method_56_code
def yX2_faultAsCuts : MethodName := ⟨RX2, "faultAsCuts", "()I"⟩
abbrev cX2_layPattern : ByteArray := prog_1_method_57_code
def yX2_layPattern : MethodName := ⟨RX2, "layPattern", "(I)V"⟩
abbrev cX2_layLetters : ByteArray := prog_1_method_58_code
def yX2_layLetters : MethodName := ⟨RX2, "layLetters", "(III)V"⟩
abbrev cX2_codeOnPad : ByteArray := prog_1_method_59_code
def yX2_codeOnPad : MethodName := ⟨RX2, "codeOnPad", "(I)I"⟩
abbrev cX2_isNoTailor : ByteArray := prog_1_method_60_code
def yX2_isNoTailor : MethodName := ⟨RX2, "isNoTailor", "(I)Z"⟩
abbrev cX2_at : ByteArray := prog_1_method_61_code
def yX2_at : MethodName := ⟨RX2, "at", "([II)I"⟩
abbrev cX2_put : ByteArray := prog_1_method_62_code
def yX2_put : MethodName := ⟨RX2, "put", "([III)V"⟩
def RX3 : String := "BoltTailorsModel"
def TX3 : u_T := fun k => match k with
  | 0 => ("BoltTailorsModel", "s", "[I", true)
  | 1 => ("BoltTailorsModel", "aside", "[I", true)
  | 2 => ("BoltTailorsModel", "past", "[I", true)
  | 3 => ("BoltTailorsModel", "known", "I", false)
  | 4 => ("BoltTailorsModel", "kept", "[I", true)
  | 5 => ("BoltTailorsModel", "isKept", "Z", false)
  | 6 => ("BoltTailorsModel", "pad", "[I", true)
  | 7 => ("BoltTailorsModel", "length", "I", false)
  | 8 => ("BoltTailorsModel", "leads", "[I", true)
  | 9 => ("BoltTailorsModel", "spot", "I", false)
  | 10 => ("BoltTailorsModel", "isForm", "Z", false)
  | 11 => ("BoltTailorsModel", "letters", "I", false)
  | 12 => ("BoltTailorsModel", "toldMany", "I", false)
  | _ => ("BoltTailorsModel", "toldPhase", "I", false)
def tyX3 : Nat → FieldType := fun k => match k with
  | 0 => .array .int
  | 1 => .array .int
  | 2 => .array .int
  | 3 => .int
  | 4 => .array .int
  | 5 => .boolean
  | 6 => .array .int
  | 7 => .int
  | 8 => .array .int
  | 9 => .int
  | 10 => .boolean
  | 11 => .int
  | 12 => .int
  | _ => .int
theorem nmX3 : ∀ a, a < 14 → ∀ b, b < 14 → a ≠ b → (TX3 a).2.1 ≠ (TX3 b).2.1 := by decide +kernel
theorem tyX3_ok : ∀ k, k < 14 → parseFieldDescriptor (TX3 k).2.2.1 = some (tyX3 k) := by decide +kernel
abbrev cX3_init : ByteArray := prog_5_method_1_code
def yX3_init : MethodName := ⟨RX3, "<init>", "()V"⟩
abbrev cX3_in : ByteArray := prog_5_method_3_code
def yX3_in : MethodName := ⟨RX3, "in", "(III)Z"⟩
abbrev cX3_copies : ByteArray := prog_5_method_4_code
def yX3_copies : MethodName := ⟨RX3, "copies", "([II[II)V"⟩
abbrev cX3_records : ByteArray := prog_5_method_5_code
def yX3_records : MethodName := ⟨RX3, "records", "()V"⟩
abbrev cX3_beginsAgain : ByteArray := prog_5_method_6_code
def yX3_beginsAgain : MethodName := ⟨RX3, "beginsAgain", "()V"⟩
abbrev cX3_coatOf : ByteArray := prog_5_method_7_code
def yX3_coatOf : MethodName := ⟨RX3, "coatOf", "(II)I"⟩
abbrev cX3_adds : ByteArray := prog_5_method_8_code
def yX3_adds : MethodName := ⟨RX3, "adds", "(III)V"⟩
abbrev cX3_isOver : ByteArray := prog_5_method_9_code
def yX3_isOver : MethodName := ⟨RX3, "isOver", "()Z"⟩
abbrev cX3_firstOf : ByteArray := prog_5_method_10_code
def yX3_firstOf : MethodName := ⟨RX3, "firstOf", "(IIIZ)I"⟩
abbrev cX3_folds : ByteArray := prog_5_method_11_code
def yX3_folds : MethodName := ⟨RX3, "folds", "(II)Z"⟩
abbrev cX3_matches : ByteArray := prog_5_method_12_code
def yX3_matches : MethodName := ⟨RX3, "matches", "(II)Z"⟩
abbrev cX3_worthOf : ByteArray := prog_5_method_13_code
def yX3_worthOf : MethodName := ⟨RX3, "worthOf", "(III)I"⟩
abbrev cX3_goCut : ByteArray := prog_5_method_14_code
def yX3_goCut : MethodName := ⟨RX3, "goCut", "(IZ)I"⟩
abbrev cX3_errorCut : ByteArray := prog_5_method_15_code
def yX3_errorCut : MethodName := ⟨RX3, "errorCut", "(I)I"⟩
abbrev cX3_rowOf : ByteArray := prog_5_method_16_code
def yX3_rowOf : MethodName := ⟨RX3, "rowOf", "(II)I"⟩
abbrev cX3_leadAt : ByteArray := prog_5_method_17_code
def yX3_leadAt : MethodName := ⟨RX3, "leadAt", "(IIII)I"⟩
abbrev cX3_most : ByteArray := prog_5_method_18_code
def yX3_most : MethodName := ⟨RX3, "most", "(I)I"⟩
abbrev cX3_leadBy : ByteArray := prog_5_method_19_code
def yX3_leadBy : MethodName := ⟨RX3, "leadBy", "(IIIIIZ)I"⟩
abbrev cX3_laysLead : ByteArray := prog_5_method_20_code
def yX3_laysLead : MethodName := ⟨RX3, "laysLead", "(IIII)V"⟩
abbrev cX3_laysLeads : ByteArray := prog_5_method_21_code
def yX3_laysLeads : MethodName := ⟨RX3, "laysLeads", "()V"⟩
abbrev cX3_own : ByteArray := prog_5_method_22_code
def yX3_own : MethodName := ⟨RX3, "own", "()I"⟩
abbrev cX3_others : ByteArray := prog_5_method_23_code
def yX3_others : MethodName := ⟨RX3, "others", "()I"⟩
abbrev cX3_choice : ByteArray := prog_5_method_24_code
def yX3_choice : MethodName := ⟨RX3, "choice", "(Z)I"⟩
abbrev cX3_cutsBy : ByteArray := prog_5_method_25_code
def yX3_cutsBy : MethodName := ⟨RX3, "cutsBy", "(Z)I"⟩
abbrev cX3_cut : ByteArray := prog_5_method_26_code
def yX3_cut : MethodName := ⟨RX3, "cut", "(IZ)I"⟩
abbrev cX3_best : ByteArray := prog_5_method_27_code
def yX3_best : MethodName := ⟨RX3, "best", "()I"⟩
abbrev cX3_greedy : ByteArray := prog_5_method_28_code
def yX3_greedy : MethodName := ⟨RX3, "greedy", "()I"⟩
abbrev cX3_again : ByteArray := prog_5_method_29_code
def yX3_again : MethodName := ⟨RX3, "again", "()I"⟩
abbrev cX3_mirror : ByteArray := prog_5_method_30_code
def yX3_mirror : MethodName := ⟨RX3, "mirror", "()I"⟩
abbrev cX3_set : ByteArray := prog_5_method_31_code
def yX3_set : MethodName := ⟨RX3, "set", "(II)I"⟩
abbrev cX3_append : ByteArray := prog_5_method_32_code
def yX3_append : MethodName := ⟨RX3, "append", "(I)I"⟩
abbrev cX3_clear : ByteArray := prog_5_method_33_code
def yX3_clear : MethodName := ⟨RX3, "clear", "()I"⟩
abbrev cX3_here : ByteArray := prog_5_method_34_code
def yX3_here : MethodName := ⟨RX3, "here", "()I"⟩
abbrev cX3_takes : ByteArray := prog_5_method_35_code
def yX3_takes : MethodName := ⟨RX3, "takes", "(Z)V"⟩
abbrev cX3_takesDigit : ByteArray := prog_5_method_36_code
def yX3_takesDigit : MethodName := ⟨RX3, "takesDigit", "(II)I"⟩
abbrev cX3_isLetter : ByteArray := prog_5_method_37_code
def yX3_isLetter : MethodName := ⟨RX3, "isLetter", "(I)Z"⟩
abbrev cX3_takesRule : ByteArray := prog_5_method_38_code
def yX3_takesRule : MethodName := ⟨RX3, "takesRule", "()V"⟩
abbrev cX3_isBolt : ByteArray := prog_5_method_39_code
def yX3_isBolt : MethodName := ⟨RX3, "isBolt", "()Z"⟩
abbrev cX3_takesCut : ByteArray := prog_5_method_40_code
def yX3_takesCut : MethodName := ⟨RX3, "takesCut", "()V"⟩
abbrev cX3_areCuts : ByteArray := prog_5_method_41_code
def yX3_areCuts : MethodName := ⟨RX3, "areCuts", "()Z"⟩
abbrev cX3_fault : ByteArray := prog_5_method_42_code
def yX3_fault : MethodName := ⟨RX3, "fault", "(I)I"⟩
abbrev cX3_load : ByteArray := prog_5_method_43_code
def yX3_load : MethodName := ⟨RX3, "load", "()I"⟩
abbrev cX3_makes : ByteArray := prog_5_method_44_code
def yX3_makes : MethodName := ⟨RX3, "makes", "(I)Z"⟩
abbrev cX3_play : ByteArray := prog_5_method_45_code
def yX3_play : MethodName := ⟨RX3, "play", "()I"⟩
abbrev cX3_stripe : ByteArray := prog_5_method_46_code
def yX3_stripe : MethodName := ⟨RX3, "stripe", "(I)I"⟩
abbrev cX3_coat : ByteArray := prog_5_method_47_code
def yX3_coat : MethodName := ⟨RX3, "coat", "(II)I"⟩
abbrev cX3_piece : ByteArray := prog_5_method_48_code
def yX3_piece : MethodName := ⟨RX3, "piece", "(III)I"⟩
abbrev cX3_changes : ByteArray := prog_5_method_49_code
def yX3_changes : MethodName := ⟨RX3, "changes", "()I"⟩
abbrev cX3_leftOf : ByteArray := prog_5_method_50_code
def yX3_leftOf : MethodName := ⟨RX3, "leftOf", "(I)I"⟩
abbrev cX3_coloursLeft : ByteArray := prog_5_method_51_code
def yX3_coloursLeft : MethodName := ⟨RX3, "coloursLeft", "()I"⟩
abbrev cX3_longestFold : ByteArray := prog_5_method_52_code
def yX3_longestFold : MethodName := ⟨RX3, "longestFold", "()I"⟩
abbrev cX3_count : ByteArray := prog_5_method_53_code
def yX3_count : MethodName := ⟨RX3, "count", "(I)I"⟩
abbrev cX3_left : ByteArray := prog_5_method_54_code
def yX3_left : MethodName := ⟨RX3, "left", "(I)I"⟩
abbrev cX3_worth : ByteArray := prog_5_method_55_code
def yX3_worth : MethodName := ⟨RX3, "worth", "(IZ)I"⟩
abbrev cX3_lead : ByteArray := prog_5_method_56_code
def yX3_lead : MethodName := ⟨RX3, "lead", "(I)I"⟩
abbrev cX3_leadWith : ByteArray := prog_5_method_57_code
def yX3_leadWith : MethodName := ⟨RX3, "leadWith", "(IZ)I"⟩
abbrev cX3_bestCut : ByteArray := prog_5_method_58_code
def yX3_bestCut : MethodName := ⟨RX3, "bestCut", "()I"⟩
abbrev cX3_ended : ByteArray := prog_5_method_59_code
def yX3_ended : MethodName := ⟨RX3, "ended", "(III)I"⟩
abbrev cX3_rate : ByteArray := prog_5_method_60_code
def yX3_rate : MethodName := ⟨RX3, "rate", "()D"⟩
abbrev cX3_undo : ByteArray := prog_5_method_61_code
def yX3_undo : MethodName := ⟨RX3, "undo", "()I"⟩
abbrev cX3_save : ByteArray := prog_5_method_62_code
def yX3_save : MethodName := ⟨RX3, "save", "()I"⟩
abbrev cX3_restore : ByteArray := prog_5_method_63_code
def yX3_restore : MethodName := ⟨RX3, "restore", "()I"⟩
def RJ0 : String := "java/lang/String"
abbrev cJ0_length_8abf5 : ByteArray := prog_7_method_54_code
def yJ0_length_8abf5 : MethodName := ⟨RJ0, "length", "()I"⟩
abbrev cJ0_charAt_5068e : ByteArray := prog_7_method_56_code
def yJ0_charAt_5068e : MethodName := ⟨RJ0, "charAt", "(I)C"⟩
abbrev cJ0_coder_7d493 : ByteArray := prog_7_method_152_code
def yJ0_coder_7d493 : MethodName := ⟨RJ0, "coder", "()B"⟩
abbrev cJ0_isLatin1_aae02 : ByteArray := prog_7_method_154_code
def yJ0_isLatin1_aae02 : MethodName := ⟨RJ0, "isLatin1", "()Z"⟩
abbrev cJ0_checkIndex_df160 : ByteArray := prog_7_method_155_code
def yJ0_checkIndex_df160 : MethodName := ⟨RJ0, "checkIndex", "(II)V"⟩
def RJ1 : String := "java/lang/StringLatin1"
abbrev cJ1_charAt_3b067 : ByteArray := prog_8_method_2_code
def yJ1_charAt_3b067 : MethodName := ⟨RJ1, "charAt", "([BI)C"⟩
def RJ7 : String := "java/util/Arrays"
abbrev cJ7_fill_53178 : ByteArray := prog_11_method_103_code
def yJ7_fill_53178 : MethodName := ⟨RJ7, "fill", "([II)V"⟩
def RJ3 : String := "jdk/internal/util/Preconditions"
abbrev cJ3_checkIndex_8e157 : ByteArray := prog_12_method_11_code
def yJ3_checkIndex_8e157 : MethodName := ⟨RJ3, "checkIndex", "(IILjava/util/function/BiFunction;)I"⟩
abbrev vwCl : List vw_C := [(RX0, TX0, 10), (RX1, TX1, 4), (RX2, TX2, 10), (RX3, TX3, 14)]
