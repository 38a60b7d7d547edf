section
-- ===== PART A: goes FIRST, ahead of the names: the tables' words, and 'selects' of the private methods out of them =====
/-- a private method of a class that the tables say can be made, by its rows of tables_1 -/
def lw_okq (q : MethodName × Nat) : Prop := (q.1.cls ≠ "java/lang/invoke/MethodHandle" ∧ q.1.cls ≠ "java/lang/invoke/VarHandle") ∧ Cond.instantiable q.1.cls q.2 ∈ tables_1 ∧ Cond.privateMethod q.1 ∈ tables_1 ∧ Cond.instanceMethod q.1 ∈ tables_1
theorem lw_p0 : lw_okq (⟨"RangeRules", "faulted", "(I)I"⟩, 8) := ⟨⟨by decide +kernel, by decide +kernel⟩, List.mem_of_getElem? (i := 11) (by decide +kernel), List.mem_of_getElem? (i := 159) (by decide +kernel), List.mem_of_getElem? (i := 160) (by decide +kernel)⟩
theorem lw_p1 : lw_okq (⟨"RangeRules$Asking", "give", "(I)V"⟩, 3) := ⟨⟨by decide +kernel, by decide +kernel⟩, List.mem_of_getElem? (i := 27) (by decide +kernel), List.mem_of_getElem? (i := 271) (by decide +kernel), List.mem_of_getElem? (i := 272) (by decide +kernel)⟩
theorem lw_p2 : lw_okq (⟨"RangeRules$Asking", "addDenier", "(I)V"⟩, 3) := ⟨⟨by decide +kernel, by decide +kernel⟩, List.mem_of_getElem? (i := 27) (by decide +kernel), List.mem_of_getElem? (i := 275) (by decide +kernel), List.mem_of_getElem? (i := 276) (by decide +kernel)⟩
theorem lw_p3 : lw_okq (⟨"RangeRules", "playDay", "(LRangeRules$Row;II)I"⟩, 8) := ⟨⟨by decide +kernel, by decide +kernel⟩, List.mem_of_getElem? (i := 11) (by decide +kernel), List.mem_of_getElem? (i := 299) (by decide +kernel), List.mem_of_getElem? (i := 300) (by decide +kernel)⟩
theorem lw_p4 : lw_okq (⟨"RangeRules", "playAct", "(II)Z"⟩, 8) := ⟨⟨by decide +kernel, by decide +kernel⟩, List.mem_of_getElem? (i := 11) (by decide +kernel), List.mem_of_getElem? (i := 303) (by decide +kernel), List.mem_of_getElem? (i := 304) (by decide +kernel)⟩
theorem lw_p5 : lw_okq (⟨"RangeRules", "ofDay", "(I)I"⟩, 8) := ⟨⟨by decide +kernel, by decide +kernel⟩, List.mem_of_getElem? (i := 11) (by decide +kernel), List.mem_of_getElem? (i := 307) (by decide +kernel), List.mem_of_getElem? (i := 308) (by decide +kernel)⟩
theorem lw_p6 : lw_okq (⟨"RangeRules", "runsNow", "()I"⟩, 8) := ⟨⟨by decide +kernel, by decide +kernel⟩, List.mem_of_getElem? (i := 11) (by decide +kernel), List.mem_of_getElem? (i := 346) (by decide +kernel), List.mem_of_getElem? (i := 347) (by decide +kernel)⟩
theorem lw_p7 : lw_okq (⟨"RangeRules$Book", "isNeeded", "(I)Z"⟩, 3) := ⟨⟨by decide +kernel, by decide +kernel⟩, List.mem_of_getElem? (i := 19) (by decide +kernel), List.mem_of_getElem? (i := 362) (by decide +kernel), List.mem_of_getElem? (i := 363) (by decide +kernel)⟩
theorem lw_p8 : lw_okq (⟨"RangeRules", "areReadingsSo", "()Z"⟩, 8) := ⟨⟨by decide +kernel, by decide +kernel⟩, List.mem_of_getElem? (i := 11) (by decide +kernel), List.mem_of_getElem? (i := 378) (by decide +kernel), List.mem_of_getElem? (i := 379) (by decide +kernel)⟩
theorem lw_p9 : lw_okq (⟨"RangeRules$Row", "cut", "(I)I"⟩, 3) := ⟨⟨by decide +kernel, by decide +kernel⟩, List.mem_of_getElem? (i := 98) (by decide +kernel), List.mem_of_getElem? (i := 425) (by decide +kernel), List.mem_of_getElem? (i := 426) (by decide +kernel)⟩
theorem lw_p10 : lw_okq (⟨"RangeRules", "bulkyBody", "(LRangeRules$Rule;)I"⟩, 8) := ⟨⟨by decide +kernel, by decide +kernel⟩, List.mem_of_getElem? (i := 11) (by decide +kernel), List.mem_of_getElem? (i := 444) (by decide +kernel), List.mem_of_getElem? (i := 445) (by decide +kernel)⟩
theorem lw_p11 : lw_okq (⟨"RangeRules", "leave", "(I)V"⟩, 8) := ⟨⟨by decide +kernel, by decide +kernel⟩, List.mem_of_getElem? (i := 11) (by decide +kernel), List.mem_of_getElem? (i := 448) (by decide +kernel), List.mem_of_getElem? (i := 449) (by decide +kernel)⟩
theorem lw_p12 : lw_okq (⟨"RangeRules", "plainBody", "(LRangeRules$Rule;)I"⟩, 8) := ⟨⟨by decide +kernel, by decide +kernel⟩, List.mem_of_getElem? (i := 11) (by decide +kernel), List.mem_of_getElem? (i := 452) (by decide +kernel), List.mem_of_getElem? (i := 453) (by decide +kernel)⟩
theorem lw_p13 : lw_okq (⟨"RangeRules", "doubleBody", "(LRangeRules$Rule;)I"⟩, 8) := ⟨⟨by decide +kernel, by decide +kernel⟩, List.mem_of_getElem? (i := 11) (by decide +kernel), List.mem_of_getElem? (i := 456) (by decide +kernel), List.mem_of_getElem? (i := 457) (by decide +kernel)⟩
theorem lw_p14 : lw_okq (⟨"RangeRules", "ownCiteBody", "()I"⟩, 8) := ⟨⟨by decide +kernel, by decide +kernel⟩, List.mem_of_getElem? (i := 11) (by decide +kernel), List.mem_of_getElem? (i := 464) (by decide +kernel), List.mem_of_getElem? (i := 465) (by decide +kernel)⟩
theorem lw_p15 : lw_okq (⟨"RangeRules", "lentCiteBody", "(LRangeRules$Rule;)I"⟩, 8) := ⟨⟨by decide +kernel, by decide +kernel⟩, List.mem_of_getElem? (i := 11) (by decide +kernel), List.mem_of_getElem? (i := 468) (by decide +kernel), List.mem_of_getElem? (i := 469) (by decide +kernel)⟩
def lw_privs_1 : List (MethodName × Nat) := [(⟨"RangeRules", "faulted", "(I)I"⟩, 8), (⟨"RangeRules$Asking", "give", "(I)V"⟩, 3), (⟨"RangeRules$Asking", "addDenier", "(I)V"⟩, 3), (⟨"RangeRules", "playDay", "(LRangeRules$Row;II)I"⟩, 8), (⟨"RangeRules", "playAct", "(II)Z"⟩, 8), (⟨"RangeRules", "ofDay", "(I)I"⟩, 8), (⟨"RangeRules", "runsNow", "()I"⟩, 8), (⟨"RangeRules$Book", "isNeeded", "(I)Z"⟩, 3), (⟨"RangeRules", "areReadingsSo", "()Z"⟩, 8), (⟨"RangeRules$Row", "cut", "(I)I"⟩, 3), (⟨"RangeRules", "bulkyBody", "(LRangeRules$Rule;)I"⟩, 8), (⟨"RangeRules", "leave", "(I)V"⟩, 8), (⟨"RangeRules", "plainBody", "(LRangeRules$Rule;)I"⟩, 8), (⟨"RangeRules", "doubleBody", "(LRangeRules$Rule;)I"⟩, 8), (⟨"RangeRules", "ownCiteBody", "()I"⟩, 8), (⟨"RangeRules", "lentCiteBody", "(LRangeRules$Rule;)I"⟩, 8)]
theorem lw_r1 : ∀ q ∈ lw_privs_1, lw_okq q := List.forall_mem_cons.mpr ⟨lw_p0, List.forall_mem_cons.mpr ⟨lw_p1, List.forall_mem_cons.mpr ⟨lw_p2, List.forall_mem_cons.mpr ⟨lw_p3, List.forall_mem_cons.mpr ⟨lw_p4, List.forall_mem_cons.mpr ⟨lw_p5, List.forall_mem_cons.mpr ⟨lw_p6, List.forall_mem_cons.mpr ⟨lw_p7, List.forall_mem_cons.mpr ⟨lw_p8, List.forall_mem_cons.mpr ⟨lw_p9, List.forall_mem_cons.mpr ⟨lw_p10, List.forall_mem_cons.mpr ⟨lw_p11, List.forall_mem_cons.mpr ⟨lw_p12, List.forall_mem_cons.mpr ⟨lw_p13, List.forall_mem_cons.mpr ⟨lw_p14, List.forall_mem_cons.mpr ⟨lw_p15, fun _ h => absurd h List.not_mem_nil⟩⟩⟩⟩⟩⟩⟩⟩⟩⟩⟩⟩⟩⟩⟩⟩
theorem lw_p16 : lw_okq (⟨"RangeRulesModel", "against", "(IIII)I"⟩, 17) := ⟨⟨by decide +kernel, by decide +kernel⟩, List.mem_of_getElem? (i := 488) (by decide +kernel), List.mem_of_getElem? (i := 559) (by decide +kernel), List.mem_of_getElem? (i := 560) (by decide +kernel)⟩
theorem lw_p17 : lw_okq (⟨"RangeRulesModel", "fails", "(I)I"⟩, 17) := ⟨⟨by decide +kernel, by decide +kernel⟩, List.mem_of_getElem? (i := 488) (by decide +kernel), List.mem_of_getElem? (i := 563) (by decide +kernel), List.mem_of_getElem? (i := 564) (by decide +kernel)⟩
theorem lw_p18 : lw_okq (⟨"RangeRulesModel", "readAll", "(I)Z"⟩, 17) := ⟨⟨by decide +kernel, by decide +kernel⟩, List.mem_of_getElem? (i := 488) (by decide +kernel), List.mem_of_getElem? (i := 567) (by decide +kernel), List.mem_of_getElem? (i := 568) (by decide +kernel)⟩
theorem lw_p19 : lw_okq (⟨"RangeRulesModel", "isSign", "(II)Z"⟩, 17) := ⟨⟨by decide +kernel, by decide +kernel⟩, List.mem_of_getElem? (i := 488) (by decide +kernel), List.mem_of_getElem? (i := 571) (by decide +kernel), List.mem_of_getElem? (i := 572) (by decide +kernel)⟩
theorem lw_p20 : lw_okq (⟨"RangeRulesModel", "readRule", "(II)Z"⟩, 17) := ⟨⟨by decide +kernel, by decide +kernel⟩, List.mem_of_getElem? (i := 488) (by decide +kernel), List.mem_of_getElem? (i := 575) (by decide +kernel), List.mem_of_getElem? (i := 576) (by decide +kernel)⟩
theorem lw_p21 : lw_okq (⟨"RangeRulesModel", "readNumber", "(IIIII)Z"⟩, 17) := ⟨⟨by decide +kernel, by decide +kernel⟩, List.mem_of_getElem? (i := 488) (by decide +kernel), List.mem_of_getElem? (i := 579) (by decide +kernel), List.mem_of_getElem? (i := 580) (by decide +kernel)⟩
theorem lw_p22 : lw_okq (⟨"RangeRulesModel", "isRule", "(I)Z"⟩, 17) := ⟨⟨by decide +kernel, by decide +kernel⟩, List.mem_of_getElem? (i := 488) (by decide +kernel), List.mem_of_getElem? (i := 587) (by decide +kernel), List.mem_of_getElem? (i := 588) (by decide +kernel)⟩
theorem lw_p23 : lw_okq (⟨"RangeRulesModel", "worthOf", "(I)I"⟩, 17) := ⟨⟨by decide +kernel, by decide +kernel⟩, List.mem_of_getElem? (i := 488) (by decide +kernel), List.mem_of_getElem? (i := 591) (by decide +kernel), List.mem_of_getElem? (i := 592) (by decide +kernel)⟩
theorem lw_p24 : lw_okq (⟨"RangeRulesModel", "kindOf", "(I)I"⟩, 17) := ⟨⟨by decide +kernel, by decide +kernel⟩, List.mem_of_getElem? (i := 488) (by decide +kernel), List.mem_of_getElem? (i := 595) (by decide +kernel), List.mem_of_getElem? (i := 596) (by decide +kernel)⟩
theorem lw_p25 : lw_okq (⟨"RangeRulesModel", "numberOf", "(I)I"⟩, 17) := ⟨⟨by decide +kernel, by decide +kernel⟩, List.mem_of_getElem? (i := 488) (by decide +kernel), List.mem_of_getElem? (i := 599) (by decide +kernel), List.mem_of_getElem? (i := 600) (by decide +kernel)⟩
theorem lw_p26 : lw_okq (⟨"RangeRulesModel", "wins", "(I)I"⟩, 17) := ⟨⟨by decide +kernel, by decide +kernel⟩, List.mem_of_getElem? (i := 488) (by decide +kernel), List.mem_of_getElem? (i := 603) (by decide +kernel), List.mem_of_getElem? (i := 604) (by decide +kernel)⟩
theorem lw_p27 : lw_okq (⟨"RangeRulesModel", "winnerOf", "(I)I"⟩, 17) := ⟨⟨by decide +kernel, by decide +kernel⟩, List.mem_of_getElem? (i := 488) (by decide +kernel), List.mem_of_getElem? (i := 607) (by decide +kernel), List.mem_of_getElem? (i := 608) (by decide +kernel)⟩
theorem lw_p28 : lw_okq (⟨"RangeRulesModel", "firstOf", "(III)I"⟩, 17) := ⟨⟨by decide +kernel, by decide +kernel⟩, List.mem_of_getElem? (i := 488) (by decide +kernel), List.mem_of_getElem? (i := 611) (by decide +kernel), List.mem_of_getElem? (i := 612) (by decide +kernel)⟩
theorem lw_p29 : lw_okq (⟨"RangeRulesModel", "hasPoint", "(II)Z"⟩, 17) := ⟨⟨by decide +kernel, by decide +kernel⟩, List.mem_of_getElem? (i := 488) (by decide +kernel), List.mem_of_getElem? (i := 615) (by decide +kernel), List.mem_of_getElem? (i := 616) (by decide +kernel)⟩
theorem lw_p30 : lw_okq (⟨"RangeRulesModel", "takes", "(I)V"⟩, 17) := ⟨⟨by decide +kernel, by decide +kernel⟩, List.mem_of_getElem? (i := 488) (by decide +kernel), List.mem_of_getElem? (i := 634) (by decide +kernel), List.mem_of_getElem? (i := 635) (by decide +kernel)⟩
theorem lw_p31 : lw_okq (⟨"RangeRulesModel", "changes", "(I)V"⟩, 17) := ⟨⟨by decide +kernel, by decide +kernel⟩, List.mem_of_getElem? (i := 488) (by decide +kernel), List.mem_of_getElem? (i := 642) (by decide +kernel), List.mem_of_getElem? (i := 643) (by decide +kernel)⟩
def lw_privs_2 : List (MethodName × Nat) := [(⟨"RangeRulesModel", "against", "(IIII)I"⟩, 17), (⟨"RangeRulesModel", "fails", "(I)I"⟩, 17), (⟨"RangeRulesModel", "readAll", "(I)Z"⟩, 17), (⟨"RangeRulesModel", "isSign", "(II)Z"⟩, 17), (⟨"RangeRulesModel", "readRule", "(II)Z"⟩, 17), (⟨"RangeRulesModel", "readNumber", "(IIIII)Z"⟩, 17), (⟨"RangeRulesModel", "isRule", "(I)Z"⟩, 17), (⟨"RangeRulesModel", "worthOf", "(I)I"⟩, 17), (⟨"RangeRulesModel", "kindOf", "(I)I"⟩, 17), (⟨"RangeRulesModel", "numberOf", "(I)I"⟩, 17), (⟨"RangeRulesModel", "wins", "(I)I"⟩, 17), (⟨"RangeRulesModel", "winnerOf", "(I)I"⟩, 17), (⟨"RangeRulesModel", "firstOf", "(III)I"⟩, 17), (⟨"RangeRulesModel", "hasPoint", "(II)Z"⟩, 17), (⟨"RangeRulesModel", "takes", "(I)V"⟩, 17), (⟨"RangeRulesModel", "changes", "(I)V"⟩, 17)]
theorem lw_r2 : ∀ q ∈ lw_privs_2, lw_okq q := List.forall_mem_cons.mpr ⟨lw_p16, List.forall_mem_cons.mpr ⟨lw_p17, List.forall_mem_cons.mpr ⟨lw_p18, List.forall_mem_cons.mpr ⟨lw_p19, List.forall_mem_cons.mpr ⟨lw_p20, List.forall_mem_cons.mpr ⟨lw_p21, List.forall_mem_cons.mpr ⟨lw_p22, List.forall_mem_cons.mpr ⟨lw_p23, List.forall_mem_cons.mpr ⟨lw_p24, List.forall_mem_cons.mpr ⟨lw_p25, List.forall_mem_cons.mpr ⟨lw_p26, List.forall_mem_cons.mpr ⟨lw_p27, List.forall_mem_cons.mpr ⟨lw_p28, List.forall_mem_cons.mpr ⟨lw_p29, List.forall_mem_cons.mpr ⟨lw_p30, List.forall_mem_cons.mpr ⟨lw_p31, fun _ h => absurd h List.not_mem_nil⟩⟩⟩⟩⟩⟩⟩⟩⟩⟩⟩⟩⟩⟩⟩⟩
theorem lw_p32 : lw_okq (⟨"RangeRulesModel", "asks", "(II)V"⟩, 17) := ⟨⟨by decide +kernel, by decide +kernel⟩, List.mem_of_getElem? (i := 488) (by decide +kernel), List.mem_of_getElem? (i := 654) (by decide +kernel), List.mem_of_getElem? (i := 655) (by decide +kernel)⟩
theorem lw_p33 : lw_okq (⟨"RangeRulesModel", "deedOf", "(I)I"⟩, 17) := ⟨⟨by decide +kernel, by decide +kernel⟩, List.mem_of_getElem? (i := 488) (by decide +kernel), List.mem_of_getElem? (i := 658) (by decide +kernel), List.mem_of_getElem? (i := 659) (by decide +kernel)⟩
theorem lw_p34 : lw_okq (⟨"RangeRulesModel", "goDay", "(II)I"⟩, 17) := ⟨⟨by decide +kernel, by decide +kernel⟩, List.mem_of_getElem? (i := 488) (by decide +kernel), List.mem_of_getElem? (i := 669) (by decide +kernel), List.mem_of_getElem? (i := 670) (by decide +kernel)⟩
theorem lw_p35 : lw_okq (⟨"RangeRulesModel", "does", "(II)Z"⟩, 17) := ⟨⟨by decide +kernel, by decide +kernel⟩, List.mem_of_getElem? (i := 488) (by decide +kernel), List.mem_of_getElem? (i := 673) (by decide +kernel), List.mem_of_getElem? (i := 674) (by decide +kernel)⟩
theorem lw_p36 : lw_okq (⟨"RangeRulesModel", "tellDay", "(I)I"⟩, 17) := ⟨⟨by decide +kernel, by decide +kernel⟩, List.mem_of_getElem? (i := 488) (by decide +kernel), List.mem_of_getElem? (i := 677) (by decide +kernel), List.mem_of_getElem? (i := 678) (by decide +kernel)⟩
theorem lw_p37 : lw_okq (⟨"RangeRulesModel", "manyDenied", "()I"⟩, 17) := ⟨⟨by decide +kernel, by decide +kernel⟩, List.mem_of_getElem? (i := 488) (by decide +kernel), List.mem_of_getElem? (i := 681) (by decide +kernel), List.mem_of_getElem? (i := 682) (by decide +kernel)⟩
theorem lw_p38 : lw_okq (⟨"RangeRulesModel", "shadowed", "()I"⟩, 17) := ⟨⟨by decide +kernel, by decide +kernel⟩, List.mem_of_getElem? (i := 488) (by decide +kernel), List.mem_of_getElem? (i := 685) (by decide +kernel), List.mem_of_getElem? (i := 686) (by decide +kernel)⟩
theorem lw_p39 : lw_okq (⟨"RangeRulesModel", "runs", "()I"⟩, 17) := ⟨⟨by decide +kernel, by decide +kernel⟩, List.mem_of_getElem? (i := 488) (by decide +kernel), List.mem_of_getElem? (i := 689) (by decide +kernel), List.mem_of_getElem? (i := 690) (by decide +kernel)⟩
theorem lw_p40 : lw_okq (⟨"RangeRulesModel", "worthInAll", "()I"⟩, 17) := ⟨⟨by decide +kernel, by decide +kernel⟩, List.mem_of_getElem? (i := 488) (by decide +kernel), List.mem_of_getElem? (i := 693) (by decide +kernel), List.mem_of_getElem? (i := 694) (by decide +kernel)⟩
theorem lw_p41 : lw_okq (⟨"RangeRulesModel", "needed", "()I"⟩, 17) := ⟨⟨by decide +kernel, by decide +kernel⟩, List.mem_of_getElem? (i := 488) (by decide +kernel), List.mem_of_getElem? (i := 705) (by decide +kernel), List.mem_of_getElem? (i := 706) (by decide +kernel)⟩
theorem lw_p42 : lw_okq (⟨"RangeRulesModel", "areSo", "()Z"⟩, 17) := ⟨⟨by decide +kernel, by decide +kernel⟩, List.mem_of_getElem? (i := 488) (by decide +kernel), List.mem_of_getElem? (i := 721) (by decide +kernel), List.mem_of_getElem? (i := 722) (by decide +kernel)⟩
theorem lw_p43 : lw_okq (⟨"RangeRulesModel", "lost", "(I)J"⟩, 17) := ⟨⟨by decide +kernel, by decide +kernel⟩, List.mem_of_getElem? (i := 488) (by decide +kernel), List.mem_of_getElem? (i := 754) (by decide +kernel), List.mem_of_getElem? (i := 755) (by decide +kernel)⟩
theorem lw_p44 : lw_okq (⟨"RangeRulesModel", "begins", "(I)V"⟩, 17) := ⟨⟨by decide +kernel, by decide +kernel⟩, List.mem_of_getElem? (i := 488) (by decide +kernel), List.mem_of_getElem? (i := 766) (by decide +kernel), List.mem_of_getElem? (i := 767) (by decide +kernel)⟩
def lw_privs_3 : List (MethodName × Nat) := [(⟨"RangeRulesModel", "asks", "(II)V"⟩, 17), (⟨"RangeRulesModel", "deedOf", "(I)I"⟩, 17), (⟨"RangeRulesModel", "goDay", "(II)I"⟩, 17), (⟨"RangeRulesModel", "does", "(II)Z"⟩, 17), (⟨"RangeRulesModel", "tellDay", "(I)I"⟩, 17), (⟨"RangeRulesModel", "manyDenied", "()I"⟩, 17), (⟨"RangeRulesModel", "shadowed", "()I"⟩, 17), (⟨"RangeRulesModel", "runs", "()I"⟩, 17), (⟨"RangeRulesModel", "worthInAll", "()I"⟩, 17), (⟨"RangeRulesModel", "needed", "()I"⟩, 17), (⟨"RangeRulesModel", "areSo", "()Z"⟩, 17), (⟨"RangeRulesModel", "lost", "(I)J"⟩, 17), (⟨"RangeRulesModel", "begins", "(I)V"⟩, 17)]
theorem lw_r3 : ∀ q ∈ lw_privs_3, lw_okq q := List.forall_mem_cons.mpr ⟨lw_p32, List.forall_mem_cons.mpr ⟨lw_p33, List.forall_mem_cons.mpr ⟨lw_p34, List.forall_mem_cons.mpr ⟨lw_p35, List.forall_mem_cons.mpr ⟨lw_p36, List.forall_mem_cons.mpr ⟨lw_p37, List.forall_mem_cons.mpr ⟨lw_p38, List.forall_mem_cons.mpr ⟨lw_p39, List.forall_mem_cons.mpr ⟨lw_p40, List.forall_mem_cons.mpr ⟨lw_p41, List.forall_mem_cons.mpr ⟨lw_p42, List.forall_mem_cons.mpr ⟨lw_p43, List.forall_mem_cons.mpr ⟨lw_p44, fun _ h => absurd h List.not_mem_nil⟩⟩⟩⟩⟩⟩⟩⟩⟩⟩⟩⟩⟩
def lw_privs : List (MethodName × Nat) := lw_privs_1 ++ (lw_privs_2 ++ (lw_privs_3))
def lw_tbl : List Cond := k2_sels lw_privs ++ tables_1
theorem lw_privs_ok : ∀ q ∈ lw_privs, lw_okq q := by
  show ∀ q ∈ lw_privs_1 ++ (lw_privs_2 ++ (lw_privs_3)), lw_okq q
  exact List.forall_mem_append.mpr ⟨lw_r1, List.forall_mem_append.mpr ⟨lw_r2, lw_r3⟩⟩
end
section
def RX0 : String := "RangeRules$Asking"
def TX0 : u_T := fun k => match k with
  | 0 => ("RangeRules$Asking", "deniers", "[I", true)
  | 1 => ("RangeRules$Asking", "denials", "I", false)
  | _ => ("RangeRules$Asking", "worth", "I", false)
def tyX0 : Nat → FieldType := fun k => match k with
  | 0 => .array .int
  | 1 => .int
  | _ => .int
abbrev wsX00 : List Cond := u_ws RX0 TX0 3
theorem nmX0 : ∀ a, a < 3 → ∀ b, b < 3 → a ≠ b → (TX0 a).2.1 ≠ (TX0 b).2.1 := by decide +kernel
theorem tyX0_ok : ∀ k, k < 3 → parseFieldDescriptor (TX0 k).2.2.1 = some (tyX0 k) := by decide +kernel
abbrev cX0_init : ByteArray := prog_2_method_1_code
def yX0_init : MethodName := ⟨RX0, "<init>", "()V"⟩
abbrev cX0_walk : ByteArray := prog_2_method_2_code
def yX0_walk : MethodName := ⟨RX0, "walk", "(LRangeRules$Book;II)V"⟩
abbrev cX0_give : ByteArray := prog_2_method_3_code
def yX0_give : MethodName := ⟨RX0, "give", "(I)V"⟩
abbrev cX0_addDenier : ByteArray := prog_2_method_4_code
def yX0_addDenier : MethodName := ⟨RX0, "addDenier", "(I)V"⟩
abbrev cX0_denier : ByteArray := prog_2_method_5_code
def yX0_denier : MethodName := ⟨RX0, "denier", "(I)I"⟩
def RX1 : String := "RangeRules$Book"
def TX1 : u_T := fun k => match k with
  | 0 => ("RangeRules$Book", "rules", "[LRangeRules$Rule;", true)
  | 1 => ("RangeRules$Book", "asking", "LRangeRules$Asking;", true)
  | _ => ("RangeRules$Book", "count", "I", false)
def tyX1 : Nat → FieldType := fun k => match k with
  | 0 => .array (.object "RangeRules$Rule")
  | 1 => .object "RangeRules$Asking"
  | _ => .int
abbrev wsX10 : List Cond := u_ws RX1 TX1 3
theorem nmX1 : ∀ a, a < 3 → ∀ b, b < 3 → a ≠ b → (TX1 a).2.1 ≠ (TX1 b).2.1 := by decide +kernel
theorem tyX1_ok : ∀ k, k < 3 → parseFieldDescriptor (TX1 k).2.2.1 = some (tyX1 k) := by decide +kernel
abbrev cX1_init : ByteArray := prog_3_method_1_code
def yX1_init : MethodName := ⟨RX1, "<init>", "()V"⟩
abbrev cX1_isRule : ByteArray := prog_3_method_2_code
def yX1_isRule : MethodName := ⟨RX1, "isRule", "(I)Z"⟩
abbrev cX1_isPair : ByteArray := prog_3_method_3_code
def yX1_isPair : MethodName := ⟨RX1, "isPair", "(I)Z"⟩
abbrev cX1_becomeLike : ByteArray := prog_3_method_4_code
def yX1_becomeLike : MethodName := ⟨RX1, "becomeLike", "(LRangeRules$Book;)V"⟩
abbrev cX1_openPlace : ByteArray := prog_3_method_5_code
def yX1_openPlace : MethodName := ⟨RX1, "openPlace", "(I)V"⟩
abbrev cX1_takeAway : ByteArray := prog_3_method_6_code
def yX1_takeAway : MethodName := ⟨RX1, "takeAway", "(I)V"⟩
abbrev cX1_changePlaces : ByteArray := prog_3_method_7_code
def yX1_changePlaces : MethodName := ⟨RX1, "changePlaces", "(I)V"⟩
abbrev cX1_winnerOf : ByteArray := prog_3_method_8_code
def yX1_winnerOf : MethodName := ⟨RX1, "winnerOf", "(I)I"⟩
abbrev cX1_pointsWonBy : ByteArray := prog_3_method_9_code
def yX1_pointsWonBy : MethodName := ⟨RX1, "pointsWonBy", "(I)I"⟩
abbrev cX1_worthOf : ByteArray := prog_3_method_10_code
def yX1_worthOf : MethodName := ⟨RX1, "worthOf", "(II)I"⟩
abbrev cX1_countDenied : ByteArray := prog_3_method_11_code
def yX1_countDenied : MethodName := ⟨RX1, "countDenied", "()I"⟩
abbrev cX1_countWorth : ByteArray := prog_3_method_12_code
def yX1_countWorth : MethodName := ⟨RX1, "countWorth", "(I)I"⟩
abbrev cX1_worthTogether : ByteArray := prog_3_method_13_code
def yX1_worthTogether : MethodName := ⟨RX1, "worthTogether", "()I"⟩
abbrev cX1_beginsRun : ByteArray := prog_3_method_14_code
def yX1_beginsRun : MethodName := ⟨RX1, "beginsRun", "(I)Z"⟩
abbrev cX1_countRuns : ByteArray := prog_3_method_15_code
def yX1_countRuns : MethodName := ⟨RX1, "countRuns", "()I"⟩
abbrev cX1_firstOfRun : ByteArray := prog_3_method_16_code
def yX1_firstOfRun : MethodName := ⟨RX1, "firstOfRun", "(I)I"⟩
abbrev cX1_shadowed : ByteArray := prog_3_method_17_code
def yX1_shadowed : MethodName := ⟨RX1, "shadowed", "()I"⟩
abbrev cX1_needed : ByteArray := prog_3_method_18_code
def yX1_needed : MethodName := ⟨RX1, "needed", "()I"⟩
abbrev cX1_isNeeded : ByteArray := prog_3_method_19_code
def yX1_isNeeded : MethodName := ⟨RX1, "isNeeded", "(I)Z"⟩
def RX2 : String := "RangeRules$Row"
def TX2 : u_T := fun k => match k with
  | 0 => ("RangeRules$Row", "cells", "[I", true)
  | 1 => ("RangeRules$Row", "lane", "I", false)
  | _ => ("RangeRules$Row", "size", "I", false)
def tyX2 : Nat → FieldType := fun k => match k with
  | 0 => .array .int
  | 1 => .int
  | _ => .int
abbrev wsX20 : List Cond := u_ws RX2 TX2 3
theorem nmX2 : ∀ a, a < 3 → ∀ b, b < 3 → a ≠ b → (TX2 a).2.1 ≠ (TX2 b).2.1 := by decide +kernel
theorem tyX2_ok : ∀ k, k < 3 → parseFieldDescriptor (TX2 k).2.2.1 = some (tyX2 k) := by decide +kernel
abbrev cX2_init : ByteArray := prog_4_method_1_code
def yX2_init : MethodName := ⟨RX2, "<init>", "()V"⟩
abbrev cX2_isNothing : ByteArray := prog_4_method_2_code
def yX2_isNothing : MethodName := ⟨RX2, "isNothing", "()Z"⟩
abbrev cX2_becomeNothing : ByteArray := prog_4_method_3_code
def yX2_becomeNothing : MethodName := ⟨RX2, "becomeNothing", "()V"⟩
abbrev cX2_becomeNew : ByteArray := prog_4_method_4_code
def yX2_becomeNew : MethodName := ⟨RX2, "becomeNew", "(II)V"⟩
abbrev cX2_faultAs : ByteArray := prog_4_method_5_code
def yX2_faultAs : MethodName := ⟨RX2, "faultAs", "(I)I"⟩
abbrev cX2_hasCells : ByteArray := prog_4_method_6_code
def yX2_hasCells : MethodName := ⟨RX2, "hasCells", "(II)Z"⟩
abbrev cX2_read : ByteArray := prog_4_method_7_code
def yX2_read : MethodName := ⟨RX2, "read", "(I)I"⟩
abbrev cX2_write : ByteArray := prog_4_method_8_code
def yX2_write : MethodName := ⟨RX2, "write", "(II)V"⟩
abbrev cX2_cut : ByteArray := prog_4_method_9_code
def yX2_cut : MethodName := ⟨RX2, "cut", "(I)I"⟩
def RX3 : String := "RangeRules$Rule"
def TX3 : u_T := fun k => match k with
  | 0 => ("RangeRules$Rule", "kind", "I", false)
  | 1 => ("RangeRules$Rule", "deed", "I", false)
  | 2 => ("RangeRules$Rule", "number", "I", false)
  | 3 => ("RangeRules$Rule", "low", "I", false)
  | _ => ("RangeRules$Rule", "high", "I", false)
def tyX3 : Nat → FieldType := fun k => match k with
  | 0 => .int
  | 1 => .int
  | 2 => .int
  | 3 => .int
  | _ => .int
abbrev wsX30 : List Cond := u_ws RX3 TX3 5
theorem nmX3 : ∀ a, a < 5 → ∀ b, b < 5 → a ≠ b → (TX3 a).2.1 ≠ (TX3 b).2.1 := by decide +kernel
theorem tyX3_ok : ∀ k, k < 5 → parseFieldDescriptor (TX3 k).2.2.1 = some (tyX3 k) := by decide +kernel
abbrev cX3_init : ByteArray := prog_5_method_1_code
def yX3_init : MethodName := ⟨RX3, "<init>", "()V"⟩
abbrev cX3_become : ByteArray := prog_5_method_2_code
def yX3_become : MethodName := ⟨RX3, "become", "(IIIII)V"⟩
abbrev cX3_hasPoint : ByteArray := prog_5_method_3_code
def yX3_hasPoint : MethodName := ⟨RX3, "hasPoint", "(I)Z"⟩
abbrev cX3_ownWorth : ByteArray := prog_5_method_4_code
def yX3_ownWorth : MethodName := ⟨RX3, "ownWorth", "()I"⟩
def RX4 : String := "RangeRules$Text"
def TX4 : u_T := fun k => match k with
  | _ => ("", "", "", false)
def tyX4 : Nat → FieldType := fun k => match k with
  | _ => .int
abbrev wsX40 : List Cond := u_ws RX4 TX4 0
theorem nmX4 : ∀ a, a < 0 → ∀ b, b < 0 → a ≠ b → (TX4 a).2.1 ≠ (TX4 b).2.1 := by decide +kernel
theorem tyX4_ok : ∀ k, k < 0 → parseFieldDescriptor (TX4 k).2.2.1 = some (tyX4 k) := by decide +kernel
abbrev cX4_firstFault : ByteArray := prog_6_method_2_code
def yX4_firstFault : MethodName := ⟨RX4, "firstFault", "(LRangeRules$Row;II)I"⟩
abbrev cX4_goesOn : ByteArray := prog_6_method_3_code
def yX4_goesOn : MethodName := ⟨RX4, "goesOn", "(LRangeRules$Row;II)Z"⟩
abbrev cX4_take : ByteArray := prog_6_method_4_code
def yX4_take : MethodName := ⟨RX4, "take", "(LRangeRules$Row;IILRangeRules$Book;)V"⟩
abbrev cX4_kindOf : ByteArray := prog_6_method_5_code
def yX4_kindOf : MethodName := ⟨RX4, "kindOf", "(I)I"⟩
abbrev cX4_deedOf : ByteArray := prog_6_method_6_code
def yX4_deedOf : MethodName := ⟨RX4, "deedOf", "(I)I"⟩
def RX5 : String := "RangeRules"
def TX5 : u_T := fun k => match k with
  | 0 => ("RangeRules", "book", "LRangeRules$Book;", true)
  | 1 => ("RangeRules", "dayBook", "LRangeRules$Book;", true)
  | 2 => ("RangeRules", "rows", "[LRangeRules$Row;", true)
  | 3 => ("RangeRules", "readPoints", "[I", true)
  | 4 => ("RangeRules", "readWorths", "[I", true)
  | 5 => ("RangeRules", "readings", "I", false)
  | 6 => ("RangeRules", "trace", "I", false)
  | _ => ("RangeRules", "fault", "I", false)
def tyX5 : Nat → FieldType := fun k => match k with
  | 0 => .object "RangeRules$Book"
  | 1 => .object "RangeRules$Book"
  | 2 => .array (.object "RangeRules$Row")
  | 3 => .array .int
  | 4 => .array .int
  | 5 => .int
  | 6 => .int
  | _ => .int
abbrev wsX50 : List Cond := u_ws RX5 TX5 8
theorem nmX5 : ∀ a, a < 8 → ∀ b, b < 8 → a ≠ b → (TX5 a).2.1 ≠ (TX5 b).2.1 := by decide +kernel
theorem tyX5_ok : ∀ k, k < 8 → parseFieldDescriptor (TX5 k).2.2.1 = some (tyX5 k) := by decide +kernel
abbrev cX5_init : ByteArray := prog_1_method_1_code
def yX5_init : MethodName := ⟨RX5, "<init>", "()V"⟩
abbrev cX5_rules : ByteArray := prog_1_method_2_code
def yX5_rules : MethodName := ⟨RX5, "rules", "(IIII)I"⟩
abbrev cX5_ofRule : ByteArray := prog_1_method_3_code
def yX5_ofRule : MethodName := ⟨RX5, "ofRule", "(II)I"⟩
abbrev cX5_number : ByteArray := prog_1_method_4_code
def yX5_number : MethodName := ⟨RX5, "number", "(II)I"⟩
abbrev cX5_insert : ByteArray := prog_1_method_5_code
def yX5_insert : MethodName := ⟨RX5, "insert", "(IIIIII)I"⟩
abbrev cX5_remove : ByteArray := prog_1_method_6_code
def yX5_remove : MethodName := ⟨RX5, "remove", "(I)I"⟩
abbrev cX5_swap : ByteArray := prog_1_method_7_code
def yX5_swap : MethodName := ⟨RX5, "swap", "(I)I"⟩
abbrev cX5_winner : ByteArray := prog_1_method_8_code
def yX5_winner : MethodName := ⟨RX5, "winner", "(I)I"⟩
abbrev cX5_ask : ByteArray := prog_1_method_9_code
def yX5_ask : MethodName := ⟨RX5, "ask", "(II)I"⟩
abbrev cX5_day : ByteArray := prog_1_method_10_code
def yX5_day : MethodName := ⟨RX5, "day", "(IIIII)I"⟩
abbrev cX5_ofRun : ByteArray := prog_1_method_11_code
def yX5_ofRun : MethodName := ⟨RX5, "ofRun", "(II)I"⟩
abbrev cX5_whole : ByteArray := prog_1_method_12_code
def yX5_whole : MethodName := ⟨RX5, "whole", "(I)I"⟩
abbrev cX5_reading : ByteArray := prog_1_method_13_code
def yX5_reading : MethodName := ⟨RX5, "reading", "(II)I"⟩
abbrev cX5_back : ByteArray := prog_1_method_14_code
def yX5_back : MethodName := ⟨RX5, "back", "(I)I"⟩
abbrev cX5_kinds : ByteArray := prog_1_method_15_code
def yX5_kinds : MethodName := ⟨RX5, "kinds", "(I)I"⟩
abbrev cX5_numbers : ByteArray := prog_1_method_16_code
def yX5_numbers : MethodName := ⟨RX5, "numbers", "(I)I"⟩
abbrev cX5_odds : ByteArray := prog_1_method_17_code
def yX5_odds : MethodName := ⟨RX5, "odds", "(II)J"⟩
abbrev cX5_sheet : ByteArray := prog_1_method_18_code
def yX5_sheet : MethodName := ⟨RX5, "sheet", "(III)I"⟩
abbrev cX5_lose : ByteArray := prog_1_method_19_code
def yX5_lose : MethodName := ⟨RX5, "lose", "(I)I"⟩
abbrev cX5_put : ByteArray := prog_1_method_20_code
def yX5_put : MethodName := ⟨RX5, "put", "(III)I"⟩
abbrev cX5_cell : ByteArray := prog_1_method_21_code
def yX5_cell : MethodName := ⟨RX5, "cell", "(III)J"⟩
abbrev cX5_copy : ByteArray := prog_1_method_22_code
def yX5_copy : MethodName := ⟨RX5, "copy", "(IIIII)I"⟩
abbrev cX5_tell : ByteArray := prog_1_method_23_code
def yX5_tell : MethodName := ⟨RX5, "tell", "(I)I"⟩
abbrev cX5_cite : ByteArray := prog_1_method_24_code
def yX5_cite : MethodName := ⟨RX5, "cite", "(I)I"⟩
abbrev cX5_as : ByteArray := prog_1_method_25_code
def yX5_as : MethodName := ⟨RX5, "as", "(II)I"⟩
abbrev cX5_trace : ByteArray := prog_1_method_26_code
def yX5_trace : MethodName := ⟨RX5, "trace", "()I"⟩
abbrev cX5_fault : ByteArray := prog_1_method_27_code
def yX5_fault : MethodName := ⟨RX5, "fault", "()I"⟩
abbrev cX5_many : ByteArray := prog_1_method_28_code
def yX5_many : MethodName := ⟨RX5, "many", "(I)I"⟩
abbrev cX5_isIn : ByteArray := prog_1_method_29_code
def yX5_isIn : MethodName := ⟨RX5, "isIn", "(III)Z"⟩
abbrev cX5_isPoint : ByteArray := prog_1_method_30_code
def yX5_isPoint : MethodName := ⟨RX5, "isPoint", "(I)Z"⟩
abbrev cX5_isSheet : ByteArray := prog_1_method_31_code
def yX5_isSheet : MethodName := ⟨RX5, "isSheet", "(I)Z"⟩
abbrev cX5_faulted : ByteArray := prog_1_method_32_code
def yX5_faulted : MethodName := ⟨RX5, "faulted", "(I)I"⟩
abbrev cX5_runsNow : ByteArray := prog_1_method_33_code
def yX5_runsNow : MethodName := ⟨RX5, "runsNow", "()I"⟩
abbrev cX5_areReadingsSo : ByteArray := prog_1_method_34_code
def yX5_areReadingsSo : MethodName := ⟨RX5, "areReadingsSo", "()Z"⟩
abbrev cX5_greatestCommon : ByteArray := prog_1_method_35_code
def yX5_greatestCommon : MethodName := ⟨RX5, "greatestCommon", "(II)I"⟩
abbrev cX5_areActs : ByteArray := prog_1_method_36_code
def yX5_areActs : MethodName := ⟨RX5, "areActs", "(LRangeRules$Row;II)Z"⟩
abbrev cX5_isAct : ByteArray := prog_1_method_37_code
def yX5_isAct : MethodName := ⟨RX5, "isAct", "(II)Z"⟩
abbrev cX5_playDay : ByteArray := prog_1_method_38_code
def yX5_playDay : MethodName := ⟨RX5, "playDay", "(LRangeRules$Row;II)I"⟩
abbrev cX5_playAct : ByteArray := prog_1_method_39_code
def yX5_playAct : MethodName := ⟨RX5, "playAct", "(II)Z"⟩
abbrev cX5_ofDay : ByteArray := prog_1_method_40_code
def yX5_ofDay : MethodName := ⟨RX5, "ofDay", "(I)I"⟩
abbrev cX5_leave : ByteArray := prog_1_method_41_code
def yX5_leave : MethodName := ⟨RX5, "leave", "(I)V"⟩
abbrev cX5_plainBody : ByteArray := prog_1_method_42_code
def yX5_plainBody : MethodName := ⟨RX5, "plainBody", "(LRangeRules$Rule;)I"⟩
abbrev cX5_bulkyBody : ByteArray := prog_1_method_43_code
def yX5_bulkyBody : MethodName := ⟨RX5, "bulkyBody", "(LRangeRules$Rule;)I"⟩
abbrev cX5_doubleBody : ByteArray := prog_1_method_44_code
def yX5_doubleBody : MethodName := ⟨RX5, "doubleBody", "(LRangeRules$Rule;)I"⟩
abbrev cX5_lentCiteBody : ByteArray := prog_1_method_45_code
def yX5_lentCiteBody : MethodName := ⟨RX5, "lentCiteBody", "(LRangeRules$Rule;)I"⟩
abbrev cX5_ownCiteBody : ByteArray := prog_1_method_46_code
def yX5_ownCiteBody : MethodName := ⟨RX5, "ownCiteBody", "()I"⟩
def RX6 : String := "RangeRulesModel"
def TX6 : u_T := fun k => match k with
  | 0 => ("RangeRulesModel", "fault", "I", false)
  | 1 => ("RangeRulesModel", "trace", "I", false)
  | 2 => ("RangeRulesModel", "sorts", "[I", true)
  | 3 => ("RangeRulesModel", "sheetLong", "[I", true)
  | 4 => ("RangeRulesModel", "cells", "[I", true)
  | 5 => ("RangeRulesModel", "rules", "I", false)
  | 6 => ("RangeRulesModel", "parts", "[I", true)
  | 7 => ("RangeRulesModel", "at", "I", false)
  | 8 => ("RangeRulesModel", "readRules", "I", false)
  | 9 => ("RangeRulesModel", "readParts", "[I", true)
  | 10 => ("RangeRulesModel", "denials", "[I", true)
  | 11 => ("RangeRulesModel", "denied", "I", false)
  | 12 => ("RangeRulesModel", "worth", "I", false)
  | 13 => ("RangeRulesModel", "kept", "[I", true)
  | 14 => ("RangeRulesModel", "readings", "I", false)
  | 15 => ("RangeRulesModel", "readPoint", "[I", true)
  | _ => ("RangeRulesModel", "readWorth", "[I", true)
def tyX6 : Nat → FieldType := fun k => match k with
  | 0 => .int
  | 1 => .int
  | 2 => .array .int
  | 3 => .array .int
  | 4 => .array .int
  | 5 => .int
  | 6 => .array .int
  | 7 => .int
  | 8 => .int
  | 9 => .array .int
  | 10 => .array .int
  | 11 => .int
  | 12 => .int
  | 13 => .array .int
  | 14 => .int
  | 15 => .array .int
  | _ => .array .int
abbrev wsX60 : List Cond := u_ws RX6 TX6 17
theorem nmX6 : ∀ a, a < 17 → ∀ b, b < 17 → a ≠ b → (TX6 a).2.1 ≠ (TX6 b).2.1 := by decide +kernel
theorem tyX6_ok : ∀ k, k < 17 → parseFieldDescriptor (TX6 k).2.2.1 = some (tyX6 k) := by decide +kernel
abbrev cX6_init : ByteArray := prog_8_method_1_code
def yX6_init : MethodName := ⟨RX6, "<init>", "()V"⟩
abbrev cX6_fails : ByteArray := prog_8_method_3_code
def yX6_fails : MethodName := ⟨RX6, "fails", "(I)I"⟩
abbrev cX6_lost : ByteArray := prog_8_method_4_code
def yX6_lost : MethodName := ⟨RX6, "lost", "(I)J"⟩
abbrev cX6_within : ByteArray := prog_8_method_5_code
def yX6_within : MethodName := ⟨RX6, "within", "(III)Z"⟩
abbrev cX6_isSheet : ByteArray := prog_8_method_6_code
def yX6_isSheet : MethodName := ⟨RX6, "isSheet", "(I)Z"⟩
abbrev cX6_isSort : ByteArray := prog_8_method_7_code
def yX6_isSort : MethodName := ⟨RX6, "isSort", "(I)Z"⟩
abbrev cX6_against : ByteArray := prog_8_method_8_code
def yX6_against : MethodName := ⟨RX6, "against", "(IIII)I"⟩
abbrev cX6_isRule : ByteArray := prog_8_method_9_code
def yX6_isRule : MethodName := ⟨RX6, "isRule", "(I)Z"⟩
abbrev cX6_isPoint : ByteArray := prog_8_method_10_code
def yX6_isPoint : MethodName := ⟨RX6, "isPoint", "(I)Z"⟩
abbrev cX6_kindOf : ByteArray := prog_8_method_11_code
def yX6_kindOf : MethodName := ⟨RX6, "kindOf", "(I)I"⟩
abbrev cX6_deedOf : ByteArray := prog_8_method_12_code
def yX6_deedOf : MethodName := ⟨RX6, "deedOf", "(I)I"⟩
abbrev cX6_numberOf : ByteArray := prog_8_method_13_code
def yX6_numberOf : MethodName := ⟨RX6, "numberOf", "(I)I"⟩
abbrev cX6_hasPoint : ByteArray := prog_8_method_14_code
def yX6_hasPoint : MethodName := ⟨RX6, "hasPoint", "(II)Z"⟩
abbrev cX6_worthOf : ByteArray := prog_8_method_15_code
def yX6_worthOf : MethodName := ⟨RX6, "worthOf", "(I)I"⟩
abbrev cX6_rules : ByteArray := prog_8_method_16_code
def yX6_rules : MethodName := ⟨RX6, "rules", "(IIII)I"⟩
abbrev cX6_isSign : ByteArray := prog_8_method_17_code
def yX6_isSign : MethodName := ⟨RX6, "isSign", "(II)Z"⟩
abbrev cX6_readAll : ByteArray := prog_8_method_18_code
def yX6_readAll : MethodName := ⟨RX6, "readAll", "(I)Z"⟩
abbrev cX6_readRule : ByteArray := prog_8_method_19_code
def yX6_readRule : MethodName := ⟨RX6, "readRule", "(II)Z"⟩
abbrev cX6_readNumber : ByteArray := prog_8_method_20_code
def yX6_readNumber : MethodName := ⟨RX6, "readNumber", "(IIIII)Z"⟩
abbrev cX6_firstOf : ByteArray := prog_8_method_21_code
def yX6_firstOf : MethodName := ⟨RX6, "firstOf", "(III)I"⟩
abbrev cX6_asks : ByteArray := prog_8_method_22_code
def yX6_asks : MethodName := ⟨RX6, "asks", "(II)V"⟩
abbrev cX6_winnerOf : ByteArray := prog_8_method_23_code
def yX6_winnerOf : MethodName := ⟨RX6, "winnerOf", "(I)I"⟩
abbrev cX6_wins : ByteArray := prog_8_method_24_code
def yX6_wins : MethodName := ⟨RX6, "wins", "(I)I"⟩
abbrev cX6_ofRule : ByteArray := prog_8_method_25_code
def yX6_ofRule : MethodName := ⟨RX6, "ofRule", "(II)I"⟩
abbrev cX6_number : ByteArray := prog_8_method_26_code
def yX6_number : MethodName := ⟨RX6, "number", "(II)I"⟩
abbrev cX6_insert : ByteArray := prog_8_method_27_code
def yX6_insert : MethodName := ⟨RX6, "insert", "(IIIIII)I"⟩
abbrev cX6_takes : ByteArray := prog_8_method_28_code
def yX6_takes : MethodName := ⟨RX6, "takes", "(I)V"⟩
abbrev cX6_remove : ByteArray := prog_8_method_29_code
def yX6_remove : MethodName := ⟨RX6, "remove", "(I)I"⟩
abbrev cX6_changes : ByteArray := prog_8_method_30_code
def yX6_changes : MethodName := ⟨RX6, "changes", "(I)V"⟩
abbrev cX6_swap : ByteArray := prog_8_method_31_code
def yX6_swap : MethodName := ⟨RX6, "swap", "(I)I"⟩
abbrev cX6_winner : ByteArray := prog_8_method_32_code
def yX6_winner : MethodName := ⟨RX6, "winner", "(I)I"⟩
abbrev cX6_ask : ByteArray := prog_8_method_33_code
def yX6_ask : MethodName := ⟨RX6, "ask", "(II)I"⟩
abbrev cX6_runs : ByteArray := prog_8_method_34_code
def yX6_runs : MethodName := ⟨RX6, "runs", "()I"⟩
abbrev cX6_shadowed : ByteArray := prog_8_method_35_code
def yX6_shadowed : MethodName := ⟨RX6, "shadowed", "()I"⟩
abbrev cX6_manyDenied : ByteArray := prog_8_method_36_code
def yX6_manyDenied : MethodName := ⟨RX6, "manyDenied", "()I"⟩
abbrev cX6_worthInAll : ByteArray := prog_8_method_37_code
def yX6_worthInAll : MethodName := ⟨RX6, "worthInAll", "()I"⟩
abbrev cX6_needed : ByteArray := prog_8_method_38_code
def yX6_needed : MethodName := ⟨RX6, "needed", "()I"⟩
abbrev cX6_does : ByteArray := prog_8_method_39_code
def yX6_does : MethodName := ⟨RX6, "does", "(II)Z"⟩
abbrev cX6_isPair : ByteArray := prog_8_method_40_code
def yX6_isPair : MethodName := ⟨RX6, "isPair", "(II)Z"⟩
abbrev cX6_goDay : ByteArray := prog_8_method_41_code
def yX6_goDay : MethodName := ⟨RX6, "goDay", "(II)I"⟩
abbrev cX6_day : ByteArray := prog_8_method_42_code
def yX6_day : MethodName := ⟨RX6, "day", "(IIIII)I"⟩
abbrev cX6_tellDay : ByteArray := prog_8_method_43_code
def yX6_tellDay : MethodName := ⟨RX6, "tellDay", "(I)I"⟩
abbrev cX6_ofRun : ByteArray := prog_8_method_44_code
def yX6_ofRun : MethodName := ⟨RX6, "ofRun", "(II)I"⟩
abbrev cX6_whole : ByteArray := prog_8_method_45_code
def yX6_whole : MethodName := ⟨RX6, "whole", "(I)I"⟩
abbrev cX6_reading : ByteArray := prog_8_method_46_code
def yX6_reading : MethodName := ⟨RX6, "reading", "(II)I"⟩
abbrev cX6_back : ByteArray := prog_8_method_47_code
def yX6_back : MethodName := ⟨RX6, "back", "(I)I"⟩
abbrev cX6_areSo : ByteArray := prog_8_method_48_code
def yX6_areSo : MethodName := ⟨RX6, "areSo", "()Z"⟩
abbrev cX6_kinds : ByteArray := prog_8_method_49_code
def yX6_kinds : MethodName := ⟨RX6, "kinds", "(I)I"⟩
abbrev cX6_numbers : ByteArray := prog_8_method_50_code
def yX6_numbers : MethodName := ⟨RX6, "numbers", "(I)I"⟩
abbrev cX6_inLeastTerms : ByteArray := prog_8_method_51_code
def yX6_inLeastTerms : MethodName := ⟨RX6, "inLeastTerms", "(JJI)J"⟩
abbrev cX6_odds : ByteArray := prog_8_method_52_code
def yX6_odds : MethodName := ⟨RX6, "odds", "(II)J"⟩
abbrev cX6_sheet : ByteArray := prog_8_method_53_code
def yX6_sheet : MethodName := ⟨RX6, "sheet", "(III)I"⟩
abbrev cX6_lose : ByteArray := prog_8_method_54_code
def yX6_lose : MethodName := ⟨RX6, "lose", "(I)I"⟩
abbrev cX6_put : ByteArray := prog_8_method_55_code
def yX6_put : MethodName := ⟨RX6, "put", "(III)I"⟩
abbrev cX6_cell : ByteArray := prog_8_method_56_code
def yX6_cell : MethodName := ⟨RX6, "cell", "(III)J"⟩
abbrev cX6_copy : ByteArray := prog_8_method_57_code
def yX6_copy : MethodName := ⟨RX6, "copy", "(IIIII)I"⟩
abbrev cX6_begins : ByteArray := prog_8_method_58_code
def yX6_begins : MethodName := ⟨RX6, "begins", "(I)V"⟩
abbrev cX6_tell : ByteArray := prog_8_method_59_code
def yX6_tell : MethodName := ⟨RX6, "tell", "(I)I"⟩
abbrev cX6_cite : ByteArray := prog_8_method_60_code
def yX6_cite : MethodName := ⟨RX6, "cite", "(I)I"⟩
abbrev cX6_as : ByteArray := prog_8_method_61_code
def yX6_as : MethodName := ⟨RX6, "as", "(II)I"⟩
abbrev cX6_trace : ByteArray := prog_8_method_62_code
def yX6_trace : MethodName := ⟨RX6, "trace", "()I"⟩
abbrev cX6_fault : ByteArray := prog_8_method_63_code
def yX6_fault : MethodName := ⟨RX6, "fault", "()I"⟩
abbrev cX6_many : ByteArray := prog_8_method_64_code
def yX6_many : MethodName := ⟨RX6, "many", "(I)I"⟩
def RJ9 : String := "java/lang/Math"
def TJ9 : u_T := fun k => match k with
  | _ => ("", "", "", false)
def tyJ9 : Nat → FieldType := fun k => match k with
  | _ => .int
abbrev wsJ90 : List Cond := u_ws RJ9 TJ9 0
theorem nmJ9 : ∀ a, a < 0 → ∀ b, b < 0 → a ≠ b → (TJ9 a).2.1 ≠ (TJ9 b).2.1 := by decide +kernel
theorem tyJ9_ok : ∀ k, k < 0 → parseFieldDescriptor (TJ9 k).2.2.1 = some (tyJ9 k) := by decide +kernel
abbrev cJ9_max_7cf53 : ByteArray := prog_9_method_65_code
def yJ9_max_7cf53 : MethodName := ⟨RJ9, "max", "(II)I"⟩
abbrev cJ9_min_7cf53 : ByteArray := prog_9_method_69_code
def yJ9_min_7cf53 : MethodName := ⟨RJ9, "min", "(II)I"⟩
def RJ10 : String := "java/lang/System"
def TJ10 : u_T := fun k => match k with
  | _ => ("", "", "", false)
def tyJ10 : Nat → FieldType := fun k => match k with
  | _ => .int
abbrev wsJ100 : List Cond := u_ws RJ10 TJ10 0
theorem nmJ10 : ∀ a, a < 0 → ∀ b, b < 0 → a ≠ b → (TJ10 a).2.1 ≠ (TJ10 b).2.1 := by decide +kernel
theorem tyJ10_ok : ∀ k, k < 0 → parseFieldDescriptor (TJ10 k).2.2.1 = some (tyJ10 k) := by decide +kernel
def RL : String := "RangeRulesLaw"
abbrev cL_law : ByteArray := code
def yL_law : MethodName := ⟨RL, "law", "([I)Z"⟩
abbrev vwCl : List vw_C := [(RX0, TX0, 3), (RX1, TX1, 3), (RX2, TX2, 3), (RX3, TX3, 5), (RX5, TX5, 8), (RX6, TX6, 17)]
end
section
theorem dX0_init_0 : decode cX0_init 0 = .ok (.aload_n 0, 1) := by decide +kernel
theorem dX0_init_1 : decode cX0_init 1 = .ok (.invokespecial 3, 3) := by decide +kernel
theorem dX0_init_4 : decode cX0_init 4 = .ok (.aload_n 0, 1) := by decide +kernel
theorem dX0_init_5 : decode cX0_init 5 = .ok (.bipush 8, 2) := by decide +kernel
theorem dX0_init_7 : decode cX0_init 7 = .ok (.newarray .int, 2) := by decide +kernel
theorem dX0_init_9 : decode cX0_init 9 = .ok (.putfield 9, 3) := by decide +kernel
theorem dX0_init_12 : decode cX0_init 12 = .ok (.return_, 1) := by decide +kernel
theorem dX0_walk_0 : decode cX0_walk 0 = .ok (.iload_n 2, 1) := by decide +kernel
theorem dX0_walk_1 : decode cX0_walk 1 = .ok (.istore 4, 2) := by decide +kernel
theorem dX0_walk_3 : decode cX0_walk 3 = .ok (.iconst 0, 1) := by decide +kernel
theorem dX0_walk_4 : decode cX0_walk 4 = .ok (.istore 5, 2) := by decide +kernel
theorem dX0_walk_6 : decode cX0_walk 6 = .ok (.aload_n 0, 1) := by decide +kernel
theorem dX0_walk_7 : decode cX0_walk 7 = .ok (.iconst 0, 1) := by decide +kernel
theorem dX0_walk_8 : decode cX0_walk 8 = .ok (.putfield 15, 3) := by decide +kernel
theorem dX0_walk_11 : decode cX0_walk 11 = .ok (.iconst 0, 1) := by decide +kernel
theorem dX0_walk_12 : decode cX0_walk 12 = .ok (.istore 6, 2) := by decide +kernel
theorem dX0_walk_14 : decode cX0_walk 14 = .ok (.iload 6, 2) := by decide +kernel
theorem dX0_walk_16 : decode cX0_walk 16 = .ok (.aload_n 1, 1) := by decide +kernel
theorem dX0_walk_17 : decode cX0_walk 17 = .ok (.getfield 19, 3) := by decide +kernel
theorem dX0_walk_20 : decode cX0_walk 20 = .ok (.if_icmp .ge 94, 3) := by decide +kernel
theorem dX0_walk_23 : decode cX0_walk 23 = .ok (.aload_n 1, 1) := by decide +kernel
theorem dX0_walk_24 : decode cX0_walk 24 = .ok (.getfield 24, 3) := by decide +kernel
theorem dX0_walk_27 : decode cX0_walk 27 = .ok (.iload 6, 2) := by decide +kernel
theorem dX0_walk_29 : decode cX0_walk 29 = .ok (.aaload, 1) := by decide +kernel
theorem dX0_walk_30 : decode cX0_walk 30 = .ok (.astore 7, 2) := by decide +kernel
theorem dX0_walk_32 : decode cX0_walk 32 = .ok (.iload 6, 2) := by decide +kernel
theorem dX0_walk_34 : decode cX0_walk 34 = .ok (.iload_n 3, 1) := by decide +kernel
theorem dX0_walk_35 : decode cX0_walk 35 = .ok (.if_icmp .eq 73, 3) := by decide +kernel
theorem dX0_walk_38 : decode cX0_walk 38 = .ok (.aload 7, 2) := by decide +kernel
theorem dX0_walk_40 : decode cX0_walk 40 = .ok (.iload 4, 2) := by decide +kernel
theorem dX0_walk_42 : decode cX0_walk 42 = .ok (.invokevirtual 28, 3) := by decide +kernel
theorem dX0_walk_45 : decode cX0_walk 45 = .ok (.ifCond .ne 6, 3) := by decide +kernel
theorem dX0_walk_48 : decode cX0_walk 48 = .ok (.goto 60, 3) := by decide +kernel
theorem dX0_walk_51 : decode cX0_walk 51 = .ok (.iload 5, 2) := by decide +kernel
theorem dX0_walk_53 : decode cX0_walk 53 = .ok (.aload 7, 2) := by decide +kernel
theorem dX0_walk_55 : decode cX0_walk 55 = .ok (.invokevirtual 34, 3) := by decide +kernel
theorem dX0_walk_58 : decode cX0_walk 58 = .ok (.iadd, 1) := by decide +kernel
theorem dX0_walk_59 : decode cX0_walk 59 = .ok (.istore 5, 2) := by decide +kernel
theorem dX0_walk_61 : decode cX0_walk 61 = .ok (.aload 7, 2) := by decide +kernel
theorem dX0_walk_63 : decode cX0_walk 63 = .ok (.getfield 38, 3) := by decide +kernel
theorem dX0_walk_66 : decode cX0_walk 66 = .ok (.ifCond .ne 10, 3) := by decide +kernel
theorem dX0_walk_69 : decode cX0_walk 69 = .ok (.aload_n 0, 1) := by decide +kernel
theorem dX0_walk_70 : decode cX0_walk 70 = .ok (.iload 5, 2) := by decide +kernel
theorem dX0_walk_72 : decode cX0_walk 72 = .ok (.invokevirtual 41, 3) := by decide +kernel
theorem dX0_walk_75 : decode cX0_walk 75 = .ok (.return_, 1) := by decide +kernel
theorem dX0_walk_76 : decode cX0_walk 76 = .ok (.aload_n 0, 1) := by decide +kernel
theorem dX0_walk_77 : decode cX0_walk 77 = .ok (.iload 6, 2) := by decide +kernel
theorem dX0_walk_79 : decode cX0_walk 79 = .ok (.invokevirtual 45, 3) := by decide +kernel
theorem dX0_walk_82 : decode cX0_walk 82 = .ok (.aload 7, 2) := by decide +kernel
theorem dX0_walk_84 : decode cX0_walk 84 = .ok (.getfield 38, 3) := by decide +kernel
theorem dX0_walk_87 : decode cX0_walk 87 = .ok (.iconst 1, 1) := by decide +kernel
theorem dX0_walk_88 : decode cX0_walk 88 = .ok (.if_icmp .ne 10, 3) := by decide +kernel
theorem dX0_walk_91 : decode cX0_walk 91 = .ok (.aload_n 0, 1) := by decide +kernel
theorem dX0_walk_92 : decode cX0_walk 92 = .ok (.bipush (-9), 2) := by decide +kernel
theorem dX0_walk_94 : decode cX0_walk 94 = .ok (.putfield 48, 3) := by decide +kernel
theorem dX0_walk_97 : decode cX0_walk 97 = .ok (.return_, 1) := by decide +kernel
theorem dX0_walk_98 : decode cX0_walk 98 = .ok (.iload 4, 2) := by decide +kernel
theorem dX0_walk_100 : decode cX0_walk 100 = .ok (.aload 7, 2) := by decide +kernel
theorem dX0_walk_102 : decode cX0_walk 102 = .ok (.getfield 51, 3) := by decide +kernel
theorem dX0_walk_105 : decode cX0_walk 105 = .ok (.iadd, 1) := by decide +kernel
theorem dX0_walk_106 : decode cX0_walk 106 = .ok (.istore 4, 2) := by decide +kernel
theorem dX0_walk_108 : decode cX0_walk 108 = .ok (.iinc 6 1, 3) := by decide +kernel
theorem dX0_walk_111 : decode cX0_walk 111 = .ok (.goto (-97), 3) := by decide +kernel
theorem dX0_walk_114 : decode cX0_walk 114 = .ok (.aload_n 0, 1) := by decide +kernel
theorem dX0_walk_115 : decode cX0_walk 115 = .ok (.bipush 7, 2) := by decide +kernel
theorem dX0_walk_117 : decode cX0_walk 117 = .ok (.invokevirtual 45, 3) := by decide +kernel
theorem dX0_walk_120 : decode cX0_walk 120 = .ok (.aload_n 0, 1) := by decide +kernel
theorem dX0_walk_121 : decode cX0_walk 121 = .ok (.bipush (-9), 2) := by decide +kernel
theorem dX0_walk_123 : decode cX0_walk 123 = .ok (.putfield 48, 3) := by decide +kernel
theorem dX0_walk_126 : decode cX0_walk 126 = .ok (.return_, 1) := by decide +kernel
theorem dX0_give_0 : decode cX0_give 0 = .ok (.aload_n 0, 1) := by decide +kernel
theorem dX0_give_1 : decode cX0_give 1 = .ok (.iload_n 1, 1) := by decide +kernel
theorem dX0_give_2 : decode cX0_give 2 = .ok (.putfield 48, 3) := by decide +kernel
theorem dX0_give_5 : decode cX0_give 5 = .ok (.aload_n 0, 1) := by decide +kernel
theorem dX0_give_6 : decode cX0_give 6 = .ok (.iconst 0, 1) := by decide +kernel
theorem dX0_give_7 : decode cX0_give 7 = .ok (.putfield 15, 3) := by decide +kernel
theorem dX0_give_10 : decode cX0_give 10 = .ok (.return_, 1) := by decide +kernel
theorem dX0_addDenier_0 : decode cX0_addDenier 0 = .ok (.aload_n 0, 1) := by decide +kernel
theorem dX0_addDenier_1 : decode cX0_addDenier 1 = .ok (.getfield 15, 3) := by decide +kernel
theorem dX0_addDenier_4 : decode cX0_addDenier 4 = .ok (.aload_n 0, 1) := by decide +kernel
theorem dX0_addDenier_5 : decode cX0_addDenier 5 = .ok (.getfield 9, 3) := by decide +kernel
theorem dX0_addDenier_8 : decode cX0_addDenier 8 = .ok (.arraylength, 1) := by decide +kernel
theorem dX0_addDenier_9 : decode cX0_addDenier 9 = .ok (.if_icmp .lt 4, 3) := by decide +kernel
theorem dX0_addDenier_12 : decode cX0_addDenier 12 = .ok (.return_, 1) := by decide +kernel
theorem dX0_addDenier_13 : decode cX0_addDenier 13 = .ok (.aload_n 0, 1) := by decide +kernel
theorem dX0_addDenier_14 : decode cX0_addDenier 14 = .ok (.getfield 9, 3) := by decide +kernel
theorem dX0_addDenier_17 : decode cX0_addDenier 17 = .ok (.aload_n 0, 1) := by decide +kernel
theorem dX0_addDenier_18 : decode cX0_addDenier 18 = .ok (.getfield 15, 3) := by decide +kernel
theorem dX0_addDenier_21 : decode cX0_addDenier 21 = .ok (.iload_n 1, 1) := by decide +kernel
theorem dX0_addDenier_22 : decode cX0_addDenier 22 = .ok (.iastore, 1) := by decide +kernel
theorem dX0_addDenier_23 : decode cX0_addDenier 23 = .ok (.aload_n 0, 1) := by decide +kernel
theorem dX0_addDenier_24 : decode cX0_addDenier 24 = .ok (.dup, 1) := by decide +kernel
theorem dX0_addDenier_25 : decode cX0_addDenier 25 = .ok (.getfield 15, 3) := by decide +kernel
theorem dX0_addDenier_28 : decode cX0_addDenier 28 = .ok (.iconst 1, 1) := by decide +kernel
theorem dX0_addDenier_29 : decode cX0_addDenier 29 = .ok (.iadd, 1) := by decide +kernel
theorem dX0_addDenier_30 : decode cX0_addDenier 30 = .ok (.putfield 15, 3) := by decide +kernel
theorem dX0_addDenier_33 : decode cX0_addDenier 33 = .ok (.return_, 1) := by decide +kernel
theorem dX0_denier_0 : decode cX0_denier 0 = .ok (.iload_n 1, 1) := by decide +kernel
theorem dX0_denier_1 : decode cX0_denier 1 = .ok (.ifCond .lt 20, 3) := by decide +kernel
theorem dX0_denier_4 : decode cX0_denier 4 = .ok (.iload_n 1, 1) := by decide +kernel
theorem dX0_denier_5 : decode cX0_denier 5 = .ok (.aload_n 0, 1) := by decide +kernel
theorem dX0_denier_6 : decode cX0_denier 6 = .ok (.getfield 15, 3) := by decide +kernel
theorem dX0_denier_9 : decode cX0_denier 9 = .ok (.if_icmp .ge 12, 3) := by decide +kernel
theorem dX0_denier_12 : decode cX0_denier 12 = .ok (.aload_n 0, 1) := by decide +kernel
theorem dX0_denier_13 : decode cX0_denier 13 = .ok (.getfield 9, 3) := by decide +kernel
theorem dX0_denier_16 : decode cX0_denier 16 = .ok (.iload_n 1, 1) := by decide +kernel
theorem dX0_denier_17 : decode cX0_denier 17 = .ok (.iaload, 1) := by decide +kernel
theorem dX0_denier_18 : decode cX0_denier 18 = .ok (.goto 5, 3) := by decide +kernel
theorem dX0_denier_21 : decode cX0_denier 21 = .ok (.bipush (-9), 2) := by decide +kernel
theorem dX0_denier_23 : decode cX0_denier 23 = .ok (.ireturn, 1) := by decide +kernel
theorem dX1_init_0 : decode cX1_init 0 = .ok (.aload_n 0, 1) := by decide +kernel
theorem dX1_init_1 : decode cX1_init 1 = .ok (.invokespecial 3, 3) := by decide +kernel
theorem dX1_init_4 : decode cX1_init 4 = .ok (.aload_n 0, 1) := by decide +kernel
theorem dX1_init_5 : decode cX1_init 5 = .ok (.bipush 7, 2) := by decide +kernel
theorem dX1_init_7 : decode cX1_init 7 = .ok (.anewarray 9, 3) := by decide +kernel
theorem dX1_init_10 : decode cX1_init 10 = .ok (.putfield 11, 3) := by decide +kernel
theorem dX1_init_13 : decode cX1_init 13 = .ok (.aload_n 0, 1) := by decide +kernel
theorem dX1_init_14 : decode cX1_init 14 = .ok (.new 17, 3) := by decide +kernel
theorem dX1_init_17 : decode cX1_init 17 = .ok (.dup, 1) := by decide +kernel
theorem dX1_init_18 : decode cX1_init 18 = .ok (.invokespecial 19, 3) := by decide +kernel
theorem dX1_init_21 : decode cX1_init 21 = .ok (.putfield 20, 3) := by decide +kernel
theorem dX1_init_24 : decode cX1_init 24 = .ok (.iconst 0, 1) := by decide +kernel
theorem dX1_init_25 : decode cX1_init 25 = .ok (.istore_n 1, 1) := by decide +kernel
theorem dX1_init_26 : decode cX1_init 26 = .ok (.iload_n 1, 1) := by decide +kernel
theorem dX1_init_27 : decode cX1_init 27 = .ok (.bipush 7, 2) := by decide +kernel
theorem dX1_init_29 : decode cX1_init 29 = .ok (.if_icmp .ge 22, 3) := by decide +kernel
theorem dX1_init_32 : decode cX1_init 32 = .ok (.aload_n 0, 1) := by decide +kernel
theorem dX1_init_33 : decode cX1_init 33 = .ok (.getfield 11, 3) := by decide +kernel
theorem dX1_init_36 : decode cX1_init 36 = .ok (.iload_n 1, 1) := by decide +kernel
theorem dX1_init_37 : decode cX1_init 37 = .ok (.new 9, 3) := by decide +kernel
theorem dX1_init_40 : decode cX1_init 40 = .ok (.dup, 1) := by decide +kernel
theorem dX1_init_41 : decode cX1_init 41 = .ok (.invokespecial 24, 3) := by decide +kernel
theorem dX1_init_44 : decode cX1_init 44 = .ok (.aastore, 1) := by decide +kernel
theorem dX1_init_45 : decode cX1_init 45 = .ok (.iinc 1 1, 3) := by decide +kernel
theorem dX1_init_48 : decode cX1_init 48 = .ok (.goto (-22), 3) := by decide +kernel
theorem dX1_init_51 : decode cX1_init 51 = .ok (.return_, 1) := by decide +kernel
theorem dX1_isRule_0 : decode cX1_isRule 0 = .ok (.iload_n 1, 1) := by decide +kernel
theorem dX1_isRule_1 : decode cX1_isRule 1 = .ok (.ifCond .lt 15, 3) := by decide +kernel
theorem dX1_isRule_4 : decode cX1_isRule 4 = .ok (.iload_n 1, 1) := by decide +kernel
theorem dX1_isRule_5 : decode cX1_isRule 5 = .ok (.aload_n 0, 1) := by decide +kernel
theorem dX1_isRule_6 : decode cX1_isRule 6 = .ok (.getfield 25, 3) := by decide +kernel
theorem dX1_isRule_9 : decode cX1_isRule 9 = .ok (.if_icmp .ge 7, 3) := by decide +kernel
theorem dX1_isRule_12 : decode cX1_isRule 12 = .ok (.iconst 1, 1) := by decide +kernel
theorem dX1_isRule_13 : decode cX1_isRule 13 = .ok (.goto 4, 3) := by decide +kernel
theorem dX1_isRule_16 : decode cX1_isRule 16 = .ok (.iconst 0, 1) := by decide +kernel
theorem dX1_isRule_17 : decode cX1_isRule 17 = .ok (.ireturn, 1) := by decide +kernel
theorem dX1_isPair_0 : decode cX1_isPair 0 = .ok (.iload_n 1, 1) := by decide +kernel
theorem dX1_isPair_1 : decode cX1_isPair 1 = .ok (.ifCond .lt 17, 3) := by decide +kernel
theorem dX1_isPair_4 : decode cX1_isPair 4 = .ok (.iload_n 1, 1) := by decide +kernel
theorem dX1_isPair_5 : decode cX1_isPair 5 = .ok (.aload_n 0, 1) := by decide +kernel
theorem dX1_isPair_6 : decode cX1_isPair 6 = .ok (.getfield 25, 3) := by decide +kernel
theorem dX1_isPair_9 : decode cX1_isPair 9 = .ok (.iconst 1, 1) := by decide +kernel
theorem dX1_isPair_10 : decode cX1_isPair 10 = .ok (.isub, 1) := by decide +kernel
theorem dX1_isPair_11 : decode cX1_isPair 11 = .ok (.if_icmp .ge 7, 3) := by decide +kernel
theorem dX1_isPair_14 : decode cX1_isPair 14 = .ok (.iconst 1, 1) := by decide +kernel
theorem dX1_isPair_15 : decode cX1_isPair 15 = .ok (.goto 4, 3) := by decide +kernel
theorem dX1_isPair_18 : decode cX1_isPair 18 = .ok (.iconst 0, 1) := by decide +kernel
theorem dX1_isPair_19 : decode cX1_isPair 19 = .ok (.ireturn, 1) := by decide +kernel
theorem dX1_becomeLike_0 : decode cX1_becomeLike 0 = .ok (.aload_n 0, 1) := by decide +kernel
theorem dX1_becomeLike_1 : decode cX1_becomeLike 1 = .ok (.aload_n 1, 1) := by decide +kernel
theorem dX1_becomeLike_2 : decode cX1_becomeLike 2 = .ok (.getfield 25, 3) := by decide +kernel
theorem dX1_becomeLike_5 : decode cX1_becomeLike 5 = .ok (.putfield 25, 3) := by decide +kernel
theorem dX1_becomeLike_8 : decode cX1_becomeLike 8 = .ok (.iconst 0, 1) := by decide +kernel
theorem dX1_becomeLike_9 : decode cX1_becomeLike 9 = .ok (.istore_n 2, 1) := by decide +kernel
theorem dX1_becomeLike_10 : decode cX1_becomeLike 10 = .ok (.iload_n 2, 1) := by decide +kernel
theorem dX1_becomeLike_11 : decode cX1_becomeLike 11 = .ok (.aload_n 0, 1) := by decide +kernel
theorem dX1_becomeLike_12 : decode cX1_becomeLike 12 = .ok (.getfield 25, 3) := by decide +kernel
theorem dX1_becomeLike_15 : decode cX1_becomeLike 15 = .ok (.if_icmp .ge 45, 3) := by decide +kernel
theorem dX1_becomeLike_18 : decode cX1_becomeLike 18 = .ok (.aload_n 1, 1) := by decide +kernel
theorem dX1_becomeLike_19 : decode cX1_becomeLike 19 = .ok (.getfield 11, 3) := by decide +kernel
theorem dX1_becomeLike_22 : decode cX1_becomeLike 22 = .ok (.iload_n 2, 1) := by decide +kernel
theorem dX1_becomeLike_23 : decode cX1_becomeLike 23 = .ok (.aaload, 1) := by decide +kernel
theorem dX1_becomeLike_24 : decode cX1_becomeLike 24 = .ok (.astore_n 3, 1) := by decide +kernel
theorem dX1_becomeLike_25 : decode cX1_becomeLike 25 = .ok (.aload_n 0, 1) := by decide +kernel
theorem dX1_becomeLike_26 : decode cX1_becomeLike 26 = .ok (.getfield 11, 3) := by decide +kernel
theorem dX1_becomeLike_29 : decode cX1_becomeLike 29 = .ok (.iload_n 2, 1) := by decide +kernel
theorem dX1_becomeLike_30 : decode cX1_becomeLike 30 = .ok (.aaload, 1) := by decide +kernel
theorem dX1_becomeLike_31 : decode cX1_becomeLike 31 = .ok (.aload_n 3, 1) := by decide +kernel
theorem dX1_becomeLike_32 : decode cX1_becomeLike 32 = .ok (.getfield 29, 3) := by decide +kernel
theorem dX1_becomeLike_35 : decode cX1_becomeLike 35 = .ok (.aload_n 3, 1) := by decide +kernel
theorem dX1_becomeLike_36 : decode cX1_becomeLike 36 = .ok (.getfield 32, 3) := by decide +kernel
theorem dX1_becomeLike_39 : decode cX1_becomeLike 39 = .ok (.aload_n 3, 1) := by decide +kernel
theorem dX1_becomeLike_40 : decode cX1_becomeLike 40 = .ok (.getfield 35, 3) := by decide +kernel
theorem dX1_becomeLike_43 : decode cX1_becomeLike 43 = .ok (.aload_n 3, 1) := by decide +kernel
theorem dX1_becomeLike_44 : decode cX1_becomeLike 44 = .ok (.getfield 38, 3) := by decide +kernel
theorem dX1_becomeLike_47 : decode cX1_becomeLike 47 = .ok (.aload_n 3, 1) := by decide +kernel
theorem dX1_becomeLike_48 : decode cX1_becomeLike 48 = .ok (.getfield 41, 3) := by decide +kernel
theorem dX1_becomeLike_51 : decode cX1_becomeLike 51 = .ok (.invokevirtual 44, 3) := by decide +kernel
theorem dX1_becomeLike_54 : decode cX1_becomeLike 54 = .ok (.iinc 2 1, 3) := by decide +kernel
theorem dX1_becomeLike_57 : decode cX1_becomeLike 57 = .ok (.goto (-47), 3) := by decide +kernel
theorem dX1_becomeLike_60 : decode cX1_becomeLike 60 = .ok (.return_, 1) := by decide +kernel
theorem dX1_openPlace_0 : decode cX1_openPlace 0 = .ok (.iload_n 1, 1) := by decide +kernel
theorem dX1_openPlace_1 : decode cX1_openPlace 1 = .ok (.ifCond .lt 20, 3) := by decide +kernel
theorem dX1_openPlace_4 : decode cX1_openPlace 4 = .ok (.iload_n 1, 1) := by decide +kernel
theorem dX1_openPlace_5 : decode cX1_openPlace 5 = .ok (.aload_n 0, 1) := by decide +kernel
theorem dX1_openPlace_6 : decode cX1_openPlace 6 = .ok (.getfield 25, 3) := by decide +kernel
theorem dX1_openPlace_9 : decode cX1_openPlace 9 = .ok (.if_icmp .gt 12, 3) := by decide +kernel
theorem dX1_openPlace_12 : decode cX1_openPlace 12 = .ok (.aload_n 0, 1) := by decide +kernel
theorem dX1_openPlace_13 : decode cX1_openPlace 13 = .ok (.getfield 25, 3) := by decide +kernel
theorem dX1_openPlace_16 : decode cX1_openPlace 16 = .ok (.bipush 7, 2) := by decide +kernel
theorem dX1_openPlace_18 : decode cX1_openPlace 18 = .ok (.if_icmp .lt 4, 3) := by decide +kernel
theorem dX1_openPlace_21 : decode cX1_openPlace 21 = .ok (.return_, 1) := by decide +kernel
theorem dX1_openPlace_22 : decode cX1_openPlace 22 = .ok (.aload_n 0, 1) := by decide +kernel
theorem dX1_openPlace_23 : decode cX1_openPlace 23 = .ok (.getfield 11, 3) := by decide +kernel
theorem dX1_openPlace_26 : decode cX1_openPlace 26 = .ok (.aload_n 0, 1) := by decide +kernel
theorem dX1_openPlace_27 : decode cX1_openPlace 27 = .ok (.getfield 25, 3) := by decide +kernel
theorem dX1_openPlace_30 : decode cX1_openPlace 30 = .ok (.aaload, 1) := by decide +kernel
theorem dX1_openPlace_31 : decode cX1_openPlace 31 = .ok (.astore_n 2, 1) := by decide +kernel
theorem dX1_openPlace_32 : decode cX1_openPlace 32 = .ok (.aload_n 0, 1) := by decide +kernel
theorem dX1_openPlace_33 : decode cX1_openPlace 33 = .ok (.getfield 25, 3) := by decide +kernel
theorem dX1_openPlace_36 : decode cX1_openPlace 36 = .ok (.istore_n 3, 1) := by decide +kernel
theorem dX1_openPlace_37 : decode cX1_openPlace 37 = .ok (.iload_n 3, 1) := by decide +kernel
theorem dX1_openPlace_38 : decode cX1_openPlace 38 = .ok (.iload_n 1, 1) := by decide +kernel
theorem dX1_openPlace_39 : decode cX1_openPlace 39 = .ok (.if_icmp .le 23, 3) := by decide +kernel
theorem dX1_openPlace_42 : decode cX1_openPlace 42 = .ok (.aload_n 0, 1) := by decide +kernel
theorem dX1_openPlace_43 : decode cX1_openPlace 43 = .ok (.getfield 11, 3) := by decide +kernel
theorem dX1_openPlace_46 : decode cX1_openPlace 46 = .ok (.iload_n 3, 1) := by decide +kernel
theorem dX1_openPlace_47 : decode cX1_openPlace 47 = .ok (.aload_n 0, 1) := by decide +kernel
theorem dX1_openPlace_48 : decode cX1_openPlace 48 = .ok (.getfield 11, 3) := by decide +kernel
theorem dX1_openPlace_51 : decode cX1_openPlace 51 = .ok (.iload_n 3, 1) := by decide +kernel
theorem dX1_openPlace_52 : decode cX1_openPlace 52 = .ok (.iconst 1, 1) := by decide +kernel
theorem dX1_openPlace_53 : decode cX1_openPlace 53 = .ok (.isub, 1) := by decide +kernel
theorem dX1_openPlace_54 : decode cX1_openPlace 54 = .ok (.aaload, 1) := by decide +kernel
theorem dX1_openPlace_55 : decode cX1_openPlace 55 = .ok (.aastore, 1) := by decide +kernel
theorem dX1_openPlace_56 : decode cX1_openPlace 56 = .ok (.iinc 3 (-1), 3) := by decide +kernel
theorem dX1_openPlace_59 : decode cX1_openPlace 59 = .ok (.goto (-22), 3) := by decide +kernel
theorem dX1_openPlace_62 : decode cX1_openPlace 62 = .ok (.aload_n 0, 1) := by decide +kernel
theorem dX1_openPlace_63 : decode cX1_openPlace 63 = .ok (.getfield 11, 3) := by decide +kernel
theorem dX1_openPlace_66 : decode cX1_openPlace 66 = .ok (.iload_n 1, 1) := by decide +kernel
theorem dX1_openPlace_67 : decode cX1_openPlace 67 = .ok (.aload_n 2, 1) := by decide +kernel
theorem dX1_openPlace_68 : decode cX1_openPlace 68 = .ok (.aastore, 1) := by decide +kernel
theorem dX1_openPlace_69 : decode cX1_openPlace 69 = .ok (.aload_n 0, 1) := by decide +kernel
theorem dX1_openPlace_70 : decode cX1_openPlace 70 = .ok (.dup, 1) := by decide +kernel
theorem dX1_openPlace_71 : decode cX1_openPlace 71 = .ok (.getfield 25, 3) := by decide +kernel
theorem dX1_openPlace_74 : decode cX1_openPlace 74 = .ok (.iconst 1, 1) := by decide +kernel
theorem dX1_openPlace_75 : decode cX1_openPlace 75 = .ok (.iadd, 1) := by decide +kernel
theorem dX1_openPlace_76 : decode cX1_openPlace 76 = .ok (.putfield 25, 3) := by decide +kernel
theorem dX1_openPlace_79 : decode cX1_openPlace 79 = .ok (.return_, 1) := by decide +kernel
theorem dX1_takeAway_0 : decode cX1_takeAway 0 = .ok (.aload_n 0, 1) := by decide +kernel
theorem dX1_takeAway_1 : decode cX1_takeAway 1 = .ok (.iload_n 1, 1) := by decide +kernel
theorem dX1_takeAway_2 : decode cX1_takeAway 2 = .ok (.invokevirtual 48, 3) := by decide +kernel
theorem dX1_takeAway_5 : decode cX1_takeAway 5 = .ok (.ifCond .ne 4, 3) := by decide +kernel
theorem dX1_takeAway_8 : decode cX1_takeAway 8 = .ok (.return_, 1) := by decide +kernel
theorem dX1_takeAway_9 : decode cX1_takeAway 9 = .ok (.aload_n 0, 1) := by decide +kernel
theorem dX1_takeAway_10 : decode cX1_takeAway 10 = .ok (.getfield 11, 3) := by decide +kernel
theorem dX1_takeAway_13 : decode cX1_takeAway 13 = .ok (.iload_n 1, 1) := by decide +kernel
theorem dX1_takeAway_14 : decode cX1_takeAway 14 = .ok (.aaload, 1) := by decide +kernel
theorem dX1_takeAway_15 : decode cX1_takeAway 15 = .ok (.astore_n 2, 1) := by decide +kernel
theorem dX1_takeAway_16 : decode cX1_takeAway 16 = .ok (.iload_n 1, 1) := by decide +kernel
theorem dX1_takeAway_17 : decode cX1_takeAway 17 = .ok (.istore_n 3, 1) := by decide +kernel
theorem dX1_takeAway_18 : decode cX1_takeAway 18 = .ok (.iload_n 3, 1) := by decide +kernel
theorem dX1_takeAway_19 : decode cX1_takeAway 19 = .ok (.aload_n 0, 1) := by decide +kernel
theorem dX1_takeAway_20 : decode cX1_takeAway 20 = .ok (.getfield 25, 3) := by decide +kernel
theorem dX1_takeAway_23 : decode cX1_takeAway 23 = .ok (.iconst 1, 1) := by decide +kernel
theorem dX1_takeAway_24 : decode cX1_takeAway 24 = .ok (.isub, 1) := by decide +kernel
theorem dX1_takeAway_25 : decode cX1_takeAway 25 = .ok (.if_icmp .ge 23, 3) := by decide +kernel
theorem dX1_takeAway_28 : decode cX1_takeAway 28 = .ok (.aload_n 0, 1) := by decide +kernel
theorem dX1_takeAway_29 : decode cX1_takeAway 29 = .ok (.getfield 11, 3) := by decide +kernel
theorem dX1_takeAway_32 : decode cX1_takeAway 32 = .ok (.iload_n 3, 1) := by decide +kernel
theorem dX1_takeAway_33 : decode cX1_takeAway 33 = .ok (.aload_n 0, 1) := by decide +kernel
theorem dX1_takeAway_34 : decode cX1_takeAway 34 = .ok (.getfield 11, 3) := by decide +kernel
theorem dX1_takeAway_37 : decode cX1_takeAway 37 = .ok (.iload_n 3, 1) := by decide +kernel
theorem dX1_takeAway_38 : decode cX1_takeAway 38 = .ok (.iconst 1, 1) := by decide +kernel
theorem dX1_takeAway_39 : decode cX1_takeAway 39 = .ok (.iadd, 1) := by decide +kernel
theorem dX1_takeAway_40 : decode cX1_takeAway 40 = .ok (.aaload, 1) := by decide +kernel
theorem dX1_takeAway_41 : decode cX1_takeAway 41 = .ok (.aastore, 1) := by decide +kernel
theorem dX1_takeAway_42 : decode cX1_takeAway 42 = .ok (.iinc 3 1, 3) := by decide +kernel
theorem dX1_takeAway_45 : decode cX1_takeAway 45 = .ok (.goto (-27), 3) := by decide +kernel
theorem dX1_takeAway_48 : decode cX1_takeAway 48 = .ok (.aload_n 0, 1) := by decide +kernel
theorem dX1_takeAway_49 : decode cX1_takeAway 49 = .ok (.dup, 1) := by decide +kernel
theorem dX1_takeAway_50 : decode cX1_takeAway 50 = .ok (.getfield 25, 3) := by decide +kernel
theorem dX1_takeAway_53 : decode cX1_takeAway 53 = .ok (.iconst 1, 1) := by decide +kernel
theorem dX1_takeAway_54 : decode cX1_takeAway 54 = .ok (.isub, 1) := by decide +kernel
theorem dX1_takeAway_55 : decode cX1_takeAway 55 = .ok (.putfield 25, 3) := by decide +kernel
theorem dX1_takeAway_58 : decode cX1_takeAway 58 = .ok (.aload_n 0, 1) := by decide +kernel
theorem dX1_takeAway_59 : decode cX1_takeAway 59 = .ok (.getfield 11, 3) := by decide +kernel
theorem dX1_takeAway_62 : decode cX1_takeAway 62 = .ok (.aload_n 0, 1) := by decide +kernel
theorem dX1_takeAway_63 : decode cX1_takeAway 63 = .ok (.getfield 25, 3) := by decide +kernel
theorem dX1_takeAway_66 : decode cX1_takeAway 66 = .ok (.aload_n 2, 1) := by decide +kernel
theorem dX1_takeAway_67 : decode cX1_takeAway 67 = .ok (.aastore, 1) := by decide +kernel
theorem dX1_takeAway_68 : decode cX1_takeAway 68 = .ok (.return_, 1) := by decide +kernel
theorem dX1_changePlaces_0 : decode cX1_changePlaces 0 = .ok (.aload_n 0, 1) := by decide +kernel
theorem dX1_changePlaces_1 : decode cX1_changePlaces 1 = .ok (.iload_n 1, 1) := by decide +kernel
theorem dX1_changePlaces_2 : decode cX1_changePlaces 2 = .ok (.invokevirtual 52, 3) := by decide +kernel
theorem dX1_changePlaces_5 : decode cX1_changePlaces 5 = .ok (.ifCond .ne 4, 3) := by decide +kernel
theorem dX1_changePlaces_8 : decode cX1_changePlaces 8 = .ok (.return_, 1) := by decide +kernel
theorem dX1_changePlaces_9 : decode cX1_changePlaces 9 = .ok (.aload_n 0, 1) := by decide +kernel
theorem dX1_changePlaces_10 : decode cX1_changePlaces 10 = .ok (.getfield 11, 3) := by decide +kernel
theorem dX1_changePlaces_13 : decode cX1_changePlaces 13 = .ok (.iload_n 1, 1) := by decide +kernel
theorem dX1_changePlaces_14 : decode cX1_changePlaces 14 = .ok (.aaload, 1) := by decide +kernel
theorem dX1_changePlaces_15 : decode cX1_changePlaces 15 = .ok (.astore_n 2, 1) := by decide +kernel
theorem dX1_changePlaces_16 : decode cX1_changePlaces 16 = .ok (.aload_n 0, 1) := by decide +kernel
theorem dX1_changePlaces_17 : decode cX1_changePlaces 17 = .ok (.getfield 11, 3) := by decide +kernel
theorem dX1_changePlaces_20 : decode cX1_changePlaces 20 = .ok (.iload_n 1, 1) := by decide +kernel
theorem dX1_changePlaces_21 : decode cX1_changePlaces 21 = .ok (.aload_n 0, 1) := by decide +kernel
theorem dX1_changePlaces_22 : decode cX1_changePlaces 22 = .ok (.getfield 11, 3) := by decide +kernel
theorem dX1_changePlaces_25 : decode cX1_changePlaces 25 = .ok (.iload_n 1, 1) := by decide +kernel
theorem dX1_changePlaces_26 : decode cX1_changePlaces 26 = .ok (.iconst 1, 1) := by decide +kernel
theorem dX1_changePlaces_27 : decode cX1_changePlaces 27 = .ok (.iadd, 1) := by decide +kernel
theorem dX1_changePlaces_28 : decode cX1_changePlaces 28 = .ok (.aaload, 1) := by decide +kernel
theorem dX1_changePlaces_29 : decode cX1_changePlaces 29 = .ok (.aastore, 1) := by decide +kernel
theorem dX1_changePlaces_30 : decode cX1_changePlaces 30 = .ok (.aload_n 0, 1) := by decide +kernel
theorem dX1_changePlaces_31 : decode cX1_changePlaces 31 = .ok (.getfield 11, 3) := by decide +kernel
theorem dX1_changePlaces_34 : decode cX1_changePlaces 34 = .ok (.iload_n 1, 1) := by decide +kernel
theorem dX1_changePlaces_35 : decode cX1_changePlaces 35 = .ok (.iconst 1, 1) := by decide +kernel
theorem dX1_changePlaces_36 : decode cX1_changePlaces 36 = .ok (.iadd, 1) := by decide +kernel
theorem dX1_changePlaces_37 : decode cX1_changePlaces 37 = .ok (.aload_n 2, 1) := by decide +kernel
theorem dX1_changePlaces_38 : decode cX1_changePlaces 38 = .ok (.aastore, 1) := by decide +kernel
theorem dX1_changePlaces_39 : decode cX1_changePlaces 39 = .ok (.return_, 1) := by decide +kernel
theorem dX1_winnerOf_0 : decode cX1_winnerOf 0 = .ok (.iconst 0, 1) := by decide +kernel
theorem dX1_winnerOf_1 : decode cX1_winnerOf 1 = .ok (.istore_n 2, 1) := by decide +kernel
theorem dX1_winnerOf_2 : decode cX1_winnerOf 2 = .ok (.iload_n 2, 1) := by decide +kernel
theorem dX1_winnerOf_3 : decode cX1_winnerOf 3 = .ok (.aload_n 0, 1) := by decide +kernel
theorem dX1_winnerOf_4 : decode cX1_winnerOf 4 = .ok (.getfield 25, 3) := by decide +kernel
theorem dX1_winnerOf_7 : decode cX1_winnerOf 7 = .ok (.if_icmp .ge 24, 3) := by decide +kernel
theorem dX1_winnerOf_10 : decode cX1_winnerOf 10 = .ok (.aload_n 0, 1) := by decide +kernel
theorem dX1_winnerOf_11 : decode cX1_winnerOf 11 = .ok (.getfield 11, 3) := by decide +kernel
theorem dX1_winnerOf_14 : decode cX1_winnerOf 14 = .ok (.iload_n 2, 1) := by decide +kernel
theorem dX1_winnerOf_15 : decode cX1_winnerOf 15 = .ok (.aaload, 1) := by decide +kernel
theorem dX1_winnerOf_16 : decode cX1_winnerOf 16 = .ok (.iload_n 1, 1) := by decide +kernel
theorem dX1_winnerOf_17 : decode cX1_winnerOf 17 = .ok (.invokevirtual 55, 3) := by decide +kernel
theorem dX1_winnerOf_20 : decode cX1_winnerOf 20 = .ok (.ifCond .eq 5, 3) := by decide +kernel
theorem dX1_winnerOf_23 : decode cX1_winnerOf 23 = .ok (.iload_n 2, 1) := by decide +kernel
theorem dX1_winnerOf_24 : decode cX1_winnerOf 24 = .ok (.ireturn, 1) := by decide +kernel
theorem dX1_winnerOf_25 : decode cX1_winnerOf 25 = .ok (.iinc 2 1, 3) := by decide +kernel
theorem dX1_winnerOf_28 : decode cX1_winnerOf 28 = .ok (.goto (-26), 3) := by decide +kernel
theorem dX1_winnerOf_31 : decode cX1_winnerOf 31 = .ok (.bipush (-9), 2) := by decide +kernel
theorem dX1_winnerOf_33 : decode cX1_winnerOf 33 = .ok (.ireturn, 1) := by decide +kernel
theorem dX1_pointsWonBy_0 : decode cX1_pointsWonBy 0 = .ok (.iconst 0, 1) := by decide +kernel
theorem dX1_pointsWonBy_1 : decode cX1_pointsWonBy 1 = .ok (.istore_n 2, 1) := by decide +kernel
theorem dX1_pointsWonBy_2 : decode cX1_pointsWonBy 2 = .ok (.iconst 0, 1) := by decide +kernel
theorem dX1_pointsWonBy_3 : decode cX1_pointsWonBy 3 = .ok (.istore_n 3, 1) := by decide +kernel
theorem dX1_pointsWonBy_4 : decode cX1_pointsWonBy 4 = .ok (.iload_n 3, 1) := by decide +kernel
theorem dX1_pointsWonBy_5 : decode cX1_pointsWonBy 5 = .ok (.bipush 26, 2) := by decide +kernel
theorem dX1_pointsWonBy_7 : decode cX1_pointsWonBy 7 = .ok (.if_icmp .ge 21, 3) := by decide +kernel
theorem dX1_pointsWonBy_10 : decode cX1_pointsWonBy 10 = .ok (.aload_n 0, 1) := by decide +kernel
theorem dX1_pointsWonBy_11 : decode cX1_pointsWonBy 11 = .ok (.iload_n 3, 1) := by decide +kernel
theorem dX1_pointsWonBy_12 : decode cX1_pointsWonBy 12 = .ok (.invokevirtual 58, 3) := by decide +kernel
theorem dX1_pointsWonBy_15 : decode cX1_pointsWonBy 15 = .ok (.iload_n 1, 1) := by decide +kernel
theorem dX1_pointsWonBy_16 : decode cX1_pointsWonBy 16 = .ok (.if_icmp .ne 6, 3) := by decide +kernel
theorem dX1_pointsWonBy_19 : decode cX1_pointsWonBy 19 = .ok (.iinc 2 1, 3) := by decide +kernel
theorem dX1_pointsWonBy_22 : decode cX1_pointsWonBy 22 = .ok (.iinc 3 1, 3) := by decide +kernel
theorem dX1_pointsWonBy_25 : decode cX1_pointsWonBy 25 = .ok (.goto (-21), 3) := by decide +kernel
theorem dX1_pointsWonBy_28 : decode cX1_pointsWonBy 28 = .ok (.iload_n 2, 1) := by decide +kernel
theorem dX1_pointsWonBy_29 : decode cX1_pointsWonBy 29 = .ok (.ireturn, 1) := by decide +kernel
theorem dX1_worthOf_0 : decode cX1_worthOf 0 = .ok (.aload_n 0, 1) := by decide +kernel
theorem dX1_worthOf_1 : decode cX1_worthOf 1 = .ok (.getfield 20, 3) := by decide +kernel
theorem dX1_worthOf_4 : decode cX1_worthOf 4 = .ok (.aload_n 0, 1) := by decide +kernel
theorem dX1_worthOf_5 : decode cX1_worthOf 5 = .ok (.iload_n 1, 1) := by decide +kernel
theorem dX1_worthOf_6 : decode cX1_worthOf 6 = .ok (.iload_n 2, 1) := by decide +kernel
theorem dX1_worthOf_7 : decode cX1_worthOf 7 = .ok (.invokevirtual 62, 3) := by decide +kernel
theorem dX1_worthOf_10 : decode cX1_worthOf 10 = .ok (.aload_n 0, 1) := by decide +kernel
theorem dX1_worthOf_11 : decode cX1_worthOf 11 = .ok (.getfield 20, 3) := by decide +kernel
theorem dX1_worthOf_14 : decode cX1_worthOf 14 = .ok (.getfield 66, 3) := by decide +kernel
theorem dX1_worthOf_17 : decode cX1_worthOf 17 = .ok (.ireturn, 1) := by decide +kernel
theorem dX1_countDenied_0 : decode cX1_countDenied 0 = .ok (.bipush 26, 2) := by decide +kernel
theorem dX1_countDenied_2 : decode cX1_countDenied 2 = .ok (.aload_n 0, 1) := by decide +kernel
theorem dX1_countDenied_3 : decode cX1_countDenied 3 = .ok (.iconst 0, 1) := by decide +kernel
theorem dX1_countDenied_4 : decode cX1_countDenied 4 = .ok (.invokevirtual 69, 3) := by decide +kernel
theorem dX1_countDenied_7 : decode cX1_countDenied 7 = .ok (.isub, 1) := by decide +kernel
theorem dX1_countDenied_8 : decode cX1_countDenied 8 = .ok (.ireturn, 1) := by decide +kernel
theorem dX1_countWorth_0 : decode cX1_countWorth 0 = .ok (.iconst 0, 1) := by decide +kernel
theorem dX1_countWorth_1 : decode cX1_countWorth 1 = .ok (.istore_n 2, 1) := by decide +kernel
theorem dX1_countWorth_2 : decode cX1_countWorth 2 = .ok (.iconst 0, 1) := by decide +kernel
theorem dX1_countWorth_3 : decode cX1_countWorth 3 = .ok (.istore_n 3, 1) := by decide +kernel
theorem dX1_countWorth_4 : decode cX1_countWorth 4 = .ok (.iload_n 3, 1) := by decide +kernel
theorem dX1_countWorth_5 : decode cX1_countWorth 5 = .ok (.bipush 26, 2) := by decide +kernel
theorem dX1_countWorth_7 : decode cX1_countWorth 7 = .ok (.if_icmp .ge 33, 3) := by decide +kernel
theorem dX1_countWorth_10 : decode cX1_countWorth 10 = .ok (.aload_n 0, 1) := by decide +kernel
theorem dX1_countWorth_11 : decode cX1_countWorth 11 = .ok (.iload_n 3, 1) := by decide +kernel
theorem dX1_countWorth_12 : decode cX1_countWorth 12 = .ok (.iconst (-1), 1) := by decide +kernel
theorem dX1_countWorth_13 : decode cX1_countWorth 13 = .ok (.invokevirtual 72, 3) := by decide +kernel
theorem dX1_countWorth_16 : decode cX1_countWorth 16 = .ok (.istore 4, 2) := by decide +kernel
theorem dX1_countWorth_18 : decode cX1_countWorth 18 = .ok (.iload 4, 2) := by decide +kernel
theorem dX1_countWorth_20 : decode cX1_countWorth 20 = .ok (.bipush (-9), 2) := by decide +kernel
theorem dX1_countWorth_22 : decode cX1_countWorth 22 = .ok (.if_icmp .eq 12, 3) := by decide +kernel
theorem dX1_countWorth_25 : decode cX1_countWorth 25 = .ok (.iload 4, 2) := by decide +kernel
theorem dX1_countWorth_27 : decode cX1_countWorth 27 = .ok (.iload_n 1, 1) := by decide +kernel
theorem dX1_countWorth_28 : decode cX1_countWorth 28 = .ok (.if_icmp .lt 6, 3) := by decide +kernel
theorem dX1_countWorth_31 : decode cX1_countWorth 31 = .ok (.iinc 2 1, 3) := by decide +kernel
theorem dX1_countWorth_34 : decode cX1_countWorth 34 = .ok (.iinc 3 1, 3) := by decide +kernel
theorem dX1_countWorth_37 : decode cX1_countWorth 37 = .ok (.goto (-33), 3) := by decide +kernel
theorem dX1_countWorth_40 : decode cX1_countWorth 40 = .ok (.iload_n 2, 1) := by decide +kernel
theorem dX1_countWorth_41 : decode cX1_countWorth 41 = .ok (.ireturn, 1) := by decide +kernel
theorem dX1_worthTogether_0 : decode cX1_worthTogether 0 = .ok (.iconst 0, 1) := by decide +kernel
theorem dX1_worthTogether_1 : decode cX1_worthTogether 1 = .ok (.istore_n 1, 1) := by decide +kernel
theorem dX1_worthTogether_2 : decode cX1_worthTogether 2 = .ok (.iconst 0, 1) := by decide +kernel
theorem dX1_worthTogether_3 : decode cX1_worthTogether 3 = .ok (.istore_n 2, 1) := by decide +kernel
theorem dX1_worthTogether_4 : decode cX1_worthTogether 4 = .ok (.iload_n 2, 1) := by decide +kernel
theorem dX1_worthTogether_5 : decode cX1_worthTogether 5 = .ok (.bipush 26, 2) := by decide +kernel
theorem dX1_worthTogether_7 : decode cX1_worthTogether 7 = .ok (.if_icmp .ge 26, 3) := by decide +kernel
theorem dX1_worthTogether_10 : decode cX1_worthTogether 10 = .ok (.aload_n 0, 1) := by decide +kernel
theorem dX1_worthTogether_11 : decode cX1_worthTogether 11 = .ok (.iload_n 2, 1) := by decide +kernel
theorem dX1_worthTogether_12 : decode cX1_worthTogether 12 = .ok (.iconst (-1), 1) := by decide +kernel
theorem dX1_worthTogether_13 : decode cX1_worthTogether 13 = .ok (.invokevirtual 72, 3) := by decide +kernel
theorem dX1_worthTogether_16 : decode cX1_worthTogether 16 = .ok (.istore_n 3, 1) := by decide +kernel
theorem dX1_worthTogether_17 : decode cX1_worthTogether 17 = .ok (.iload_n 3, 1) := by decide +kernel
theorem dX1_worthTogether_18 : decode cX1_worthTogether 18 = .ok (.bipush (-9), 2) := by decide +kernel
theorem dX1_worthTogether_20 : decode cX1_worthTogether 20 = .ok (.if_icmp .eq 7, 3) := by decide +kernel
theorem dX1_worthTogether_23 : decode cX1_worthTogether 23 = .ok (.iload_n 1, 1) := by decide +kernel
theorem dX1_worthTogether_24 : decode cX1_worthTogether 24 = .ok (.iload_n 3, 1) := by decide +kernel
theorem dX1_worthTogether_25 : decode cX1_worthTogether 25 = .ok (.iadd, 1) := by decide +kernel
theorem dX1_worthTogether_26 : decode cX1_worthTogether 26 = .ok (.istore_n 1, 1) := by decide +kernel
theorem dX1_worthTogether_27 : decode cX1_worthTogether 27 = .ok (.iinc 2 1, 3) := by decide +kernel
theorem dX1_worthTogether_30 : decode cX1_worthTogether 30 = .ok (.goto (-26), 3) := by decide +kernel
theorem dX1_worthTogether_33 : decode cX1_worthTogether 33 = .ok (.iload_n 1, 1) := by decide +kernel
theorem dX1_worthTogether_34 : decode cX1_worthTogether 34 = .ok (.ireturn, 1) := by decide +kernel
theorem dX1_beginsRun_0 : decode cX1_beginsRun 0 = .ok (.iload_n 1, 1) := by decide +kernel
theorem dX1_beginsRun_1 : decode cX1_beginsRun 1 = .ok (.ifCond .eq 18, 3) := by decide +kernel
theorem dX1_beginsRun_4 : decode cX1_beginsRun 4 = .ok (.aload_n 0, 1) := by decide +kernel
theorem dX1_beginsRun_5 : decode cX1_beginsRun 5 = .ok (.iload_n 1, 1) := by decide +kernel
theorem dX1_beginsRun_6 : decode cX1_beginsRun 6 = .ok (.invokevirtual 58, 3) := by decide +kernel
theorem dX1_beginsRun_9 : decode cX1_beginsRun 9 = .ok (.aload_n 0, 1) := by decide +kernel
theorem dX1_beginsRun_10 : decode cX1_beginsRun 10 = .ok (.iload_n 1, 1) := by decide +kernel
theorem dX1_beginsRun_11 : decode cX1_beginsRun 11 = .ok (.iconst 1, 1) := by decide +kernel
theorem dX1_beginsRun_12 : decode cX1_beginsRun 12 = .ok (.isub, 1) := by decide +kernel
theorem dX1_beginsRun_13 : decode cX1_beginsRun 13 = .ok (.invokevirtual 58, 3) := by decide +kernel
theorem dX1_beginsRun_16 : decode cX1_beginsRun 16 = .ok (.if_icmp .eq 7, 3) := by decide +kernel
theorem dX1_beginsRun_19 : decode cX1_beginsRun 19 = .ok (.iconst 1, 1) := by decide +kernel
theorem dX1_beginsRun_20 : decode cX1_beginsRun 20 = .ok (.goto 4, 3) := by decide +kernel
theorem dX1_beginsRun_23 : decode cX1_beginsRun 23 = .ok (.iconst 0, 1) := by decide +kernel
theorem dX1_beginsRun_24 : decode cX1_beginsRun 24 = .ok (.ireturn, 1) := by decide +kernel
theorem dX1_countRuns_0 : decode cX1_countRuns 0 = .ok (.iconst 0, 1) := by decide +kernel
theorem dX1_countRuns_1 : decode cX1_countRuns 1 = .ok (.istore_n 1, 1) := by decide +kernel
theorem dX1_countRuns_2 : decode cX1_countRuns 2 = .ok (.iconst 0, 1) := by decide +kernel
theorem dX1_countRuns_3 : decode cX1_countRuns 3 = .ok (.istore_n 2, 1) := by decide +kernel
theorem dX1_countRuns_4 : decode cX1_countRuns 4 = .ok (.iload_n 2, 1) := by decide +kernel
theorem dX1_countRuns_5 : decode cX1_countRuns 5 = .ok (.bipush 26, 2) := by decide +kernel
theorem dX1_countRuns_7 : decode cX1_countRuns 7 = .ok (.if_icmp .ge 20, 3) := by decide +kernel
theorem dX1_countRuns_10 : decode cX1_countRuns 10 = .ok (.aload_n 0, 1) := by decide +kernel
theorem dX1_countRuns_11 : decode cX1_countRuns 11 = .ok (.iload_n 2, 1) := by decide +kernel
theorem dX1_countRuns_12 : decode cX1_countRuns 12 = .ok (.invokevirtual 76, 3) := by decide +kernel
theorem dX1_countRuns_15 : decode cX1_countRuns 15 = .ok (.ifCond .eq 6, 3) := by decide +kernel
theorem dX1_countRuns_18 : decode cX1_countRuns 18 = .ok (.iinc 1 1, 3) := by decide +kernel
theorem dX1_countRuns_21 : decode cX1_countRuns 21 = .ok (.iinc 2 1, 3) := by decide +kernel
theorem dX1_countRuns_24 : decode cX1_countRuns 24 = .ok (.goto (-20), 3) := by decide +kernel
theorem dX1_countRuns_27 : decode cX1_countRuns 27 = .ok (.iload_n 1, 1) := by decide +kernel
theorem dX1_countRuns_28 : decode cX1_countRuns 28 = .ok (.ireturn, 1) := by decide +kernel
theorem dX1_firstOfRun_0 : decode cX1_firstOfRun 0 = .ok (.iconst (-1), 1) := by decide +kernel
theorem dX1_firstOfRun_1 : decode cX1_firstOfRun 1 = .ok (.istore_n 2, 1) := by decide +kernel
theorem dX1_firstOfRun_2 : decode cX1_firstOfRun 2 = .ok (.iconst 0, 1) := by decide +kernel
theorem dX1_firstOfRun_3 : decode cX1_firstOfRun 3 = .ok (.istore_n 3, 1) := by decide +kernel
theorem dX1_firstOfRun_4 : decode cX1_firstOfRun 4 = .ok (.iload_n 3, 1) := by decide +kernel
theorem dX1_firstOfRun_5 : decode cX1_firstOfRun 5 = .ok (.bipush 26, 2) := by decide +kernel
theorem dX1_firstOfRun_7 : decode cX1_firstOfRun 7 = .ok (.if_icmp .ge 27, 3) := by decide +kernel
theorem dX1_firstOfRun_10 : decode cX1_firstOfRun 10 = .ok (.aload_n 0, 1) := by decide +kernel
theorem dX1_firstOfRun_11 : decode cX1_firstOfRun 11 = .ok (.iload_n 3, 1) := by decide +kernel
theorem dX1_firstOfRun_12 : decode cX1_firstOfRun 12 = .ok (.invokevirtual 76, 3) := by decide +kernel
theorem dX1_firstOfRun_15 : decode cX1_firstOfRun 15 = .ok (.ifCond .eq 6, 3) := by decide +kernel
theorem dX1_firstOfRun_18 : decode cX1_firstOfRun 18 = .ok (.iinc 2 1, 3) := by decide +kernel
theorem dX1_firstOfRun_21 : decode cX1_firstOfRun 21 = .ok (.iload_n 2, 1) := by decide +kernel
theorem dX1_firstOfRun_22 : decode cX1_firstOfRun 22 = .ok (.iload_n 1, 1) := by decide +kernel
theorem dX1_firstOfRun_23 : decode cX1_firstOfRun 23 = .ok (.if_icmp .ne 5, 3) := by decide +kernel
theorem dX1_firstOfRun_26 : decode cX1_firstOfRun 26 = .ok (.iload_n 3, 1) := by decide +kernel
theorem dX1_firstOfRun_27 : decode cX1_firstOfRun 27 = .ok (.ireturn, 1) := by decide +kernel
theorem dX1_firstOfRun_28 : decode cX1_firstOfRun 28 = .ok (.iinc 3 1, 3) := by decide +kernel
theorem dX1_firstOfRun_31 : decode cX1_firstOfRun 31 = .ok (.goto (-27), 3) := by decide +kernel
theorem dX1_firstOfRun_34 : decode cX1_firstOfRun 34 = .ok (.bipush 26, 2) := by decide +kernel
theorem dX1_firstOfRun_36 : decode cX1_firstOfRun 36 = .ok (.ireturn, 1) := by decide +kernel
theorem dX1_shadowed_0 : decode cX1_shadowed 0 = .ok (.iconst 0, 1) := by decide +kernel
theorem dX1_shadowed_1 : decode cX1_shadowed 1 = .ok (.istore_n 1, 1) := by decide +kernel
theorem dX1_shadowed_2 : decode cX1_shadowed 2 = .ok (.iconst 0, 1) := by decide +kernel
theorem dX1_shadowed_3 : decode cX1_shadowed 3 = .ok (.istore_n 2, 1) := by decide +kernel
theorem dX1_shadowed_4 : decode cX1_shadowed 4 = .ok (.iload_n 2, 1) := by decide +kernel
theorem dX1_shadowed_5 : decode cX1_shadowed 5 = .ok (.aload_n 0, 1) := by decide +kernel
theorem dX1_shadowed_6 : decode cX1_shadowed 6 = .ok (.getfield 25, 3) := by decide +kernel
theorem dX1_shadowed_9 : decode cX1_shadowed 9 = .ok (.if_icmp .ge 23, 3) := by decide +kernel
theorem dX1_shadowed_12 : decode cX1_shadowed 12 = .ok (.aload_n 0, 1) := by decide +kernel
theorem dX1_shadowed_13 : decode cX1_shadowed 13 = .ok (.iload_n 2, 1) := by decide +kernel
theorem dX1_shadowed_14 : decode cX1_shadowed 14 = .ok (.invokevirtual 79, 3) := by decide +kernel
theorem dX1_shadowed_17 : decode cX1_shadowed 17 = .ok (.ifCond .ne 9, 3) := by decide +kernel
theorem dX1_shadowed_20 : decode cX1_shadowed 20 = .ok (.iload_n 1, 1) := by decide +kernel
theorem dX1_shadowed_21 : decode cX1_shadowed 21 = .ok (.iconst 1, 1) := by decide +kernel
theorem dX1_shadowed_22 : decode cX1_shadowed 22 = .ok (.iload_n 2, 1) := by decide +kernel
theorem dX1_shadowed_23 : decode cX1_shadowed 23 = .ok (.ishl, 1) := by decide +kernel
theorem dX1_shadowed_24 : decode cX1_shadowed 24 = .ok (.ior, 1) := by decide +kernel
theorem dX1_shadowed_25 : decode cX1_shadowed 25 = .ok (.istore_n 1, 1) := by decide +kernel
theorem dX1_shadowed_26 : decode cX1_shadowed 26 = .ok (.iinc 2 1, 3) := by decide +kernel
theorem dX1_shadowed_29 : decode cX1_shadowed 29 = .ok (.goto (-25), 3) := by decide +kernel
theorem dX1_shadowed_32 : decode cX1_shadowed 32 = .ok (.iload_n 1, 1) := by decide +kernel
theorem dX1_shadowed_33 : decode cX1_shadowed 33 = .ok (.ireturn, 1) := by decide +kernel
theorem dX1_needed_0 : decode cX1_needed 0 = .ok (.iconst 0, 1) := by decide +kernel
theorem dX1_needed_1 : decode cX1_needed 1 = .ok (.istore_n 1, 1) := by decide +kernel
theorem dX1_needed_2 : decode cX1_needed 2 = .ok (.iconst 0, 1) := by decide +kernel
theorem dX1_needed_3 : decode cX1_needed 3 = .ok (.istore_n 2, 1) := by decide +kernel
theorem dX1_needed_4 : decode cX1_needed 4 = .ok (.iload_n 2, 1) := by decide +kernel
theorem dX1_needed_5 : decode cX1_needed 5 = .ok (.aload_n 0, 1) := by decide +kernel
theorem dX1_needed_6 : decode cX1_needed 6 = .ok (.getfield 25, 3) := by decide +kernel
theorem dX1_needed_9 : decode cX1_needed 9 = .ok (.if_icmp .ge 23, 3) := by decide +kernel
theorem dX1_needed_12 : decode cX1_needed 12 = .ok (.aload_n 0, 1) := by decide +kernel
theorem dX1_needed_13 : decode cX1_needed 13 = .ok (.iload_n 2, 1) := by decide +kernel
theorem dX1_needed_14 : decode cX1_needed 14 = .ok (.invokevirtual 82, 3) := by decide +kernel
theorem dX1_needed_17 : decode cX1_needed 17 = .ok (.ifCond .eq 9, 3) := by decide +kernel
theorem dX1_needed_20 : decode cX1_needed 20 = .ok (.iload_n 1, 1) := by decide +kernel
theorem dX1_needed_21 : decode cX1_needed 21 = .ok (.iconst 1, 1) := by decide +kernel
theorem dX1_needed_22 : decode cX1_needed 22 = .ok (.iload_n 2, 1) := by decide +kernel
theorem dX1_needed_23 : decode cX1_needed 23 = .ok (.ishl, 1) := by decide +kernel
theorem dX1_needed_24 : decode cX1_needed 24 = .ok (.ior, 1) := by decide +kernel
theorem dX1_needed_25 : decode cX1_needed 25 = .ok (.istore_n 1, 1) := by decide +kernel
theorem dX1_needed_26 : decode cX1_needed 26 = .ok (.iinc 2 1, 3) := by decide +kernel
theorem dX1_needed_29 : decode cX1_needed 29 = .ok (.goto (-25), 3) := by decide +kernel
theorem dX1_needed_32 : decode cX1_needed 32 = .ok (.iload_n 1, 1) := by decide +kernel
theorem dX1_needed_33 : decode cX1_needed 33 = .ok (.ireturn, 1) := by decide +kernel
theorem dX1_isNeeded_0 : decode cX1_isNeeded 0 = .ok (.iconst 0, 1) := by decide +kernel
theorem dX1_isNeeded_1 : decode cX1_isNeeded 1 = .ok (.istore_n 2, 1) := by decide +kernel
theorem dX1_isNeeded_2 : decode cX1_isNeeded 2 = .ok (.iload_n 2, 1) := by decide +kernel
theorem dX1_isNeeded_3 : decode cX1_isNeeded 3 = .ok (.bipush 26, 2) := by decide +kernel
theorem dX1_isNeeded_5 : decode cX1_isNeeded 5 = .ok (.if_icmp .ge 26, 3) := by decide +kernel
theorem dX1_isNeeded_8 : decode cX1_isNeeded 8 = .ok (.aload_n 0, 1) := by decide +kernel
theorem dX1_isNeeded_9 : decode cX1_isNeeded 9 = .ok (.iload_n 2, 1) := by decide +kernel
theorem dX1_isNeeded_10 : decode cX1_isNeeded 10 = .ok (.iconst (-1), 1) := by decide +kernel
theorem dX1_isNeeded_11 : decode cX1_isNeeded 11 = .ok (.invokevirtual 72, 3) := by decide +kernel
theorem dX1_isNeeded_14 : decode cX1_isNeeded 14 = .ok (.aload_n 0, 1) := by decide +kernel
theorem dX1_isNeeded_15 : decode cX1_isNeeded 15 = .ok (.iload_n 2, 1) := by decide +kernel
theorem dX1_isNeeded_16 : decode cX1_isNeeded 16 = .ok (.iload_n 1, 1) := by decide +kernel
theorem dX1_isNeeded_17 : decode cX1_isNeeded 17 = .ok (.invokevirtual 72, 3) := by decide +kernel
theorem dX1_isNeeded_20 : decode cX1_isNeeded 20 = .ok (.if_icmp .eq 5, 3) := by decide +kernel
theorem dX1_isNeeded_23 : decode cX1_isNeeded 23 = .ok (.iconst 1, 1) := by decide +kernel
theorem dX1_isNeeded_24 : decode cX1_isNeeded 24 = .ok (.ireturn, 1) := by decide +kernel
theorem dX1_isNeeded_25 : decode cX1_isNeeded 25 = .ok (.iinc 2 1, 3) := by decide +kernel
theorem dX1_isNeeded_28 : decode cX1_isNeeded 28 = .ok (.goto (-26), 3) := by decide +kernel
theorem dX1_isNeeded_31 : decode cX1_isNeeded 31 = .ok (.iconst 0, 1) := by decide +kernel
theorem dX1_isNeeded_32 : decode cX1_isNeeded 32 = .ok (.ireturn, 1) := by decide +kernel
theorem dX2_init_0 : decode cX2_init 0 = .ok (.aload_n 0, 1) := by decide +kernel
theorem dX2_init_1 : decode cX2_init 1 = .ok (.invokespecial 3, 3) := by decide +kernel
theorem dX2_init_4 : decode cX2_init 4 = .ok (.aload_n 0, 1) := by decide +kernel
theorem dX2_init_5 : decode cX2_init 5 = .ok (.bipush 60, 2) := by decide +kernel
theorem dX2_init_7 : decode cX2_init 7 = .ok (.newarray .int, 2) := by decide +kernel
theorem dX2_init_9 : decode cX2_init 9 = .ok (.putfield 9, 3) := by decide +kernel
theorem dX2_init_12 : decode cX2_init 12 = .ok (.aload_n 0, 1) := by decide +kernel
theorem dX2_init_13 : decode cX2_init 13 = .ok (.iconst (-1), 1) := by decide +kernel
theorem dX2_init_14 : decode cX2_init 14 = .ok (.putfield 15, 3) := by decide +kernel
theorem dX2_init_17 : decode cX2_init 17 = .ok (.return_, 1) := by decide +kernel
theorem dX2_isNothing_0 : decode cX2_isNothing 0 = .ok (.aload_n 0, 1) := by decide +kernel
theorem dX2_isNothing_1 : decode cX2_isNothing 1 = .ok (.getfield 15, 3) := by decide +kernel
theorem dX2_isNothing_4 : decode cX2_isNothing 4 = .ok (.iconst (-1), 1) := by decide +kernel
theorem dX2_isNothing_5 : decode cX2_isNothing 5 = .ok (.if_icmp .ne 7, 3) := by decide +kernel
theorem dX2_isNothing_8 : decode cX2_isNothing 8 = .ok (.iconst 1, 1) := by decide +kernel
theorem dX2_isNothing_9 : decode cX2_isNothing 9 = .ok (.goto 4, 3) := by decide +kernel
theorem dX2_isNothing_12 : decode cX2_isNothing 12 = .ok (.iconst 0, 1) := by decide +kernel
theorem dX2_isNothing_13 : decode cX2_isNothing 13 = .ok (.ireturn, 1) := by decide +kernel
theorem dX2_becomeNothing_0 : decode cX2_becomeNothing 0 = .ok (.aload_n 0, 1) := by decide +kernel
theorem dX2_becomeNothing_1 : decode cX2_becomeNothing 1 = .ok (.iconst (-1), 1) := by decide +kernel
theorem dX2_becomeNothing_2 : decode cX2_becomeNothing 2 = .ok (.putfield 15, 3) := by decide +kernel
theorem dX2_becomeNothing_5 : decode cX2_becomeNothing 5 = .ok (.aload_n 0, 1) := by decide +kernel
theorem dX2_becomeNothing_6 : decode cX2_becomeNothing 6 = .ok (.iconst 0, 1) := by decide +kernel
theorem dX2_becomeNothing_7 : decode cX2_becomeNothing 7 = .ok (.putfield 19, 3) := by decide +kernel
theorem dX2_becomeNothing_10 : decode cX2_becomeNothing 10 = .ok (.return_, 1) := by decide +kernel
theorem dX2_becomeNew_0 : decode cX2_becomeNew 0 = .ok (.aload_n 0, 1) := by decide +kernel
theorem dX2_becomeNew_1 : decode cX2_becomeNew 1 = .ok (.iload_n 1, 1) := by decide +kernel
theorem dX2_becomeNew_2 : decode cX2_becomeNew 2 = .ok (.putfield 15, 3) := by decide +kernel
theorem dX2_becomeNew_5 : decode cX2_becomeNew 5 = .ok (.aload_n 0, 1) := by decide +kernel
theorem dX2_becomeNew_6 : decode cX2_becomeNew 6 = .ok (.iconst 0, 1) := by decide +kernel
theorem dX2_becomeNew_7 : decode cX2_becomeNew 7 = .ok (.iload_n 2, 1) := by decide +kernel
theorem dX2_becomeNew_8 : decode cX2_becomeNew 8 = .ok (.bipush 60, 2) := by decide +kernel
theorem dX2_becomeNew_10 : decode cX2_becomeNew 10 = .ok (.invokestatic 22, 3) := by decide +kernel
theorem dX2_becomeNew_13 : decode cX2_becomeNew 13 = .ok (.invokestatic 28, 3) := by decide +kernel
theorem dX2_becomeNew_16 : decode cX2_becomeNew 16 = .ok (.putfield 19, 3) := by decide +kernel
theorem dX2_becomeNew_19 : decode cX2_becomeNew 19 = .ok (.iconst 0, 1) := by decide +kernel
theorem dX2_becomeNew_20 : decode cX2_becomeNew 20 = .ok (.istore_n 3, 1) := by decide +kernel
theorem dX2_becomeNew_21 : decode cX2_becomeNew 21 = .ok (.iload_n 3, 1) := by decide +kernel
theorem dX2_becomeNew_22 : decode cX2_becomeNew 22 = .ok (.aload_n 0, 1) := by decide +kernel
theorem dX2_becomeNew_23 : decode cX2_becomeNew 23 = .ok (.getfield 19, 3) := by decide +kernel
theorem dX2_becomeNew_26 : decode cX2_becomeNew 26 = .ok (.if_icmp .ge 16, 3) := by decide +kernel
theorem dX2_becomeNew_29 : decode cX2_becomeNew 29 = .ok (.aload_n 0, 1) := by decide +kernel
theorem dX2_becomeNew_30 : decode cX2_becomeNew 30 = .ok (.getfield 9, 3) := by decide +kernel
theorem dX2_becomeNew_33 : decode cX2_becomeNew 33 = .ok (.iload_n 3, 1) := by decide +kernel
theorem dX2_becomeNew_34 : decode cX2_becomeNew 34 = .ok (.iconst 0, 1) := by decide +kernel
theorem dX2_becomeNew_35 : decode cX2_becomeNew 35 = .ok (.iastore, 1) := by decide +kernel
theorem dX2_becomeNew_36 : decode cX2_becomeNew 36 = .ok (.iinc 3 1, 3) := by decide +kernel
theorem dX2_becomeNew_39 : decode cX2_becomeNew 39 = .ok (.goto (-18), 3) := by decide +kernel
theorem dX2_becomeNew_42 : decode cX2_becomeNew 42 = .ok (.return_, 1) := by decide +kernel
theorem dX2_faultAs_0 : decode cX2_faultAs 0 = .ok (.aload_n 0, 1) := by decide +kernel
theorem dX2_faultAs_1 : decode cX2_faultAs 1 = .ok (.invokevirtual 31, 3) := by decide +kernel
theorem dX2_faultAs_4 : decode cX2_faultAs 4 = .ok (.ifCond .eq 5, 3) := by decide +kernel
theorem dX2_faultAs_7 : decode cX2_faultAs 7 = .ok (.iconst 1, 1) := by decide +kernel
theorem dX2_faultAs_8 : decode cX2_faultAs 8 = .ok (.ireturn, 1) := by decide +kernel
theorem dX2_faultAs_9 : decode cX2_faultAs 9 = .ok (.aload_n 0, 1) := by decide +kernel
theorem dX2_faultAs_10 : decode cX2_faultAs 10 = .ok (.getfield 15, 3) := by decide +kernel
theorem dX2_faultAs_13 : decode cX2_faultAs 13 = .ok (.iload_n 1, 1) := by decide +kernel
theorem dX2_faultAs_14 : decode cX2_faultAs 14 = .ok (.if_icmp .ne 7, 3) := by decide +kernel
theorem dX2_faultAs_17 : decode cX2_faultAs 17 = .ok (.iconst 0, 1) := by decide +kernel
theorem dX2_faultAs_18 : decode cX2_faultAs 18 = .ok (.goto 4, 3) := by decide +kernel
theorem dX2_faultAs_21 : decode cX2_faultAs 21 = .ok (.iconst 2, 1) := by decide +kernel
theorem dX2_faultAs_22 : decode cX2_faultAs 22 = .ok (.ireturn, 1) := by decide +kernel
theorem dX2_hasCells_0 : decode cX2_hasCells 0 = .ok (.iload_n 1, 1) := by decide +kernel
theorem dX2_hasCells_1 : decode cX2_hasCells 1 = .ok (.ifCond .lt 29, 3) := by decide +kernel
theorem dX2_hasCells_4 : decode cX2_hasCells 4 = .ok (.iload_n 1, 1) := by decide +kernel
theorem dX2_hasCells_5 : decode cX2_hasCells 5 = .ok (.aload_n 0, 1) := by decide +kernel
theorem dX2_hasCells_6 : decode cX2_hasCells 6 = .ok (.getfield 19, 3) := by decide +kernel
theorem dX2_hasCells_9 : decode cX2_hasCells 9 = .ok (.if_icmp .gt 21, 3) := by decide +kernel
theorem dX2_hasCells_12 : decode cX2_hasCells 12 = .ok (.iload_n 2, 1) := by decide +kernel
theorem dX2_hasCells_13 : decode cX2_hasCells 13 = .ok (.ifCond .lt 17, 3) := by decide +kernel
theorem dX2_hasCells_16 : decode cX2_hasCells 16 = .ok (.iload_n 2, 1) := by decide +kernel
theorem dX2_hasCells_17 : decode cX2_hasCells 17 = .ok (.aload_n 0, 1) := by decide +kernel
theorem dX2_hasCells_18 : decode cX2_hasCells 18 = .ok (.getfield 19, 3) := by decide +kernel
theorem dX2_hasCells_21 : decode cX2_hasCells 21 = .ok (.iload_n 1, 1) := by decide +kernel
theorem dX2_hasCells_22 : decode cX2_hasCells 22 = .ok (.isub, 1) := by decide +kernel
theorem dX2_hasCells_23 : decode cX2_hasCells 23 = .ok (.if_icmp .gt 7, 3) := by decide +kernel
theorem dX2_hasCells_26 : decode cX2_hasCells 26 = .ok (.iconst 1, 1) := by decide +kernel
theorem dX2_hasCells_27 : decode cX2_hasCells 27 = .ok (.goto 4, 3) := by decide +kernel
theorem dX2_hasCells_30 : decode cX2_hasCells 30 = .ok (.iconst 0, 1) := by decide +kernel
theorem dX2_hasCells_31 : decode cX2_hasCells 31 = .ok (.ireturn, 1) := by decide +kernel
theorem dX2_read_0 : decode cX2_read 0 = .ok (.iload_n 1, 1) := by decide +kernel
theorem dX2_read_1 : decode cX2_read 1 = .ok (.ifCond .lt 20, 3) := by decide +kernel
theorem dX2_read_4 : decode cX2_read 4 = .ok (.iload_n 1, 1) := by decide +kernel
theorem dX2_read_5 : decode cX2_read 5 = .ok (.aload_n 0, 1) := by decide +kernel
theorem dX2_read_6 : decode cX2_read 6 = .ok (.getfield 19, 3) := by decide +kernel
theorem dX2_read_9 : decode cX2_read 9 = .ok (.if_icmp .ge 12, 3) := by decide +kernel
theorem dX2_read_12 : decode cX2_read 12 = .ok (.aload_n 0, 1) := by decide +kernel
theorem dX2_read_13 : decode cX2_read 13 = .ok (.getfield 9, 3) := by decide +kernel
theorem dX2_read_16 : decode cX2_read 16 = .ok (.iload_n 1, 1) := by decide +kernel
theorem dX2_read_17 : decode cX2_read 17 = .ok (.iaload, 1) := by decide +kernel
theorem dX2_read_18 : decode cX2_read 18 = .ok (.goto 4, 3) := by decide +kernel
theorem dX2_read_21 : decode cX2_read 21 = .ok (.iconst 0, 1) := by decide +kernel
theorem dX2_read_22 : decode cX2_read 22 = .ok (.ireturn, 1) := by decide +kernel
theorem dX2_write_0 : decode cX2_write 0 = .ok (.iload_n 1, 1) := by decide +kernel
theorem dX2_write_1 : decode cX2_write 1 = .ok (.ifCond .lt 22, 3) := by decide +kernel
theorem dX2_write_4 : decode cX2_write 4 = .ok (.iload_n 1, 1) := by decide +kernel
theorem dX2_write_5 : decode cX2_write 5 = .ok (.aload_n 0, 1) := by decide +kernel
theorem dX2_write_6 : decode cX2_write 6 = .ok (.getfield 19, 3) := by decide +kernel
theorem dX2_write_9 : decode cX2_write 9 = .ok (.if_icmp .ge 14, 3) := by decide +kernel
theorem dX2_write_12 : decode cX2_write 12 = .ok (.aload_n 0, 1) := by decide +kernel
theorem dX2_write_13 : decode cX2_write 13 = .ok (.getfield 9, 3) := by decide +kernel
theorem dX2_write_16 : decode cX2_write 16 = .ok (.iload_n 1, 1) := by decide +kernel
theorem dX2_write_17 : decode cX2_write 17 = .ok (.aload_n 0, 1) := by decide +kernel
theorem dX2_write_18 : decode cX2_write 18 = .ok (.iload_n 2, 1) := by decide +kernel
theorem dX2_write_19 : decode cX2_write 19 = .ok (.invokevirtual 35, 3) := by decide +kernel
theorem dX2_write_22 : decode cX2_write 22 = .ok (.iastore, 1) := by decide +kernel
theorem dX2_write_23 : decode cX2_write 23 = .ok (.return_, 1) := by decide +kernel
theorem dX2_cut_0 : decode cX2_cut 0 = .ok (.aload_n 0, 1) := by decide +kernel
theorem dX2_cut_1 : decode cX2_cut 1 = .ok (.getfield 15, 3) := by decide +kernel
theorem dX2_cut_4 : decode cX2_cut 4 = .ok (.ifCond .ne 6, 3) := by decide +kernel
theorem dX2_cut_7 : decode cX2_cut 7 = .ok (.iload_n 1, 1) := by decide +kernel
theorem dX2_cut_8 : decode cX2_cut 8 = .ok (.i2b, 1) := by decide +kernel
theorem dX2_cut_9 : decode cX2_cut 9 = .ok (.ireturn, 1) := by decide +kernel
theorem dX2_cut_10 : decode cX2_cut 10 = .ok (.aload_n 0, 1) := by decide +kernel
theorem dX2_cut_11 : decode cX2_cut 11 = .ok (.getfield 15, 3) := by decide +kernel
theorem dX2_cut_14 : decode cX2_cut 14 = .ok (.iconst 1, 1) := by decide +kernel
theorem dX2_cut_15 : decode cX2_cut 15 = .ok (.if_icmp .ne 6, 3) := by decide +kernel
theorem dX2_cut_18 : decode cX2_cut 18 = .ok (.iload_n 1, 1) := by decide +kernel
theorem dX2_cut_19 : decode cX2_cut 19 = .ok (.i2s, 1) := by decide +kernel
theorem dX2_cut_20 : decode cX2_cut 20 = .ok (.ireturn, 1) := by decide +kernel
theorem dX2_cut_21 : decode cX2_cut 21 = .ok (.iload_n 1, 1) := by decide +kernel
theorem dX2_cut_22 : decode cX2_cut 22 = .ok (.ireturn, 1) := by decide +kernel
theorem dX3_init_0 : decode cX3_init 0 = .ok (.aload_n 0, 1) := by decide +kernel
theorem dX3_init_1 : decode cX3_init 1 = .ok (.invokespecial 3, 3) := by decide +kernel
theorem dX3_init_4 : decode cX3_init 4 = .ok (.aload_n 0, 1) := by decide +kernel
theorem dX3_init_5 : decode cX3_init 5 = .ok (.iconst 1, 1) := by decide +kernel
theorem dX3_init_6 : decode cX3_init 6 = .ok (.putfield 9, 3) := by decide +kernel
theorem dX3_init_9 : decode cX3_init 9 = .ok (.return_, 1) := by decide +kernel
theorem dX3_become_0 : decode cX3_become 0 = .ok (.aload_n 0, 1) := by decide +kernel
theorem dX3_become_1 : decode cX3_become 1 = .ok (.iload_n 1, 1) := by decide +kernel
theorem dX3_become_2 : decode cX3_become 2 = .ok (.putfield 15, 3) := by decide +kernel
theorem dX3_become_5 : decode cX3_become 5 = .ok (.aload_n 0, 1) := by decide +kernel
theorem dX3_become_6 : decode cX3_become 6 = .ok (.iload_n 2, 1) := by decide +kernel
theorem dX3_become_7 : decode cX3_become 7 = .ok (.putfield 18, 3) := by decide +kernel
theorem dX3_become_10 : decode cX3_become 10 = .ok (.aload_n 0, 1) := by decide +kernel
theorem dX3_become_11 : decode cX3_become 11 = .ok (.iload_n 3, 1) := by decide +kernel
theorem dX3_become_12 : decode cX3_become 12 = .ok (.putfield 9, 3) := by decide +kernel
theorem dX3_become_15 : decode cX3_become 15 = .ok (.aload_n 0, 1) := by decide +kernel
theorem dX3_become_16 : decode cX3_become 16 = .ok (.iload 4, 2) := by decide +kernel
theorem dX3_become_18 : decode cX3_become 18 = .ok (.putfield 21, 3) := by decide +kernel
theorem dX3_become_21 : decode cX3_become 21 = .ok (.aload_n 0, 1) := by decide +kernel
theorem dX3_become_22 : decode cX3_become 22 = .ok (.iload 5, 2) := by decide +kernel
theorem dX3_become_24 : decode cX3_become 24 = .ok (.putfield 24, 3) := by decide +kernel
theorem dX3_become_27 : decode cX3_become 27 = .ok (.return_, 1) := by decide +kernel
theorem dX3_hasPoint_0 : decode cX3_hasPoint 0 = .ok (.iload_n 1, 1) := by decide +kernel
theorem dX3_hasPoint_1 : decode cX3_hasPoint 1 = .ok (.aload_n 0, 1) := by decide +kernel
theorem dX3_hasPoint_2 : decode cX3_hasPoint 2 = .ok (.getfield 21, 3) := by decide +kernel
theorem dX3_hasPoint_5 : decode cX3_hasPoint 5 = .ok (.if_icmp .lt 15, 3) := by decide +kernel
theorem dX3_hasPoint_8 : decode cX3_hasPoint 8 = .ok (.iload_n 1, 1) := by decide +kernel
theorem dX3_hasPoint_9 : decode cX3_hasPoint 9 = .ok (.aload_n 0, 1) := by decide +kernel
theorem dX3_hasPoint_10 : decode cX3_hasPoint 10 = .ok (.getfield 24, 3) := by decide +kernel
theorem dX3_hasPoint_13 : decode cX3_hasPoint 13 = .ok (.if_icmp .gt 7, 3) := by decide +kernel
theorem dX3_hasPoint_16 : decode cX3_hasPoint 16 = .ok (.iconst 1, 1) := by decide +kernel
theorem dX3_hasPoint_17 : decode cX3_hasPoint 17 = .ok (.goto 4, 3) := by decide +kernel
theorem dX3_hasPoint_20 : decode cX3_hasPoint 20 = .ok (.iconst 0, 1) := by decide +kernel
theorem dX3_hasPoint_21 : decode cX3_hasPoint 21 = .ok (.ireturn, 1) := by decide +kernel
theorem dX3_ownWorth_0 : decode cX3_ownWorth 0 = .ok (.aload_n 0, 1) := by decide +kernel
theorem dX3_ownWorth_1 : decode cX3_ownWorth 1 = .ok (.getfield 15, 3) := by decide +kernel
theorem dX3_ownWorth_4 : decode cX3_ownWorth 4 = .ok (.iconst 1, 1) := by decide +kernel
theorem dX3_ownWorth_5 : decode cX3_ownWorth 5 = .ok (.if_icmp .ne 10, 3) := by decide +kernel
theorem dX3_ownWorth_8 : decode cX3_ownWorth 8 = .ok (.aload_n 0, 1) := by decide +kernel
theorem dX3_ownWorth_9 : decode cX3_ownWorth 9 = .ok (.getfield 9, 3) := by decide +kernel
theorem dX3_ownWorth_12 : decode cX3_ownWorth 12 = .ok (.iconst 1, 1) := by decide +kernel
theorem dX3_ownWorth_13 : decode cX3_ownWorth 13 = .ok (.iadd, 1) := by decide +kernel
theorem dX3_ownWorth_14 : decode cX3_ownWorth 14 = .ok (.ireturn, 1) := by decide +kernel
theorem dX3_ownWorth_15 : decode cX3_ownWorth 15 = .ok (.aload_n 0, 1) := by decide +kernel
theorem dX3_ownWorth_16 : decode cX3_ownWorth 16 = .ok (.getfield 15, 3) := by decide +kernel
theorem dX3_ownWorth_19 : decode cX3_ownWorth 19 = .ok (.iconst 2, 1) := by decide +kernel
theorem dX3_ownWorth_20 : decode cX3_ownWorth 20 = .ok (.if_icmp .ne 12, 3) := by decide +kernel
theorem dX3_ownWorth_23 : decode cX3_ownWorth 23 = .ok (.iconst 2, 1) := by decide +kernel
theorem dX3_ownWorth_24 : decode cX3_ownWorth 24 = .ok (.aload_n 0, 1) := by decide +kernel
theorem dX3_ownWorth_25 : decode cX3_ownWorth 25 = .ok (.getfield 9, 3) := by decide +kernel
theorem dX3_ownWorth_28 : decode cX3_ownWorth 28 = .ok (.imul, 1) := by decide +kernel
theorem dX3_ownWorth_29 : decode cX3_ownWorth 29 = .ok (.goto 7, 3) := by decide +kernel
theorem dX3_ownWorth_32 : decode cX3_ownWorth 32 = .ok (.aload_n 0, 1) := by decide +kernel
theorem dX3_ownWorth_33 : decode cX3_ownWorth 33 = .ok (.getfield 9, 3) := by decide +kernel
theorem dX3_ownWorth_36 : decode cX3_ownWorth 36 = .ok (.ireturn, 1) := by decide +kernel
theorem dX4_firstFault_0 : decode cX4_firstFault 0 = .ok (.iconst 0, 1) := by decide +kernel
theorem dX4_firstFault_1 : decode cX4_firstFault 1 = .ok (.istore_n 3, 1) := by decide +kernel
theorem dX4_firstFault_2 : decode cX4_firstFault 2 = .ok (.iload_n 3, 1) := by decide +kernel
theorem dX4_firstFault_3 : decode cX4_firstFault 3 = .ok (.iload_n 2, 1) := by decide +kernel
theorem dX4_firstFault_4 : decode cX4_firstFault 4 = .ok (.if_icmp .ge 20, 3) := by decide +kernel
theorem dX4_firstFault_7 : decode cX4_firstFault 7 = .ok (.aload_n 0, 1) := by decide +kernel
theorem dX4_firstFault_8 : decode cX4_firstFault 8 = .ok (.iload_n 1, 1) := by decide +kernel
theorem dX4_firstFault_9 : decode cX4_firstFault 9 = .ok (.iload_n 3, 1) := by decide +kernel
theorem dX4_firstFault_10 : decode cX4_firstFault 10 = .ok (.invokestatic 9, 3) := by decide +kernel
theorem dX4_firstFault_13 : decode cX4_firstFault 13 = .ok (.ifCond .ne 5, 3) := by decide +kernel
theorem dX4_firstFault_16 : decode cX4_firstFault 16 = .ok (.iload_n 3, 1) := by decide +kernel
theorem dX4_firstFault_17 : decode cX4_firstFault 17 = .ok (.ireturn, 1) := by decide +kernel
theorem dX4_firstFault_18 : decode cX4_firstFault 18 = .ok (.iinc 3 1, 3) := by decide +kernel
theorem dX4_firstFault_21 : decode cX4_firstFault 21 = .ok (.goto (-19), 3) := by decide +kernel
theorem dX4_firstFault_24 : decode cX4_firstFault 24 = .ok (.iload_n 2, 1) := by decide +kernel
theorem dX4_firstFault_25 : decode cX4_firstFault 25 = .ok (.iconst 1, 1) := by decide +kernel
theorem dX4_firstFault_26 : decode cX4_firstFault 26 = .ok (.if_icmp .le 16, 3) := by decide +kernel
theorem dX4_firstFault_29 : decode cX4_firstFault 29 = .ok (.iload_n 2, 1) := by decide +kernel
theorem dX4_firstFault_30 : decode cX4_firstFault 30 = .ok (.iconst 1, 1) := by decide +kernel
theorem dX4_firstFault_31 : decode cX4_firstFault 31 = .ok (.isub, 1) := by decide +kernel
theorem dX4_firstFault_32 : decode cX4_firstFault 32 = .ok (.bipush 6, 2) := by decide +kernel
theorem dX4_firstFault_34 : decode cX4_firstFault 34 = .ok (.irem, 1) := by decide +kernel
theorem dX4_firstFault_35 : decode cX4_firstFault 35 = .ok (.ifCond .ne 7, 3) := by decide +kernel
theorem dX4_firstFault_38 : decode cX4_firstFault 38 = .ok (.iconst (-1), 1) := by decide +kernel
theorem dX4_firstFault_39 : decode cX4_firstFault 39 = .ok (.goto 4, 3) := by decide +kernel
theorem dX4_firstFault_42 : decode cX4_firstFault 42 = .ok (.iload_n 2, 1) := by decide +kernel
theorem dX4_firstFault_43 : decode cX4_firstFault 43 = .ok (.ireturn, 1) := by decide +kernel
theorem dX4_goesOn_0 : decode cX4_goesOn 0 = .ok (.aload_n 0, 1) := by decide +kernel
theorem dX4_goesOn_1 : decode cX4_goesOn 1 = .ok (.iload_n 1, 1) := by decide +kernel
theorem dX4_goesOn_2 : decode cX4_goesOn 2 = .ok (.iload_n 2, 1) := by decide +kernel
theorem dX4_goesOn_3 : decode cX4_goesOn 3 = .ok (.iadd, 1) := by decide +kernel
theorem dX4_goesOn_4 : decode cX4_goesOn 4 = .ok (.invokevirtual 15, 3) := by decide +kernel
theorem dX4_goesOn_7 : decode cX4_goesOn 7 = .ok (.istore_n 3, 1) := by decide +kernel
theorem dX4_goesOn_8 : decode cX4_goesOn 8 = .ok (.iload_n 2, 1) := by decide +kernel
theorem dX4_goesOn_9 : decode cX4_goesOn 9 = .ok (.ifCond .ne 15, 3) := by decide +kernel
theorem dX4_goesOn_12 : decode cX4_goesOn 12 = .ok (.iload_n 3, 1) := by decide +kernel
theorem dX4_goesOn_13 : decode cX4_goesOn 13 = .ok (.bipush 113, 2) := by decide +kernel
theorem dX4_goesOn_15 : decode cX4_goesOn 15 = .ok (.if_icmp .ne 7, 3) := by decide +kernel
theorem dX4_goesOn_18 : decode cX4_goesOn 18 = .ok (.iconst 1, 1) := by decide +kernel
theorem dX4_goesOn_19 : decode cX4_goesOn 19 = .ok (.goto 4, 3) := by decide +kernel
theorem dX4_goesOn_22 : decode cX4_goesOn 22 = .ok (.iconst 0, 1) := by decide +kernel
theorem dX4_goesOn_23 : decode cX4_goesOn 23 = .ok (.ireturn, 1) := by decide +kernel
theorem dX4_goesOn_24 : decode cX4_goesOn 24 = .ok (.iload_n 2, 1) := by decide +kernel
theorem dX4_goesOn_25 : decode cX4_goesOn 25 = .ok (.bipush 42, 2) := by decide +kernel
theorem dX4_goesOn_27 : decode cX4_goesOn 27 = .ok (.if_icmp .le 5, 3) := by decide +kernel
theorem dX4_goesOn_30 : decode cX4_goesOn 30 = .ok (.iconst 0, 1) := by decide +kernel
theorem dX4_goesOn_31 : decode cX4_goesOn 31 = .ok (.ireturn, 1) := by decide +kernel
theorem dX4_goesOn_32 : decode cX4_goesOn 32 = .ok (.iload_n 2, 1) := by decide +kernel
theorem dX4_goesOn_33 : decode cX4_goesOn 33 = .ok (.iconst 1, 1) := by decide +kernel
theorem dX4_goesOn_34 : decode cX4_goesOn 34 = .ok (.isub, 1) := by decide +kernel
theorem dX4_goesOn_35 : decode cX4_goesOn 35 = .ok (.bipush 6, 2) := by decide +kernel
theorem dX4_goesOn_37 : decode cX4_goesOn 37 = .ok (.irem, 1) := by decide +kernel
theorem dX4_goesOn_38 : decode cX4_goesOn 38 = .ok (.tableswitch 94 0 4 #[34, 46, 61, 76, 85], 34) := by decide +kernel
theorem dX4_goesOn_72 : decode cX4_goesOn 72 = .ok (.iload_n 3, 1) := by decide +kernel
theorem dX4_goesOn_73 : decode cX4_goesOn 73 = .ok (.bipush 59, 2) := by decide +kernel
theorem dX4_goesOn_75 : decode cX4_goesOn 75 = .ok (.if_icmp .ne 7, 3) := by decide +kernel
theorem dX4_goesOn_78 : decode cX4_goesOn 78 = .ok (.iconst 1, 1) := by decide +kernel
theorem dX4_goesOn_79 : decode cX4_goesOn 79 = .ok (.goto 4, 3) := by decide +kernel
theorem dX4_goesOn_82 : decode cX4_goesOn 82 = .ok (.iconst 0, 1) := by decide +kernel
theorem dX4_goesOn_83 : decode cX4_goesOn 83 = .ok (.ireturn, 1) := by decide +kernel
theorem dX4_goesOn_84 : decode cX4_goesOn 84 = .ok (.iload_n 3, 1) := by decide +kernel
theorem dX4_goesOn_85 : decode cX4_goesOn 85 = .ok (.invokestatic 21, 3) := by decide +kernel
theorem dX4_goesOn_88 : decode cX4_goesOn 88 = .ok (.bipush (-9), 2) := by decide +kernel
theorem dX4_goesOn_90 : decode cX4_goesOn 90 = .ok (.if_icmp .eq 7, 3) := by decide +kernel
theorem dX4_goesOn_93 : decode cX4_goesOn 93 = .ok (.iconst 1, 1) := by decide +kernel
theorem dX4_goesOn_94 : decode cX4_goesOn 94 = .ok (.goto 4, 3) := by decide +kernel
theorem dX4_goesOn_97 : decode cX4_goesOn 97 = .ok (.iconst 0, 1) := by decide +kernel
theorem dX4_goesOn_98 : decode cX4_goesOn 98 = .ok (.ireturn, 1) := by decide +kernel
theorem dX4_goesOn_99 : decode cX4_goesOn 99 = .ok (.iload_n 3, 1) := by decide +kernel
theorem dX4_goesOn_100 : decode cX4_goesOn 100 = .ok (.invokestatic 24, 3) := by decide +kernel
theorem dX4_goesOn_103 : decode cX4_goesOn 103 = .ok (.bipush (-9), 2) := by decide +kernel
theorem dX4_goesOn_105 : decode cX4_goesOn 105 = .ok (.if_icmp .eq 7, 3) := by decide +kernel
theorem dX4_goesOn_108 : decode cX4_goesOn 108 = .ok (.iconst 1, 1) := by decide +kernel
theorem dX4_goesOn_109 : decode cX4_goesOn 109 = .ok (.goto 4, 3) := by decide +kernel
theorem dX4_goesOn_112 : decode cX4_goesOn 112 = .ok (.iconst 0, 1) := by decide +kernel
theorem dX4_goesOn_113 : decode cX4_goesOn 113 = .ok (.ireturn, 1) := by decide +kernel
theorem dX4_goesOn_114 : decode cX4_goesOn 114 = .ok (.iload_n 3, 1) := by decide +kernel
theorem dX4_goesOn_115 : decode cX4_goesOn 115 = .ok (.bipush 49, 2) := by decide +kernel
theorem dX4_goesOn_117 : decode cX4_goesOn 117 = .ok (.bipush 57, 2) := by decide +kernel
theorem dX4_goesOn_119 : decode cX4_goesOn 119 = .ok (.invokestatic 27, 3) := by decide +kernel
theorem dX4_goesOn_122 : decode cX4_goesOn 122 = .ok (.ireturn, 1) := by decide +kernel
theorem dX4_goesOn_123 : decode cX4_goesOn 123 = .ok (.iload_n 3, 1) := by decide +kernel
theorem dX4_goesOn_124 : decode cX4_goesOn 124 = .ok (.bipush 97, 2) := by decide +kernel
theorem dX4_goesOn_126 : decode cX4_goesOn 126 = .ok (.bipush 122, 2) := by decide +kernel
theorem dX4_goesOn_128 : decode cX4_goesOn 128 = .ok (.invokestatic 27, 3) := by decide +kernel
theorem dX4_goesOn_131 : decode cX4_goesOn 131 = .ok (.ireturn, 1) := by decide +kernel
theorem dX4_goesOn_132 : decode cX4_goesOn 132 = .ok (.iload_n 3, 1) := by decide +kernel
theorem dX4_goesOn_133 : decode cX4_goesOn 133 = .ok (.aload_n 0, 1) := by decide +kernel
theorem dX4_goesOn_134 : decode cX4_goesOn 134 = .ok (.iload_n 1, 1) := by decide +kernel
theorem dX4_goesOn_135 : decode cX4_goesOn 135 = .ok (.iload_n 2, 1) := by decide +kernel
theorem dX4_goesOn_136 : decode cX4_goesOn 136 = .ok (.iadd, 1) := by decide +kernel
theorem dX4_goesOn_137 : decode cX4_goesOn 137 = .ok (.iconst 1, 1) := by decide +kernel
theorem dX4_goesOn_138 : decode cX4_goesOn 138 = .ok (.isub, 1) := by decide +kernel
theorem dX4_goesOn_139 : decode cX4_goesOn 139 = .ok (.invokevirtual 15, 3) := by decide +kernel
theorem dX4_goesOn_142 : decode cX4_goesOn 142 = .ok (.bipush 122, 2) := by decide +kernel
theorem dX4_goesOn_144 : decode cX4_goesOn 144 = .ok (.invokestatic 27, 3) := by decide +kernel
theorem dX4_goesOn_147 : decode cX4_goesOn 147 = .ok (.ireturn, 1) := by decide +kernel
theorem dX4_take_0 : decode cX4_take 0 = .ok (.aload_n 3, 1) := by decide +kernel
theorem dX4_take_1 : decode cX4_take 1 = .ok (.iload_n 2, 1) := by decide +kernel
theorem dX4_take_2 : decode cX4_take 2 = .ok (.iconst 1, 1) := by decide +kernel
theorem dX4_take_3 : decode cX4_take 3 = .ok (.isub, 1) := by decide +kernel
theorem dX4_take_4 : decode cX4_take 4 = .ok (.bipush 6, 2) := by decide +kernel
theorem dX4_take_6 : decode cX4_take 6 = .ok (.idiv, 1) := by decide +kernel
theorem dX4_take_7 : decode cX4_take 7 = .ok (.bipush 7, 2) := by decide +kernel
theorem dX4_take_9 : decode cX4_take 9 = .ok (.invokestatic 31, 3) := by decide +kernel
theorem dX4_take_12 : decode cX4_take 12 = .ok (.putfield 37, 3) := by decide +kernel
theorem dX4_take_15 : decode cX4_take 15 = .ok (.iconst 0, 1) := by decide +kernel
theorem dX4_take_16 : decode cX4_take 16 = .ok (.istore 4, 2) := by decide +kernel
theorem dX4_take_18 : decode cX4_take 18 = .ok (.iload 4, 2) := by decide +kernel
theorem dX4_take_20 : decode cX4_take 20 = .ok (.aload_n 3, 1) := by decide +kernel
theorem dX4_take_21 : decode cX4_take 21 = .ok (.getfield 37, 3) := by decide +kernel
theorem dX4_take_24 : decode cX4_take 24 = .ok (.if_icmp .ge 85, 3) := by decide +kernel
theorem dX4_take_27 : decode cX4_take 27 = .ok (.iload_n 1, 1) := by decide +kernel
theorem dX4_take_28 : decode cX4_take 28 = .ok (.iconst 1, 1) := by decide +kernel
theorem dX4_take_29 : decode cX4_take 29 = .ok (.iadd, 1) := by decide +kernel
theorem dX4_take_30 : decode cX4_take 30 = .ok (.iload 4, 2) := by decide +kernel
theorem dX4_take_32 : decode cX4_take 32 = .ok (.bipush 6, 2) := by decide +kernel
theorem dX4_take_34 : decode cX4_take 34 = .ok (.imul, 1) := by decide +kernel
theorem dX4_take_35 : decode cX4_take 35 = .ok (.iadd, 1) := by decide +kernel
theorem dX4_take_36 : decode cX4_take 36 = .ok (.istore 5, 2) := by decide +kernel
theorem dX4_take_38 : decode cX4_take 38 = .ok (.aload_n 3, 1) := by decide +kernel
theorem dX4_take_39 : decode cX4_take 39 = .ok (.getfield 43, 3) := by decide +kernel
theorem dX4_take_42 : decode cX4_take 42 = .ok (.iload 4, 2) := by decide +kernel
theorem dX4_take_44 : decode cX4_take 44 = .ok (.aaload, 1) := by decide +kernel
theorem dX4_take_45 : decode cX4_take 45 = .ok (.aload_n 0, 1) := by decide +kernel
theorem dX4_take_46 : decode cX4_take 46 = .ok (.iload 5, 2) := by decide +kernel
theorem dX4_take_48 : decode cX4_take 48 = .ok (.iconst 1, 1) := by decide +kernel
theorem dX4_take_49 : decode cX4_take 49 = .ok (.iadd, 1) := by decide +kernel
theorem dX4_take_50 : decode cX4_take 50 = .ok (.invokevirtual 15, 3) := by decide +kernel
theorem dX4_take_53 : decode cX4_take 53 = .ok (.invokestatic 21, 3) := by decide +kernel
theorem dX4_take_56 : decode cX4_take 56 = .ok (.aload_n 0, 1) := by decide +kernel
theorem dX4_take_57 : decode cX4_take 57 = .ok (.iload 5, 2) := by decide +kernel
theorem dX4_take_59 : decode cX4_take 59 = .ok (.iconst 2, 1) := by decide +kernel
theorem dX4_take_60 : decode cX4_take 60 = .ok (.iadd, 1) := by decide +kernel
theorem dX4_take_61 : decode cX4_take 61 = .ok (.invokevirtual 15, 3) := by decide +kernel
theorem dX4_take_64 : decode cX4_take 64 = .ok (.invokestatic 24, 3) := by decide +kernel
theorem dX4_take_67 : decode cX4_take 67 = .ok (.aload_n 0, 1) := by decide +kernel
theorem dX4_take_68 : decode cX4_take 68 = .ok (.iload 5, 2) := by decide +kernel
theorem dX4_take_70 : decode cX4_take 70 = .ok (.iconst 3, 1) := by decide +kernel
theorem dX4_take_71 : decode cX4_take 71 = .ok (.iadd, 1) := by decide +kernel
theorem dX4_take_72 : decode cX4_take 72 = .ok (.invokevirtual 15, 3) := by decide +kernel
theorem dX4_take_75 : decode cX4_take 75 = .ok (.bipush 48, 2) := by decide +kernel
theorem dX4_take_77 : decode cX4_take 77 = .ok (.isub, 1) := by decide +kernel
theorem dX4_take_78 : decode cX4_take 78 = .ok (.aload_n 0, 1) := by decide +kernel
theorem dX4_take_79 : decode cX4_take 79 = .ok (.iload 5, 2) := by decide +kernel
theorem dX4_take_81 : decode cX4_take 81 = .ok (.iconst 4, 1) := by decide +kernel
theorem dX4_take_82 : decode cX4_take 82 = .ok (.iadd, 1) := by decide +kernel
theorem dX4_take_83 : decode cX4_take 83 = .ok (.invokevirtual 15, 3) := by decide +kernel
theorem dX4_take_86 : decode cX4_take 86 = .ok (.bipush 97, 2) := by decide +kernel
theorem dX4_take_88 : decode cX4_take 88 = .ok (.isub, 1) := by decide +kernel
theorem dX4_take_89 : decode cX4_take 89 = .ok (.aload_n 0, 1) := by decide +kernel
theorem dX4_take_90 : decode cX4_take 90 = .ok (.iload 5, 2) := by decide +kernel
theorem dX4_take_92 : decode cX4_take 92 = .ok (.iconst 5, 1) := by decide +kernel
theorem dX4_take_93 : decode cX4_take 93 = .ok (.iadd, 1) := by decide +kernel
theorem dX4_take_94 : decode cX4_take 94 = .ok (.invokevirtual 15, 3) := by decide +kernel
theorem dX4_take_97 : decode cX4_take 97 = .ok (.bipush 97, 2) := by decide +kernel
theorem dX4_take_99 : decode cX4_take 99 = .ok (.isub, 1) := by decide +kernel
theorem dX4_take_100 : decode cX4_take 100 = .ok (.invokevirtual 47, 3) := by decide +kernel
theorem dX4_take_103 : decode cX4_take 103 = .ok (.iinc 4 1, 3) := by decide +kernel
theorem dX4_take_106 : decode cX4_take 106 = .ok (.goto (-88), 3) := by decide +kernel
theorem dX4_take_109 : decode cX4_take 109 = .ok (.return_, 1) := by decide +kernel
theorem dX4_kindOf_0 : decode cX4_kindOf 0 = .ok (.iload_n 0, 1) := by decide +kernel
theorem dX4_kindOf_1 : decode cX4_kindOf 1 = .ok (.lookupswitch 41 #[(66, 37), (80, 35), (87, 39)], 35) := by decide +kernel
theorem dX4_kindOf_36 : decode cX4_kindOf 36 = .ok (.iconst 0, 1) := by decide +kernel
theorem dX4_kindOf_37 : decode cX4_kindOf 37 = .ok (.ireturn, 1) := by decide +kernel
theorem dX4_kindOf_38 : decode cX4_kindOf 38 = .ok (.iconst 1, 1) := by decide +kernel
theorem dX4_kindOf_39 : decode cX4_kindOf 39 = .ok (.ireturn, 1) := by decide +kernel
theorem dX4_kindOf_40 : decode cX4_kindOf 40 = .ok (.iconst 2, 1) := by decide +kernel
theorem dX4_kindOf_41 : decode cX4_kindOf 41 = .ok (.ireturn, 1) := by decide +kernel
theorem dX4_kindOf_42 : decode cX4_kindOf 42 = .ok (.bipush (-9), 2) := by decide +kernel
theorem dX4_kindOf_44 : decode cX4_kindOf 44 = .ok (.ireturn, 1) := by decide +kernel
theorem dX4_deedOf_0 : decode cX4_deedOf 0 = .ok (.iload_n 0, 1) := by decide +kernel
theorem dX4_deedOf_1 : decode cX4_deedOf 1 = .ok (.lookupswitch 41 #[(68, 37), (71, 35), (74, 39)], 35) := by decide +kernel
theorem dX4_deedOf_36 : decode cX4_deedOf 36 = .ok (.iconst 0, 1) := by decide +kernel
theorem dX4_deedOf_37 : decode cX4_deedOf 37 = .ok (.ireturn, 1) := by decide +kernel
theorem dX4_deedOf_38 : decode cX4_deedOf 38 = .ok (.iconst 1, 1) := by decide +kernel
theorem dX4_deedOf_39 : decode cX4_deedOf 39 = .ok (.ireturn, 1) := by decide +kernel
theorem dX4_deedOf_40 : decode cX4_deedOf 40 = .ok (.iconst 2, 1) := by decide +kernel
theorem dX4_deedOf_41 : decode cX4_deedOf 41 = .ok (.ireturn, 1) := by decide +kernel
theorem dX4_deedOf_42 : decode cX4_deedOf 42 = .ok (.bipush (-9), 2) := by decide +kernel
theorem dX4_deedOf_44 : decode cX4_deedOf 44 = .ok (.ireturn, 1) := by decide +kernel
theorem dX5_init_0 : decode cX5_init 0 = .ok (.aload_n 0, 1) := by decide +kernel
theorem dX5_init_1 : decode cX5_init 1 = .ok (.invokespecial 3, 3) := by decide +kernel
theorem dX5_init_4 : decode cX5_init 4 = .ok (.aload_n 0, 1) := by decide +kernel
theorem dX5_init_5 : decode cX5_init 5 = .ok (.new 9, 3) := by decide +kernel
theorem dX5_init_8 : decode cX5_init 8 = .ok (.dup, 1) := by decide +kernel
theorem dX5_init_9 : decode cX5_init 9 = .ok (.invokespecial 11, 3) := by decide +kernel
theorem dX5_init_12 : decode cX5_init 12 = .ok (.putfield 12, 3) := by decide +kernel
theorem dX5_init_15 : decode cX5_init 15 = .ok (.aload_n 0, 1) := by decide +kernel
theorem dX5_init_16 : decode cX5_init 16 = .ok (.new 9, 3) := by decide +kernel
theorem dX5_init_19 : decode cX5_init 19 = .ok (.dup, 1) := by decide +kernel
theorem dX5_init_20 : decode cX5_init 20 = .ok (.invokespecial 11, 3) := by decide +kernel
theorem dX5_init_23 : decode cX5_init 23 = .ok (.putfield 18, 3) := by decide +kernel
theorem dX5_init_26 : decode cX5_init 26 = .ok (.aload_n 0, 1) := by decide +kernel
theorem dX5_init_27 : decode cX5_init 27 = .ok (.iconst 4, 1) := by decide +kernel
theorem dX5_init_28 : decode cX5_init 28 = .ok (.anewarray 21, 3) := by decide +kernel
theorem dX5_init_31 : decode cX5_init 31 = .ok (.putfield 23, 3) := by decide +kernel
theorem dX5_init_34 : decode cX5_init 34 = .ok (.aload_n 0, 1) := by decide +kernel
theorem dX5_init_35 : decode cX5_init 35 = .ok (.bipush 8, 2) := by decide +kernel
theorem dX5_init_37 : decode cX5_init 37 = .ok (.newarray .int, 2) := by decide +kernel
end
section
theorem dX5_init_39 : decode cX5_init 39 = .ok (.putfield 27, 3) := by decide +kernel
theorem dX5_init_42 : decode cX5_init 42 = .ok (.aload_n 0, 1) := by decide +kernel
theorem dX5_init_43 : decode cX5_init 43 = .ok (.bipush 8, 2) := by decide +kernel
theorem dX5_init_45 : decode cX5_init 45 = .ok (.newarray .int, 2) := by decide +kernel
theorem dX5_init_47 : decode cX5_init 47 = .ok (.putfield 31, 3) := by decide +kernel
theorem dX5_init_50 : decode cX5_init 50 = .ok (.iconst 0, 1) := by decide +kernel
theorem dX5_init_51 : decode cX5_init 51 = .ok (.istore_n 1, 1) := by decide +kernel
theorem dX5_init_52 : decode cX5_init 52 = .ok (.iload_n 1, 1) := by decide +kernel
theorem dX5_init_53 : decode cX5_init 53 = .ok (.iconst 4, 1) := by decide +kernel
theorem dX5_init_54 : decode cX5_init 54 = .ok (.if_icmp .ge 22, 3) := by decide +kernel
theorem dX5_init_57 : decode cX5_init 57 = .ok (.aload_n 0, 1) := by decide +kernel
theorem dX5_init_58 : decode cX5_init 58 = .ok (.getfield 23, 3) := by decide +kernel
theorem dX5_init_61 : decode cX5_init 61 = .ok (.iload_n 1, 1) := by decide +kernel
theorem dX5_init_62 : decode cX5_init 62 = .ok (.new 21, 3) := by decide +kernel
theorem dX5_init_65 : decode cX5_init 65 = .ok (.dup, 1) := by decide +kernel
theorem dX5_init_66 : decode cX5_init 66 = .ok (.invokespecial 34, 3) := by decide +kernel
theorem dX5_init_69 : decode cX5_init 69 = .ok (.aastore, 1) := by decide +kernel
theorem dX5_init_70 : decode cX5_init 70 = .ok (.iinc 1 1, 3) := by decide +kernel
theorem dX5_init_73 : decode cX5_init 73 = .ok (.goto (-21), 3) := by decide +kernel
theorem dX5_init_76 : decode cX5_init 76 = .ok (.return_, 1) := by decide +kernel
theorem dX5_rules_0 : decode cX5_rules 0 = .ok (.aload_n 0, 1) := by decide +kernel
theorem dX5_rules_1 : decode cX5_rules 1 = .ok (.iconst 0, 1) := by decide +kernel
theorem dX5_rules_2 : decode cX5_rules 2 = .ok (.putfield 35, 3) := by decide +kernel
theorem dX5_rules_5 : decode cX5_rules 5 = .ok (.iload_n 1, 1) := by decide +kernel
theorem dX5_rules_6 : decode cX5_rules 6 = .ok (.invokestatic 39, 3) := by decide +kernel
theorem dX5_rules_9 : decode cX5_rules 9 = .ok (.ifCond .ne 5, 3) := by decide +kernel
theorem dX5_rules_12 : decode cX5_rules 12 = .ok (.iconst (-1), 1) := by decide +kernel
theorem dX5_rules_13 : decode cX5_rules 13 = .ok (.ireturn, 1) := by decide +kernel
theorem dX5_rules_14 : decode cX5_rules 14 = .ok (.iload_n 2, 1) := by decide +kernel
theorem dX5_rules_15 : decode cX5_rules 15 = .ok (.iconst 0, 1) := by decide +kernel
theorem dX5_rules_16 : decode cX5_rules 16 = .ok (.iconst 2, 1) := by decide +kernel
theorem dX5_rules_17 : decode cX5_rules 17 = .ok (.invokestatic 43, 3) := by decide +kernel
theorem dX5_rules_20 : decode cX5_rules 20 = .ok (.ifCond .ne 6, 3) := by decide +kernel
theorem dX5_rules_23 : decode cX5_rules 23 = .ok (.bipush (-2), 2) := by decide +kernel
theorem dX5_rules_25 : decode cX5_rules 25 = .ok (.ireturn, 1) := by decide +kernel
theorem dX5_rules_26 : decode cX5_rules 26 = .ok (.aload_n 0, 1) := by decide +kernel
theorem dX5_rules_27 : decode cX5_rules 27 = .ok (.getfield 23, 3) := by decide +kernel
theorem dX5_rules_30 : decode cX5_rules 30 = .ok (.iload_n 1, 1) := by decide +kernel
theorem dX5_rules_31 : decode cX5_rules 31 = .ok (.aaload, 1) := by decide +kernel
theorem dX5_rules_32 : decode cX5_rules 32 = .ok (.astore 5, 2) := by decide +kernel
theorem dX5_rules_34 : decode cX5_rules 34 = .ok (.aload 5, 2) := by decide +kernel
theorem dX5_rules_36 : decode cX5_rules 36 = .ok (.iload_n 2, 1) := by decide +kernel
theorem dX5_rules_37 : decode cX5_rules 37 = .ok (.invokevirtual 47, 3) := by decide +kernel
theorem dX5_rules_40 : decode cX5_rules 40 = .ok (.istore 6, 2) := by decide +kernel
theorem dX5_rules_42 : decode cX5_rules 42 = .ok (.iload 6, 2) := by decide +kernel
theorem dX5_rules_44 : decode cX5_rules 44 = .ok (.ifCond .eq 10, 3) := by decide +kernel
theorem dX5_rules_47 : decode cX5_rules 47 = .ok (.aload_n 0, 1) := by decide +kernel
theorem dX5_rules_48 : decode cX5_rules 48 = .ok (.iload 6, 2) := by decide +kernel
theorem dX5_rules_50 : decode cX5_rules 50 = .ok (.invokevirtual 51, 3) := by decide +kernel
theorem dX5_rules_53 : decode cX5_rules 53 = .ok (.ireturn, 1) := by decide +kernel
theorem dX5_rules_54 : decode cX5_rules 54 = .ok (.iload 4, 2) := by decide +kernel
theorem dX5_rules_56 : decode cX5_rules 56 = .ok (.ifCond .ge 9, 3) := by decide +kernel
theorem dX5_rules_59 : decode cX5_rules 59 = .ok (.aload_n 0, 1) := by decide +kernel
theorem dX5_rules_60 : decode cX5_rules 60 = .ok (.iconst 4, 1) := by decide +kernel
theorem dX5_rules_61 : decode cX5_rules 61 = .ok (.invokevirtual 51, 3) := by decide +kernel
theorem dX5_rules_64 : decode cX5_rules 64 = .ok (.ireturn, 1) := by decide +kernel
theorem dX5_rules_65 : decode cX5_rules 65 = .ok (.aload 5, 2) := by decide +kernel
theorem dX5_rules_67 : decode cX5_rules 67 = .ok (.iload_n 3, 1) := by decide +kernel
theorem dX5_rules_68 : decode cX5_rules 68 = .ok (.iload 4, 2) := by decide +kernel
theorem dX5_rules_70 : decode cX5_rules 70 = .ok (.invokevirtual 54, 3) := by decide +kernel
theorem dX5_rules_73 : decode cX5_rules 73 = .ok (.ifCond .ne 9, 3) := by decide +kernel
theorem dX5_rules_76 : decode cX5_rules 76 = .ok (.aload_n 0, 1) := by decide +kernel
theorem dX5_rules_77 : decode cX5_rules 77 = .ok (.iconst 3, 1) := by decide +kernel
theorem dX5_rules_78 : decode cX5_rules 78 = .ok (.invokevirtual 51, 3) := by decide +kernel
theorem dX5_rules_81 : decode cX5_rules 81 = .ok (.ireturn, 1) := by decide +kernel
theorem dX5_rules_82 : decode cX5_rules 82 = .ok (.aload 5, 2) := by decide +kernel
theorem dX5_rules_84 : decode cX5_rules 84 = .ok (.iload_n 3, 1) := by decide +kernel
theorem dX5_rules_85 : decode cX5_rules 85 = .ok (.iload 4, 2) := by decide +kernel
theorem dX5_rules_87 : decode cX5_rules 87 = .ok (.invokestatic 58, 3) := by decide +kernel
theorem dX5_rules_90 : decode cX5_rules 90 = .ok (.istore 7, 2) := by decide +kernel
theorem dX5_rules_92 : decode cX5_rules 92 = .ok (.iload 7, 2) := by decide +kernel
theorem dX5_rules_94 : decode cX5_rules 94 = .ok (.iconst (-1), 1) := by decide +kernel
theorem dX5_rules_95 : decode cX5_rules 95 = .ok (.if_icmp .eq 9, 3) := by decide +kernel
theorem dX5_rules_98 : decode cX5_rules 98 = .ok (.bipush (-100), 2) := by decide +kernel
theorem dX5_rules_100 : decode cX5_rules 100 = .ok (.iload 7, 2) := by decide +kernel
theorem dX5_rules_102 : decode cX5_rules 102 = .ok (.isub, 1) := by decide +kernel
theorem dX5_rules_103 : decode cX5_rules 103 = .ok (.ireturn, 1) := by decide +kernel
theorem dX5_rules_104 : decode cX5_rules 104 = .ok (.aload 5, 2) := by decide +kernel
theorem dX5_rules_106 : decode cX5_rules 106 = .ok (.iload_n 3, 1) := by decide +kernel
theorem dX5_rules_107 : decode cX5_rules 107 = .ok (.iload 4, 2) := by decide +kernel
theorem dX5_rules_109 : decode cX5_rules 109 = .ok (.aload_n 0, 1) := by decide +kernel
theorem dX5_rules_110 : decode cX5_rules 110 = .ok (.getfield 12, 3) := by decide +kernel
theorem dX5_rules_113 : decode cX5_rules 113 = .ok (.invokestatic 64, 3) := by decide +kernel
theorem dX5_rules_116 : decode cX5_rules 116 = .ok (.aload_n 0, 1) := by decide +kernel
theorem dX5_rules_117 : decode cX5_rules 117 = .ok (.iconst 0, 1) := by decide +kernel
theorem dX5_rules_118 : decode cX5_rules 118 = .ok (.putfield 68, 3) := by decide +kernel
theorem dX5_rules_121 : decode cX5_rules 121 = .ok (.aload_n 0, 1) := by decide +kernel
theorem dX5_rules_122 : decode cX5_rules 122 = .ok (.getfield 12, 3) := by decide +kernel
theorem dX5_rules_125 : decode cX5_rules 125 = .ok (.getfield 71, 3) := by decide +kernel
theorem dX5_rules_128 : decode cX5_rules 128 = .ok (.ireturn, 1) := by decide +kernel
theorem dX5_ofRule_0 : decode cX5_ofRule 0 = .ok (.aload_n 0, 1) := by decide +kernel
theorem dX5_ofRule_1 : decode cX5_ofRule 1 = .ok (.getfield 12, 3) := by decide +kernel
theorem dX5_ofRule_4 : decode cX5_ofRule 4 = .ok (.iload_n 1, 1) := by decide +kernel
theorem dX5_ofRule_5 : decode cX5_ofRule 5 = .ok (.invokevirtual 74, 3) := by decide +kernel
theorem dX5_ofRule_8 : decode cX5_ofRule 8 = .ok (.ifCond .ne 5, 3) := by decide +kernel
theorem dX5_ofRule_11 : decode cX5_ofRule 11 = .ok (.iconst (-1), 1) := by decide +kernel
theorem dX5_ofRule_12 : decode cX5_ofRule 12 = .ok (.ireturn, 1) := by decide +kernel
theorem dX5_ofRule_13 : decode cX5_ofRule 13 = .ok (.aload_n 0, 1) := by decide +kernel
theorem dX5_ofRule_14 : decode cX5_ofRule 14 = .ok (.getfield 12, 3) := by decide +kernel
theorem dX5_ofRule_17 : decode cX5_ofRule 17 = .ok (.getfield 77, 3) := by decide +kernel
theorem dX5_ofRule_20 : decode cX5_ofRule 20 = .ok (.iload_n 1, 1) := by decide +kernel
theorem dX5_ofRule_21 : decode cX5_ofRule 21 = .ok (.aaload, 1) := by decide +kernel
theorem dX5_ofRule_22 : decode cX5_ofRule 22 = .ok (.astore_n 3, 1) := by decide +kernel
theorem dX5_ofRule_23 : decode cX5_ofRule 23 = .ok (.iload_n 2, 1) := by decide +kernel
theorem dX5_ofRule_24 : decode cX5_ofRule 24 = .ok (.tableswitch 83 0 6 #[44, 49, 54, 59, 64, 69, 74], 44) := by decide +kernel
theorem dX5_ofRule_68 : decode cX5_ofRule 68 = .ok (.aload_n 3, 1) := by decide +kernel
theorem dX5_ofRule_69 : decode cX5_ofRule 69 = .ok (.getfield 81, 3) := by decide +kernel
theorem dX5_ofRule_72 : decode cX5_ofRule 72 = .ok (.ireturn, 1) := by decide +kernel
theorem dX5_ofRule_73 : decode cX5_ofRule 73 = .ok (.aload_n 3, 1) := by decide +kernel
theorem dX5_ofRule_74 : decode cX5_ofRule 74 = .ok (.getfield 86, 3) := by decide +kernel
theorem dX5_ofRule_77 : decode cX5_ofRule 77 = .ok (.ireturn, 1) := by decide +kernel
theorem dX5_ofRule_78 : decode cX5_ofRule 78 = .ok (.aload_n 3, 1) := by decide +kernel
theorem dX5_ofRule_79 : decode cX5_ofRule 79 = .ok (.getfield 89, 3) := by decide +kernel
theorem dX5_ofRule_82 : decode cX5_ofRule 82 = .ok (.ireturn, 1) := by decide +kernel
theorem dX5_ofRule_83 : decode cX5_ofRule 83 = .ok (.aload_n 3, 1) := by decide +kernel
theorem dX5_ofRule_84 : decode cX5_ofRule 84 = .ok (.getfield 92, 3) := by decide +kernel
theorem dX5_ofRule_87 : decode cX5_ofRule 87 = .ok (.ireturn, 1) := by decide +kernel
theorem dX5_ofRule_88 : decode cX5_ofRule 88 = .ok (.aload_n 3, 1) := by decide +kernel
theorem dX5_ofRule_89 : decode cX5_ofRule 89 = .ok (.getfield 95, 3) := by decide +kernel
theorem dX5_ofRule_92 : decode cX5_ofRule 92 = .ok (.ireturn, 1) := by decide +kernel
theorem dX5_ofRule_93 : decode cX5_ofRule 93 = .ok (.aload_n 3, 1) := by decide +kernel
theorem dX5_ofRule_94 : decode cX5_ofRule 94 = .ok (.invokevirtual 98, 3) := by decide +kernel
theorem dX5_ofRule_97 : decode cX5_ofRule 97 = .ok (.ireturn, 1) := by decide +kernel
theorem dX5_ofRule_98 : decode cX5_ofRule 98 = .ok (.aload_n 0, 1) := by decide +kernel
theorem dX5_ofRule_99 : decode cX5_ofRule 99 = .ok (.getfield 12, 3) := by decide +kernel
theorem dX5_ofRule_102 : decode cX5_ofRule 102 = .ok (.iload_n 1, 1) := by decide +kernel
theorem dX5_ofRule_103 : decode cX5_ofRule 103 = .ok (.invokevirtual 102, 3) := by decide +kernel
theorem dX5_ofRule_106 : decode cX5_ofRule 106 = .ok (.ireturn, 1) := by decide +kernel
theorem dX5_ofRule_107 : decode cX5_ofRule 107 = .ok (.bipush (-2), 2) := by decide +kernel
theorem dX5_ofRule_109 : decode cX5_ofRule 109 = .ok (.ireturn, 1) := by decide +kernel
theorem dX5_number_0 : decode cX5_number 0 = .ok (.aload_n 0, 1) := by decide +kernel
theorem dX5_number_1 : decode cX5_number 1 = .ok (.getfield 12, 3) := by decide +kernel
theorem dX5_number_4 : decode cX5_number 4 = .ok (.iload_n 1, 1) := by decide +kernel
theorem dX5_number_5 : decode cX5_number 5 = .ok (.invokevirtual 74, 3) := by decide +kernel
theorem dX5_number_8 : decode cX5_number 8 = .ok (.ifCond .ne 5, 3) := by decide +kernel
theorem dX5_number_11 : decode cX5_number 11 = .ok (.iconst (-1), 1) := by decide +kernel
theorem dX5_number_12 : decode cX5_number 12 = .ok (.ireturn, 1) := by decide +kernel
theorem dX5_number_13 : decode cX5_number 13 = .ok (.iload_n 2, 1) := by decide +kernel
theorem dX5_number_14 : decode cX5_number 14 = .ok (.iconst 1, 1) := by decide +kernel
theorem dX5_number_15 : decode cX5_number 15 = .ok (.bipush 9, 2) := by decide +kernel
theorem dX5_number_17 : decode cX5_number 17 = .ok (.invokestatic 43, 3) := by decide +kernel
theorem dX5_number_20 : decode cX5_number 20 = .ok (.ifCond .ne 6, 3) := by decide +kernel
theorem dX5_number_23 : decode cX5_number 23 = .ok (.bipush (-2), 2) := by decide +kernel
theorem dX5_number_25 : decode cX5_number 25 = .ok (.ireturn, 1) := by decide +kernel
theorem dX5_number_26 : decode cX5_number 26 = .ok (.aload_n 0, 1) := by decide +kernel
theorem dX5_number_27 : decode cX5_number 27 = .ok (.getfield 12, 3) := by decide +kernel
theorem dX5_number_30 : decode cX5_number 30 = .ok (.getfield 77, 3) := by decide +kernel
theorem dX5_number_33 : decode cX5_number 33 = .ok (.iload_n 1, 1) := by decide +kernel
theorem dX5_number_34 : decode cX5_number 34 = .ok (.aaload, 1) := by decide +kernel
theorem dX5_number_35 : decode cX5_number 35 = .ok (.getfield 89, 3) := by decide +kernel
theorem dX5_number_38 : decode cX5_number 38 = .ok (.istore_n 3, 1) := by decide +kernel
theorem dX5_number_39 : decode cX5_number 39 = .ok (.aload_n 0, 1) := by decide +kernel
theorem dX5_number_40 : decode cX5_number 40 = .ok (.getfield 12, 3) := by decide +kernel
theorem dX5_number_43 : decode cX5_number 43 = .ok (.getfield 77, 3) := by decide +kernel
theorem dX5_number_46 : decode cX5_number 46 = .ok (.iload_n 1, 1) := by decide +kernel
theorem dX5_number_47 : decode cX5_number 47 = .ok (.aaload, 1) := by decide +kernel
theorem dX5_number_48 : decode cX5_number 48 = .ok (.iload_n 2, 1) := by decide +kernel
theorem dX5_number_49 : decode cX5_number 49 = .ok (.putfield 89, 3) := by decide +kernel
theorem dX5_number_52 : decode cX5_number 52 = .ok (.iload_n 3, 1) := by decide +kernel
theorem dX5_number_53 : decode cX5_number 53 = .ok (.ireturn, 1) := by decide +kernel
theorem dX5_insert_0 : decode cX5_insert 0 = .ok (.aload_n 0, 1) := by decide +kernel
theorem dX5_insert_1 : decode cX5_insert 1 = .ok (.getfield 12, 3) := by decide +kernel
theorem dX5_insert_4 : decode cX5_insert 4 = .ok (.getfield 71, 3) := by decide +kernel
theorem dX5_insert_7 : decode cX5_insert 7 = .ok (.ifCond .ne 6, 3) := by decide +kernel
theorem dX5_insert_10 : decode cX5_insert 10 = .ok (.bipush (-3), 2) := by decide +kernel
theorem dX5_insert_12 : decode cX5_insert 12 = .ok (.ireturn, 1) := by decide +kernel
theorem dX5_insert_13 : decode cX5_insert 13 = .ok (.iload_n 1, 1) := by decide +kernel
theorem dX5_insert_14 : decode cX5_insert 14 = .ok (.iconst 0, 1) := by decide +kernel
theorem dX5_insert_15 : decode cX5_insert 15 = .ok (.aload_n 0, 1) := by decide +kernel
theorem dX5_insert_16 : decode cX5_insert 16 = .ok (.getfield 12, 3) := by decide +kernel
theorem dX5_insert_19 : decode cX5_insert 19 = .ok (.getfield 71, 3) := by decide +kernel
theorem dX5_insert_22 : decode cX5_insert 22 = .ok (.invokestatic 43, 3) := by decide +kernel
theorem dX5_insert_25 : decode cX5_insert 25 = .ok (.ifCond .ne 6, 3) := by decide +kernel
theorem dX5_insert_28 : decode cX5_insert 28 = .ok (.bipush (-2), 2) := by decide +kernel
theorem dX5_insert_30 : decode cX5_insert 30 = .ok (.ireturn, 1) := by decide +kernel
theorem dX5_insert_31 : decode cX5_insert 31 = .ok (.iload_n 2, 1) := by decide +kernel
theorem dX5_insert_32 : decode cX5_insert 32 = .ok (.iconst 0, 1) := by decide +kernel
theorem dX5_insert_33 : decode cX5_insert 33 = .ok (.iconst 2, 1) := by decide +kernel
theorem dX5_insert_34 : decode cX5_insert 34 = .ok (.invokestatic 43, 3) := by decide +kernel
theorem dX5_insert_37 : decode cX5_insert 37 = .ok (.ifCond .eq 12, 3) := by decide +kernel
theorem dX5_insert_40 : decode cX5_insert 40 = .ok (.iload_n 3, 1) := by decide +kernel
theorem dX5_insert_41 : decode cX5_insert 41 = .ok (.iconst 0, 1) := by decide +kernel
theorem dX5_insert_42 : decode cX5_insert 42 = .ok (.iconst 2, 1) := by decide +kernel
theorem dX5_insert_43 : decode cX5_insert 43 = .ok (.invokestatic 43, 3) := by decide +kernel
theorem dX5_insert_46 : decode cX5_insert 46 = .ok (.ifCond .ne 6, 3) := by decide +kernel
theorem dX5_insert_49 : decode cX5_insert 49 = .ok (.bipush (-2), 2) := by decide +kernel
theorem dX5_insert_51 : decode cX5_insert 51 = .ok (.ireturn, 1) := by decide +kernel
theorem dX5_insert_52 : decode cX5_insert 52 = .ok (.iload 4, 2) := by decide +kernel
theorem dX5_insert_54 : decode cX5_insert 54 = .ok (.iconst 1, 1) := by decide +kernel
theorem dX5_insert_55 : decode cX5_insert 55 = .ok (.bipush 9, 2) := by decide +kernel
theorem dX5_insert_57 : decode cX5_insert 57 = .ok (.invokestatic 43, 3) := by decide +kernel
theorem dX5_insert_60 : decode cX5_insert 60 = .ok (.ifCond .ne 6, 3) := by decide +kernel
theorem dX5_insert_63 : decode cX5_insert 63 = .ok (.bipush (-2), 2) := by decide +kernel
theorem dX5_insert_65 : decode cX5_insert 65 = .ok (.ireturn, 1) := by decide +kernel
theorem dX5_insert_66 : decode cX5_insert 66 = .ok (.iload 5, 2) := by decide +kernel
theorem dX5_insert_68 : decode cX5_insert 68 = .ok (.iconst 0, 1) := by decide +kernel
theorem dX5_insert_69 : decode cX5_insert 69 = .ok (.bipush 25, 2) := by decide +kernel
theorem dX5_insert_71 : decode cX5_insert 71 = .ok (.invokestatic 43, 3) := by decide +kernel
theorem dX5_insert_74 : decode cX5_insert 74 = .ok (.ifCond .eq 15, 3) := by decide +kernel
theorem dX5_insert_77 : decode cX5_insert 77 = .ok (.iload 6, 2) := by decide +kernel
theorem dX5_insert_79 : decode cX5_insert 79 = .ok (.iload 5, 2) := by decide +kernel
theorem dX5_insert_81 : decode cX5_insert 81 = .ok (.bipush 25, 2) := by decide +kernel
theorem dX5_insert_83 : decode cX5_insert 83 = .ok (.invokestatic 43, 3) := by decide +kernel
theorem dX5_insert_86 : decode cX5_insert 86 = .ok (.ifCond .ne 6, 3) := by decide +kernel
theorem dX5_insert_89 : decode cX5_insert 89 = .ok (.bipush (-2), 2) := by decide +kernel
theorem dX5_insert_91 : decode cX5_insert 91 = .ok (.ireturn, 1) := by decide +kernel
theorem dX5_insert_92 : decode cX5_insert 92 = .ok (.aload_n 0, 1) := by decide +kernel
theorem dX5_insert_93 : decode cX5_insert 93 = .ok (.getfield 12, 3) := by decide +kernel
theorem dX5_insert_96 : decode cX5_insert 96 = .ok (.getfield 71, 3) := by decide +kernel
theorem dX5_insert_99 : decode cX5_insert 99 = .ok (.bipush 7, 2) := by decide +kernel
theorem dX5_insert_101 : decode cX5_insert 101 = .ok (.if_icmp .lt 6, 3) := by decide +kernel
theorem dX5_insert_104 : decode cX5_insert 104 = .ok (.bipush (-4), 2) := by decide +kernel
theorem dX5_insert_106 : decode cX5_insert 106 = .ok (.ireturn, 1) := by decide +kernel
theorem dX5_insert_107 : decode cX5_insert 107 = .ok (.aload_n 0, 1) := by decide +kernel
theorem dX5_insert_108 : decode cX5_insert 108 = .ok (.getfield 12, 3) := by decide +kernel
theorem dX5_insert_111 : decode cX5_insert 111 = .ok (.iload_n 1, 1) := by decide +kernel
theorem dX5_insert_112 : decode cX5_insert 112 = .ok (.invokevirtual 105, 3) := by decide +kernel
theorem dX5_insert_115 : decode cX5_insert 115 = .ok (.aload_n 0, 1) := by decide +kernel
theorem dX5_insert_116 : decode cX5_insert 116 = .ok (.getfield 12, 3) := by decide +kernel
theorem dX5_insert_119 : decode cX5_insert 119 = .ok (.getfield 77, 3) := by decide +kernel
theorem dX5_insert_122 : decode cX5_insert 122 = .ok (.iload_n 1, 1) := by decide +kernel
theorem dX5_insert_123 : decode cX5_insert 123 = .ok (.aaload, 1) := by decide +kernel
theorem dX5_insert_124 : decode cX5_insert 124 = .ok (.iload_n 2, 1) := by decide +kernel
theorem dX5_insert_125 : decode cX5_insert 125 = .ok (.iload_n 3, 1) := by decide +kernel
theorem dX5_insert_126 : decode cX5_insert 126 = .ok (.iload 4, 2) := by decide +kernel
theorem dX5_insert_128 : decode cX5_insert 128 = .ok (.iload 5, 2) := by decide +kernel
theorem dX5_insert_130 : decode cX5_insert 130 = .ok (.iload 6, 2) := by decide +kernel
theorem dX5_insert_132 : decode cX5_insert 132 = .ok (.invokevirtual 109, 3) := by decide +kernel
theorem dX5_insert_135 : decode cX5_insert 135 = .ok (.aload_n 0, 1) := by decide +kernel
theorem dX5_insert_136 : decode cX5_insert 136 = .ok (.getfield 12, 3) := by decide +kernel
theorem dX5_insert_139 : decode cX5_insert 139 = .ok (.getfield 71, 3) := by decide +kernel
theorem dX5_insert_142 : decode cX5_insert 142 = .ok (.ireturn, 1) := by decide +kernel
theorem dX5_remove_0 : decode cX5_remove 0 = .ok (.aload_n 0, 1) := by decide +kernel
theorem dX5_remove_1 : decode cX5_remove 1 = .ok (.getfield 12, 3) := by decide +kernel
theorem dX5_remove_4 : decode cX5_remove 4 = .ok (.iload_n 1, 1) := by decide +kernel
theorem dX5_remove_5 : decode cX5_remove 5 = .ok (.invokevirtual 74, 3) := by decide +kernel
theorem dX5_remove_8 : decode cX5_remove 8 = .ok (.ifCond .ne 5, 3) := by decide +kernel
theorem dX5_remove_11 : decode cX5_remove 11 = .ok (.iconst (-1), 1) := by decide +kernel
theorem dX5_remove_12 : decode cX5_remove 12 = .ok (.ireturn, 1) := by decide +kernel
theorem dX5_remove_13 : decode cX5_remove 13 = .ok (.aload_n 0, 1) := by decide +kernel
theorem dX5_remove_14 : decode cX5_remove 14 = .ok (.getfield 12, 3) := by decide +kernel
theorem dX5_remove_17 : decode cX5_remove 17 = .ok (.getfield 71, 3) := by decide +kernel
theorem dX5_remove_20 : decode cX5_remove 20 = .ok (.iconst 1, 1) := by decide +kernel
theorem dX5_remove_21 : decode cX5_remove 21 = .ok (.if_icmp .ne 6, 3) := by decide +kernel
theorem dX5_remove_24 : decode cX5_remove 24 = .ok (.bipush (-3), 2) := by decide +kernel
theorem dX5_remove_26 : decode cX5_remove 26 = .ok (.ireturn, 1) := by decide +kernel
theorem dX5_remove_27 : decode cX5_remove 27 = .ok (.aload_n 0, 1) := by decide +kernel
theorem dX5_remove_28 : decode cX5_remove 28 = .ok (.getfield 12, 3) := by decide +kernel
theorem dX5_remove_31 : decode cX5_remove 31 = .ok (.iload_n 1, 1) := by decide +kernel
theorem dX5_remove_32 : decode cX5_remove 32 = .ok (.invokevirtual 113, 3) := by decide +kernel
theorem dX5_remove_35 : decode cX5_remove 35 = .ok (.aload_n 0, 1) := by decide +kernel
theorem dX5_remove_36 : decode cX5_remove 36 = .ok (.getfield 12, 3) := by decide +kernel
theorem dX5_remove_39 : decode cX5_remove 39 = .ok (.getfield 71, 3) := by decide +kernel
theorem dX5_remove_42 : decode cX5_remove 42 = .ok (.ireturn, 1) := by decide +kernel
theorem dX5_swap_0 : decode cX5_swap 0 = .ok (.aload_n 0, 1) := by decide +kernel
theorem dX5_swap_1 : decode cX5_swap 1 = .ok (.getfield 12, 3) := by decide +kernel
theorem dX5_swap_4 : decode cX5_swap 4 = .ok (.iload_n 1, 1) := by decide +kernel
theorem dX5_swap_5 : decode cX5_swap 5 = .ok (.invokevirtual 116, 3) := by decide +kernel
theorem dX5_swap_8 : decode cX5_swap 8 = .ok (.ifCond .ne 5, 3) := by decide +kernel
theorem dX5_swap_11 : decode cX5_swap 11 = .ok (.iconst (-1), 1) := by decide +kernel
theorem dX5_swap_12 : decode cX5_swap 12 = .ok (.ireturn, 1) := by decide +kernel
theorem dX5_swap_13 : decode cX5_swap 13 = .ok (.aload_n 0, 1) := by decide +kernel
theorem dX5_swap_14 : decode cX5_swap 14 = .ok (.getfield 12, 3) := by decide +kernel
theorem dX5_swap_17 : decode cX5_swap 17 = .ok (.iload_n 1, 1) := by decide +kernel
theorem dX5_swap_18 : decode cX5_swap 18 = .ok (.invokevirtual 119, 3) := by decide +kernel
theorem dX5_swap_21 : decode cX5_swap 21 = .ok (.iload_n 1, 1) := by decide +kernel
theorem dX5_swap_22 : decode cX5_swap 22 = .ok (.ireturn, 1) := by decide +kernel
theorem dX5_winner_0 : decode cX5_winner 0 = .ok (.iload_n 1, 1) := by decide +kernel
theorem dX5_winner_1 : decode cX5_winner 1 = .ok (.invokestatic 122, 3) := by decide +kernel
theorem dX5_winner_4 : decode cX5_winner 4 = .ok (.ifCond .ne 6, 3) := by decide +kernel
theorem dX5_winner_7 : decode cX5_winner 7 = .ok (.bipush (-2), 2) := by decide +kernel
theorem dX5_winner_9 : decode cX5_winner 9 = .ok (.ireturn, 1) := by decide +kernel
theorem dX5_winner_10 : decode cX5_winner 10 = .ok (.aload_n 0, 1) := by decide +kernel
theorem dX5_winner_11 : decode cX5_winner 11 = .ok (.getfield 12, 3) := by decide +kernel
theorem dX5_winner_14 : decode cX5_winner 14 = .ok (.getfield 71, 3) := by decide +kernel
theorem dX5_winner_17 : decode cX5_winner 17 = .ok (.ifCond .ne 6, 3) := by decide +kernel
theorem dX5_winner_20 : decode cX5_winner 20 = .ok (.bipush (-3), 2) := by decide +kernel
theorem dX5_winner_22 : decode cX5_winner 22 = .ok (.ireturn, 1) := by decide +kernel
theorem dX5_winner_23 : decode cX5_winner 23 = .ok (.aload_n 0, 1) := by decide +kernel
theorem dX5_winner_24 : decode cX5_winner 24 = .ok (.getfield 12, 3) := by decide +kernel
theorem dX5_winner_27 : decode cX5_winner 27 = .ok (.iload_n 1, 1) := by decide +kernel
theorem dX5_winner_28 : decode cX5_winner 28 = .ok (.invokevirtual 125, 3) := by decide +kernel
theorem dX5_winner_31 : decode cX5_winner 31 = .ok (.ireturn, 1) := by decide +kernel
theorem dX5_ask_0 : decode cX5_ask 0 = .ok (.iload_n 1, 1) := by decide +kernel
theorem dX5_ask_1 : decode cX5_ask 1 = .ok (.invokestatic 122, 3) := by decide +kernel
theorem dX5_ask_4 : decode cX5_ask 4 = .ok (.ifCond .ne 6, 3) := by decide +kernel
theorem dX5_ask_7 : decode cX5_ask 7 = .ok (.bipush (-2), 2) := by decide +kernel
theorem dX5_ask_9 : decode cX5_ask 9 = .ok (.ireturn, 1) := by decide +kernel
theorem dX5_ask_10 : decode cX5_ask 10 = .ok (.iload_n 2, 1) := by decide +kernel
theorem dX5_ask_11 : decode cX5_ask 11 = .ok (.iconst 0, 1) := by decide +kernel
theorem dX5_ask_12 : decode cX5_ask 12 = .ok (.iconst 1, 1) := by decide +kernel
theorem dX5_ask_13 : decode cX5_ask 13 = .ok (.invokestatic 43, 3) := by decide +kernel
theorem dX5_ask_16 : decode cX5_ask 16 = .ok (.ifCond .ne 17, 3) := by decide +kernel
theorem dX5_ask_19 : decode cX5_ask 19 = .ok (.iload_n 2, 1) := by decide +kernel
theorem dX5_ask_20 : decode cX5_ask 20 = .ok (.bipush 10, 2) := by decide +kernel
theorem dX5_ask_22 : decode cX5_ask 22 = .ok (.bipush 17, 2) := by decide +kernel
theorem dX5_ask_24 : decode cX5_ask 24 = .ok (.invokestatic 43, 3) := by decide +kernel
theorem dX5_ask_27 : decode cX5_ask 27 = .ok (.ifCond .ne 6, 3) := by decide +kernel
theorem dX5_ask_30 : decode cX5_ask 30 = .ok (.bipush (-2), 2) := by decide +kernel
theorem dX5_ask_32 : decode cX5_ask 32 = .ok (.ireturn, 1) := by decide +kernel
theorem dX5_ask_33 : decode cX5_ask 33 = .ok (.aload_n 0, 1) := by decide +kernel
theorem dX5_ask_34 : decode cX5_ask 34 = .ok (.getfield 12, 3) := by decide +kernel
theorem dX5_ask_37 : decode cX5_ask 37 = .ok (.getfield 71, 3) := by decide +kernel
theorem dX5_ask_40 : decode cX5_ask 40 = .ok (.ifCond .ne 6, 3) := by decide +kernel
theorem dX5_ask_43 : decode cX5_ask 43 = .ok (.bipush (-3), 2) := by decide +kernel
theorem dX5_ask_45 : decode cX5_ask 45 = .ok (.ireturn, 1) := by decide +kernel
theorem dX5_ask_46 : decode cX5_ask 46 = .ok (.aload_n 0, 1) := by decide +kernel
theorem dX5_ask_47 : decode cX5_ask 47 = .ok (.getfield 12, 3) := by decide +kernel
theorem dX5_ask_50 : decode cX5_ask 50 = .ok (.getfield 128, 3) := by decide +kernel
theorem dX5_ask_53 : decode cX5_ask 53 = .ok (.astore_n 3, 1) := by decide +kernel
theorem dX5_ask_54 : decode cX5_ask 54 = .ok (.aload_n 3, 1) := by decide +kernel
theorem dX5_ask_55 : decode cX5_ask 55 = .ok (.aload_n 0, 1) := by decide +kernel
theorem dX5_ask_56 : decode cX5_ask 56 = .ok (.getfield 12, 3) := by decide +kernel
theorem dX5_ask_59 : decode cX5_ask 59 = .ok (.iload_n 1, 1) := by decide +kernel
theorem dX5_ask_60 : decode cX5_ask 60 = .ok (.iconst (-1), 1) := by decide +kernel
theorem dX5_ask_61 : decode cX5_ask 61 = .ok (.invokevirtual 132, 3) := by decide +kernel
theorem dX5_ask_64 : decode cX5_ask 64 = .ok (.iload_n 2, 1) := by decide +kernel
theorem dX5_ask_65 : decode cX5_ask 65 = .ok (.ifCond .ne 8, 3) := by decide +kernel
theorem dX5_ask_68 : decode cX5_ask 68 = .ok (.aload_n 3, 1) := by decide +kernel
theorem dX5_ask_69 : decode cX5_ask 69 = .ok (.getfield 138, 3) := by decide +kernel
theorem dX5_ask_72 : decode cX5_ask 72 = .ok (.ireturn, 1) := by decide +kernel
theorem dX5_ask_73 : decode cX5_ask 73 = .ok (.iload_n 2, 1) := by decide +kernel
theorem dX5_ask_74 : decode cX5_ask 74 = .ok (.iconst 1, 1) := by decide +kernel
theorem dX5_ask_75 : decode cX5_ask 75 = .ok (.if_icmp .ne 8, 3) := by decide +kernel
theorem dX5_ask_78 : decode cX5_ask 78 = .ok (.aload_n 3, 1) := by decide +kernel
theorem dX5_ask_79 : decode cX5_ask 79 = .ok (.getfield 141, 3) := by decide +kernel
theorem dX5_ask_82 : decode cX5_ask 82 = .ok (.ireturn, 1) := by decide +kernel
theorem dX5_ask_83 : decode cX5_ask 83 = .ok (.aload_n 3, 1) := by decide +kernel
theorem dX5_ask_84 : decode cX5_ask 84 = .ok (.iload_n 2, 1) := by decide +kernel
theorem dX5_ask_85 : decode cX5_ask 85 = .ok (.bipush 10, 2) := by decide +kernel
theorem dX5_ask_87 : decode cX5_ask 87 = .ok (.isub, 1) := by decide +kernel
theorem dX5_ask_88 : decode cX5_ask 88 = .ok (.invokevirtual 144, 3) := by decide +kernel
theorem dX5_ask_91 : decode cX5_ask 91 = .ok (.ireturn, 1) := by decide +kernel
theorem dX5_day_0 : decode cX5_day 0 = .ok (.aload_n 0, 1) := by decide +kernel
theorem dX5_day_1 : decode cX5_day 1 = .ok (.iconst 0, 1) := by decide +kernel
theorem dX5_day_2 : decode cX5_day 2 = .ok (.putfield 35, 3) := by decide +kernel
theorem dX5_day_5 : decode cX5_day 5 = .ok (.iload_n 1, 1) := by decide +kernel
theorem dX5_day_6 : decode cX5_day 6 = .ok (.invokestatic 39, 3) := by decide +kernel
theorem dX5_day_9 : decode cX5_day 9 = .ok (.ifCond .ne 5, 3) := by decide +kernel
theorem dX5_day_12 : decode cX5_day 12 = .ok (.iconst (-1), 1) := by decide +kernel
theorem dX5_day_13 : decode cX5_day 13 = .ok (.ireturn, 1) := by decide +kernel
theorem dX5_day_14 : decode cX5_day 14 = .ok (.iload_n 2, 1) := by decide +kernel
theorem dX5_day_15 : decode cX5_day 15 = .ok (.iconst 0, 1) := by decide +kernel
theorem dX5_day_16 : decode cX5_day 16 = .ok (.iconst 2, 1) := by decide +kernel
theorem dX5_day_17 : decode cX5_day 17 = .ok (.invokestatic 43, 3) := by decide +kernel
theorem dX5_day_20 : decode cX5_day 20 = .ok (.ifCond .eq 14, 3) := by decide +kernel
theorem dX5_day_23 : decode cX5_day 23 = .ok (.iload 4, 2) := by decide +kernel
theorem dX5_day_25 : decode cX5_day 25 = .ok (.iconst 0, 1) := by decide +kernel
theorem dX5_day_26 : decode cX5_day 26 = .ok (.bipush 20, 2) := by decide +kernel
theorem dX5_day_28 : decode cX5_day 28 = .ok (.invokestatic 43, 3) := by decide +kernel
theorem dX5_day_31 : decode cX5_day 31 = .ok (.ifCond .ne 6, 3) := by decide +kernel
theorem dX5_day_34 : decode cX5_day 34 = .ok (.bipush (-2), 2) := by decide +kernel
theorem dX5_day_36 : decode cX5_day 36 = .ok (.ireturn, 1) := by decide +kernel
theorem dX5_day_37 : decode cX5_day 37 = .ok (.iload 5, 2) := by decide +kernel
theorem dX5_day_39 : decode cX5_day 39 = .ok (.iconst 0, 1) := by decide +kernel
theorem dX5_day_40 : decode cX5_day 40 = .ok (.iconst 4, 1) := by decide +kernel
theorem dX5_day_41 : decode cX5_day 41 = .ok (.invokestatic 43, 3) := by decide +kernel
theorem dX5_day_44 : decode cX5_day 44 = .ok (.ifCond .ne 18, 3) := by decide +kernel
theorem dX5_day_47 : decode cX5_day 47 = .ok (.iload 5, 2) := by decide +kernel
theorem dX5_day_49 : decode cX5_day 49 = .ok (.bipush 10, 2) := by decide +kernel
theorem dX5_day_51 : decode cX5_day 51 = .ok (.bipush 35, 2) := by decide +kernel
theorem dX5_day_53 : decode cX5_day 53 = .ok (.invokestatic 43, 3) := by decide +kernel
theorem dX5_day_56 : decode cX5_day 56 = .ok (.ifCond .ne 6, 3) := by decide +kernel
theorem dX5_day_59 : decode cX5_day 59 = .ok (.bipush (-2), 2) := by decide +kernel
theorem dX5_day_61 : decode cX5_day 61 = .ok (.ireturn, 1) := by decide +kernel
theorem dX5_day_62 : decode cX5_day 62 = .ok (.aload_n 0, 1) := by decide +kernel
theorem dX5_day_63 : decode cX5_day 63 = .ok (.getfield 23, 3) := by decide +kernel
theorem dX5_day_66 : decode cX5_day 66 = .ok (.iload_n 1, 1) := by decide +kernel
theorem dX5_day_67 : decode cX5_day 67 = .ok (.aaload, 1) := by decide +kernel
theorem dX5_day_68 : decode cX5_day 68 = .ok (.astore 6, 2) := by decide +kernel
theorem dX5_day_70 : decode cX5_day 70 = .ok (.aload 6, 2) := by decide +kernel
theorem dX5_day_72 : decode cX5_day 72 = .ok (.iload_n 2, 1) := by decide +kernel
theorem dX5_day_73 : decode cX5_day 73 = .ok (.invokevirtual 47, 3) := by decide +kernel
theorem dX5_day_76 : decode cX5_day 76 = .ok (.istore 7, 2) := by decide +kernel
theorem dX5_day_78 : decode cX5_day 78 = .ok (.iload 7, 2) := by decide +kernel
theorem dX5_day_80 : decode cX5_day 80 = .ok (.ifCond .eq 10, 3) := by decide +kernel
theorem dX5_day_83 : decode cX5_day 83 = .ok (.aload_n 0, 1) := by decide +kernel
theorem dX5_day_84 : decode cX5_day 84 = .ok (.iload 7, 2) := by decide +kernel
theorem dX5_day_86 : decode cX5_day 86 = .ok (.invokevirtual 51, 3) := by decide +kernel
theorem dX5_day_89 : decode cX5_day 89 = .ok (.ireturn, 1) := by decide +kernel
theorem dX5_day_90 : decode cX5_day 90 = .ok (.aload 6, 2) := by decide +kernel
theorem dX5_day_92 : decode cX5_day 92 = .ok (.iload_n 3, 1) := by decide +kernel
theorem dX5_day_93 : decode cX5_day 93 = .ok (.iconst 2, 1) := by decide +kernel
theorem dX5_day_94 : decode cX5_day 94 = .ok (.iload 4, 2) := by decide +kernel
theorem dX5_day_96 : decode cX5_day 96 = .ok (.imul, 1) := by decide +kernel
theorem dX5_day_97 : decode cX5_day 97 = .ok (.invokevirtual 54, 3) := by decide +kernel
theorem dX5_day_100 : decode cX5_day 100 = .ok (.ifCond .ne 9, 3) := by decide +kernel
theorem dX5_day_103 : decode cX5_day 103 = .ok (.aload_n 0, 1) := by decide +kernel
theorem dX5_day_104 : decode cX5_day 104 = .ok (.iconst 3, 1) := by decide +kernel
theorem dX5_day_105 : decode cX5_day 105 = .ok (.invokevirtual 51, 3) := by decide +kernel
theorem dX5_day_108 : decode cX5_day 108 = .ok (.ireturn, 1) := by decide +kernel
theorem dX5_day_109 : decode cX5_day 109 = .ok (.aload_n 0, 1) := by decide +kernel
theorem dX5_day_110 : decode cX5_day 110 = .ok (.getfield 12, 3) := by decide +kernel
theorem dX5_day_113 : decode cX5_day 113 = .ok (.getfield 71, 3) := by decide +kernel
theorem dX5_day_116 : decode cX5_day 116 = .ok (.ifCond .ne 6, 3) := by decide +kernel
theorem dX5_day_119 : decode cX5_day 119 = .ok (.bipush (-3), 2) := by decide +kernel
theorem dX5_day_121 : decode cX5_day 121 = .ok (.ireturn, 1) := by decide +kernel
theorem dX5_day_122 : decode cX5_day 122 = .ok (.aload 6, 2) := by decide +kernel
theorem dX5_day_124 : decode cX5_day 124 = .ok (.iload_n 3, 1) := by decide +kernel
theorem dX5_day_125 : decode cX5_day 125 = .ok (.iload 4, 2) := by decide +kernel
theorem dX5_day_127 : decode cX5_day 127 = .ok (.invokestatic 147, 3) := by decide +kernel
theorem dX5_day_130 : decode cX5_day 130 = .ok (.ifCond .ne 6, 3) := by decide +kernel
theorem dX5_day_133 : decode cX5_day 133 = .ok (.bipush (-2), 2) := by decide +kernel
theorem dX5_day_135 : decode cX5_day 135 = .ok (.ireturn, 1) := by decide +kernel
theorem dX5_day_136 : decode cX5_day 136 = .ok (.aload_n 0, 1) := by decide +kernel
theorem dX5_day_137 : decode cX5_day 137 = .ok (.getfield 18, 3) := by decide +kernel
theorem dX5_day_140 : decode cX5_day 140 = .ok (.aload_n 0, 1) := by decide +kernel
theorem dX5_day_141 : decode cX5_day 141 = .ok (.getfield 12, 3) := by decide +kernel
theorem dX5_day_144 : decode cX5_day 144 = .ok (.invokevirtual 151, 3) := by decide +kernel
theorem dX5_day_147 : decode cX5_day 147 = .ok (.aload_n 0, 1) := by decide +kernel
theorem dX5_day_148 : decode cX5_day 148 = .ok (.aload 6, 2) := by decide +kernel
theorem dX5_day_150 : decode cX5_day 150 = .ok (.iload_n 3, 1) := by decide +kernel
theorem dX5_day_151 : decode cX5_day 151 = .ok (.iload 4, 2) := by decide +kernel
theorem dX5_day_153 : decode cX5_day 153 = .ok (.invokevirtual 155, 3) := by decide +kernel
theorem dX5_day_156 : decode cX5_day 156 = .ok (.istore 8, 2) := by decide +kernel
theorem dX5_day_158 : decode cX5_day 158 = .ok (.iload 5, 2) := by decide +kernel
theorem dX5_day_160 : decode cX5_day 160 = .ok (.iconst 1, 1) := by decide +kernel
theorem dX5_day_161 : decode cX5_day 161 = .ok (.if_icmp .ne 6, 3) := by decide +kernel
theorem dX5_day_164 : decode cX5_day 164 = .ok (.iload 8, 2) := by decide +kernel
theorem dX5_day_166 : decode cX5_day 166 = .ok (.ireturn, 1) := by decide +kernel
theorem dX5_day_167 : decode cX5_day 167 = .ok (.iload 8, 2) := by decide +kernel
theorem dX5_day_169 : decode cX5_day 169 = .ok (.bipush (-9), 2) := by decide +kernel
theorem dX5_day_171 : decode cX5_day 171 = .ok (.if_icmp .eq 9, 3) := by decide +kernel
theorem dX5_day_174 : decode cX5_day 174 = .ok (.bipush (-100), 2) := by decide +kernel
theorem dX5_day_176 : decode cX5_day 176 = .ok (.iload 8, 2) := by decide +kernel
theorem dX5_day_178 : decode cX5_day 178 = .ok (.isub, 1) := by decide +kernel
theorem dX5_day_179 : decode cX5_day 179 = .ok (.ireturn, 1) := by decide +kernel
theorem dX5_day_180 : decode cX5_day 180 = .ok (.aload_n 0, 1) := by decide +kernel
theorem dX5_day_181 : decode cX5_day 181 = .ok (.iload 5, 2) := by decide +kernel
theorem dX5_day_183 : decode cX5_day 183 = .ok (.invokevirtual 158, 3) := by decide +kernel
theorem dX5_day_186 : decode cX5_day 186 = .ok (.ireturn, 1) := by decide +kernel
theorem dX5_ofRun_0 : decode cX5_ofRun 0 = .ok (.iload_n 1, 1) := by decide +kernel
theorem dX5_ofRun_1 : decode cX5_ofRun 1 = .ok (.iconst 0, 1) := by decide +kernel
theorem dX5_ofRun_2 : decode cX5_ofRun 2 = .ok (.aload_n 0, 1) := by decide +kernel
theorem dX5_ofRun_3 : decode cX5_ofRun 3 = .ok (.invokevirtual 161, 3) := by decide +kernel
theorem dX5_ofRun_6 : decode cX5_ofRun 6 = .ok (.iconst 1, 1) := by decide +kernel
theorem dX5_ofRun_7 : decode cX5_ofRun 7 = .ok (.isub, 1) := by decide +kernel
theorem dX5_ofRun_8 : decode cX5_ofRun 8 = .ok (.invokestatic 43, 3) := by decide +kernel
theorem dX5_ofRun_11 : decode cX5_ofRun 11 = .ok (.ifCond .ne 5, 3) := by decide +kernel
theorem dX5_ofRun_14 : decode cX5_ofRun 14 = .ok (.iconst (-1), 1) := by decide +kernel
theorem dX5_ofRun_15 : decode cX5_ofRun 15 = .ok (.ireturn, 1) := by decide +kernel
theorem dX5_ofRun_16 : decode cX5_ofRun 16 = .ok (.aload_n 0, 1) := by decide +kernel
theorem dX5_ofRun_17 : decode cX5_ofRun 17 = .ok (.getfield 12, 3) := by decide +kernel
theorem dX5_ofRun_20 : decode cX5_ofRun 20 = .ok (.iload_n 1, 1) := by decide +kernel
theorem dX5_ofRun_21 : decode cX5_ofRun 21 = .ok (.invokevirtual 164, 3) := by decide +kernel
theorem dX5_ofRun_24 : decode cX5_ofRun 24 = .ok (.istore_n 3, 1) := by decide +kernel
theorem dX5_ofRun_25 : decode cX5_ofRun 25 = .ok (.iload_n 2, 1) := by decide +kernel
theorem dX5_ofRun_26 : decode cX5_ofRun 26 = .ok (.tableswitch 50 0 2 #[26, 28, 41], 26) := by decide +kernel
theorem dX5_ofRun_52 : decode cX5_ofRun 52 = .ok (.iload_n 3, 1) := by decide +kernel
theorem dX5_ofRun_53 : decode cX5_ofRun 53 = .ok (.ireturn, 1) := by decide +kernel
theorem dX5_ofRun_54 : decode cX5_ofRun 54 = .ok (.aload_n 0, 1) := by decide +kernel
theorem dX5_ofRun_55 : decode cX5_ofRun 55 = .ok (.getfield 12, 3) := by decide +kernel
theorem dX5_ofRun_58 : decode cX5_ofRun 58 = .ok (.iload_n 1, 1) := by decide +kernel
theorem dX5_ofRun_59 : decode cX5_ofRun 59 = .ok (.iconst 1, 1) := by decide +kernel
theorem dX5_ofRun_60 : decode cX5_ofRun 60 = .ok (.iadd, 1) := by decide +kernel
theorem dX5_ofRun_61 : decode cX5_ofRun 61 = .ok (.invokevirtual 164, 3) := by decide +kernel
theorem dX5_ofRun_64 : decode cX5_ofRun 64 = .ok (.iload_n 3, 1) := by decide +kernel
theorem dX5_ofRun_65 : decode cX5_ofRun 65 = .ok (.isub, 1) := by decide +kernel
theorem dX5_ofRun_66 : decode cX5_ofRun 66 = .ok (.ireturn, 1) := by decide +kernel
theorem dX5_ofRun_67 : decode cX5_ofRun 67 = .ok (.aload_n 0, 1) := by decide +kernel
theorem dX5_ofRun_68 : decode cX5_ofRun 68 = .ok (.getfield 12, 3) := by decide +kernel
theorem dX5_ofRun_71 : decode cX5_ofRun 71 = .ok (.iload_n 3, 1) := by decide +kernel
theorem dX5_ofRun_72 : decode cX5_ofRun 72 = .ok (.invokevirtual 125, 3) := by decide +kernel
theorem dX5_ofRun_75 : decode cX5_ofRun 75 = .ok (.ireturn, 1) := by decide +kernel
theorem dX5_ofRun_76 : decode cX5_ofRun 76 = .ok (.bipush (-2), 2) := by decide +kernel
theorem dX5_ofRun_78 : decode cX5_ofRun 78 = .ok (.ireturn, 1) := by decide +kernel
theorem dX5_whole_0 : decode cX5_whole 0 = .ok (.iload_n 1, 1) := by decide +kernel
theorem dX5_whole_1 : decode cX5_whole 1 = .ok (.iconst 0, 1) := by decide +kernel
theorem dX5_whole_2 : decode cX5_whole 2 = .ok (.iconst 4, 1) := by decide +kernel
theorem dX5_whole_3 : decode cX5_whole 3 = .ok (.invokestatic 43, 3) := by decide +kernel
theorem dX5_whole_6 : decode cX5_whole 6 = .ok (.ifCond .ne 6, 3) := by decide +kernel
theorem dX5_whole_9 : decode cX5_whole 9 = .ok (.bipush (-2), 2) := by decide +kernel
theorem dX5_whole_11 : decode cX5_whole 11 = .ok (.ireturn, 1) := by decide +kernel
theorem dX5_whole_12 : decode cX5_whole 12 = .ok (.aload_n 0, 1) := by decide +kernel
theorem dX5_whole_13 : decode cX5_whole 13 = .ok (.getfield 12, 3) := by decide +kernel
theorem dX5_whole_16 : decode cX5_whole 16 = .ok (.getfield 71, 3) := by decide +kernel
theorem dX5_whole_19 : decode cX5_whole 19 = .ok (.ifCond .ne 6, 3) := by decide +kernel
theorem dX5_whole_22 : decode cX5_whole 22 = .ok (.bipush (-3), 2) := by decide +kernel
theorem dX5_whole_24 : decode cX5_whole 24 = .ok (.ireturn, 1) := by decide +kernel
theorem dX5_whole_25 : decode cX5_whole 25 = .ok (.iload_n 1, 1) := by decide +kernel
theorem dX5_whole_26 : decode cX5_whole 26 = .ok (.tableswitch 62 0 3 #[30, 38, 46, 54], 30) := by decide +kernel
theorem dX5_whole_56 : decode cX5_whole 56 = .ok (.aload_n 0, 1) := by decide +kernel
theorem dX5_whole_57 : decode cX5_whole 57 = .ok (.getfield 12, 3) := by decide +kernel
theorem dX5_whole_60 : decode cX5_whole 60 = .ok (.invokevirtual 167, 3) := by decide +kernel
theorem dX5_whole_63 : decode cX5_whole 63 = .ok (.ireturn, 1) := by decide +kernel
theorem dX5_whole_64 : decode cX5_whole 64 = .ok (.aload_n 0, 1) := by decide +kernel
theorem dX5_whole_65 : decode cX5_whole 65 = .ok (.getfield 12, 3) := by decide +kernel
theorem dX5_whole_68 : decode cX5_whole 68 = .ok (.invokevirtual 170, 3) := by decide +kernel
theorem dX5_whole_71 : decode cX5_whole 71 = .ok (.ireturn, 1) := by decide +kernel
theorem dX5_whole_72 : decode cX5_whole 72 = .ok (.aload_n 0, 1) := by decide +kernel
theorem dX5_whole_73 : decode cX5_whole 73 = .ok (.getfield 12, 3) := by decide +kernel
theorem dX5_whole_76 : decode cX5_whole 76 = .ok (.invokevirtual 173, 3) := by decide +kernel
theorem dX5_whole_79 : decode cX5_whole 79 = .ok (.ireturn, 1) := by decide +kernel
theorem dX5_whole_80 : decode cX5_whole 80 = .ok (.aload_n 0, 1) := by decide +kernel
theorem dX5_whole_81 : decode cX5_whole 81 = .ok (.getfield 12, 3) := by decide +kernel
theorem dX5_whole_84 : decode cX5_whole 84 = .ok (.invokevirtual 176, 3) := by decide +kernel
theorem dX5_whole_87 : decode cX5_whole 87 = .ok (.ireturn, 1) := by decide +kernel
theorem dX5_whole_88 : decode cX5_whole 88 = .ok (.aload_n 0, 1) := by decide +kernel
theorem dX5_whole_89 : decode cX5_whole 89 = .ok (.getfield 12, 3) := by decide +kernel
theorem dX5_whole_92 : decode cX5_whole 92 = .ok (.invokevirtual 179, 3) := by decide +kernel
theorem dX5_whole_95 : decode cX5_whole 95 = .ok (.ireturn, 1) := by decide +kernel
theorem dX5_reading_0 : decode cX5_reading 0 = .ok (.aload_n 0, 1) := by decide +kernel
theorem dX5_reading_1 : decode cX5_reading 1 = .ok (.getfield 12, 3) := by decide +kernel
theorem dX5_reading_4 : decode cX5_reading 4 = .ok (.getfield 71, 3) := by decide +kernel
theorem dX5_reading_7 : decode cX5_reading 7 = .ok (.ifCond .ne 6, 3) := by decide +kernel
theorem dX5_reading_10 : decode cX5_reading 10 = .ok (.bipush (-3), 2) := by decide +kernel
theorem dX5_reading_12 : decode cX5_reading 12 = .ok (.ireturn, 1) := by decide +kernel
theorem dX5_reading_13 : decode cX5_reading 13 = .ok (.iload_n 1, 1) := by decide +kernel
theorem dX5_reading_14 : decode cX5_reading 14 = .ok (.invokestatic 122, 3) := by decide +kernel
theorem dX5_reading_17 : decode cX5_reading 17 = .ok (.ifCond .ne 6, 3) := by decide +kernel
theorem dX5_reading_20 : decode cX5_reading 20 = .ok (.bipush (-2), 2) := by decide +kernel
theorem dX5_reading_22 : decode cX5_reading 22 = .ok (.ireturn, 1) := by decide +kernel
theorem dX5_reading_23 : decode cX5_reading 23 = .ok (.iload_n 2, 1) := by decide +kernel
theorem dX5_reading_24 : decode cX5_reading 24 = .ok (.iconst 0, 1) := by decide +kernel
theorem dX5_reading_25 : decode cX5_reading 25 = .ok (.sipush 200, 3) := by decide +kernel
theorem dX5_reading_28 : decode cX5_reading 28 = .ok (.invokestatic 43, 3) := by decide +kernel
theorem dX5_reading_31 : decode cX5_reading 31 = .ok (.ifCond .ne 12, 3) := by decide +kernel
theorem dX5_reading_34 : decode cX5_reading 34 = .ok (.iload_n 2, 1) := by decide +kernel
theorem dX5_reading_35 : decode cX5_reading 35 = .ok (.bipush (-9), 2) := by decide +kernel
theorem dX5_reading_37 : decode cX5_reading 37 = .ok (.if_icmp .eq 6, 3) := by decide +kernel
theorem dX5_reading_40 : decode cX5_reading 40 = .ok (.bipush (-2), 2) := by decide +kernel
theorem dX5_reading_42 : decode cX5_reading 42 = .ok (.ireturn, 1) := by decide +kernel
theorem dX5_reading_43 : decode cX5_reading 43 = .ok (.aload_n 0, 1) := by decide +kernel
theorem dX5_reading_44 : decode cX5_reading 44 = .ok (.getfield 68, 3) := by decide +kernel
theorem dX5_reading_47 : decode cX5_reading 47 = .ok (.bipush 8, 2) := by decide +kernel
theorem dX5_reading_49 : decode cX5_reading 49 = .ok (.if_icmp .lt 6, 3) := by decide +kernel
theorem dX5_reading_52 : decode cX5_reading 52 = .ok (.bipush (-4), 2) := by decide +kernel
theorem dX5_reading_54 : decode cX5_reading 54 = .ok (.ireturn, 1) := by decide +kernel
theorem dX5_reading_55 : decode cX5_reading 55 = .ok (.aload_n 0, 1) := by decide +kernel
theorem dX5_reading_56 : decode cX5_reading 56 = .ok (.getfield 68, 3) := by decide +kernel
theorem dX5_reading_59 : decode cX5_reading 59 = .ok (.istore_n 3, 1) := by decide +kernel
theorem dX5_reading_60 : decode cX5_reading 60 = .ok (.aload_n 0, 1) := by decide +kernel
theorem dX5_reading_61 : decode cX5_reading 61 = .ok (.getfield 27, 3) := by decide +kernel
theorem dX5_reading_64 : decode cX5_reading 64 = .ok (.iload_n 3, 1) := by decide +kernel
theorem dX5_reading_65 : decode cX5_reading 65 = .ok (.iload_n 1, 1) := by decide +kernel
theorem dX5_reading_66 : decode cX5_reading 66 = .ok (.iastore, 1) := by decide +kernel
theorem dX5_reading_67 : decode cX5_reading 67 = .ok (.aload_n 0, 1) := by decide +kernel
theorem dX5_reading_68 : decode cX5_reading 68 = .ok (.getfield 31, 3) := by decide +kernel
theorem dX5_reading_71 : decode cX5_reading 71 = .ok (.iload_n 3, 1) := by decide +kernel
theorem dX5_reading_72 : decode cX5_reading 72 = .ok (.iload_n 2, 1) := by decide +kernel
theorem dX5_reading_73 : decode cX5_reading 73 = .ok (.iastore, 1) := by decide +kernel
theorem dX5_reading_74 : decode cX5_reading 74 = .ok (.aload_n 0, 1) := by decide +kernel
theorem dX5_reading_75 : decode cX5_reading 75 = .ok (.iload_n 3, 1) := by decide +kernel
theorem dX5_reading_76 : decode cX5_reading 76 = .ok (.iconst 1, 1) := by decide +kernel
theorem dX5_reading_77 : decode cX5_reading 77 = .ok (.iadd, 1) := by decide +kernel
theorem dX5_reading_78 : decode cX5_reading 78 = .ok (.putfield 68, 3) := by decide +kernel
theorem dX5_reading_81 : decode cX5_reading 81 = .ok (.iload_n 3, 1) := by decide +kernel
theorem dX5_reading_82 : decode cX5_reading 82 = .ok (.ireturn, 1) := by decide +kernel
theorem dX5_back_0 : decode cX5_back 0 = .ok (.iload_n 1, 1) := by decide +kernel
theorem dX5_back_1 : decode cX5_back 1 = .ok (.iconst 0, 1) := by decide +kernel
theorem dX5_back_2 : decode cX5_back 2 = .ok (.aload_n 0, 1) := by decide +kernel
theorem dX5_back_3 : decode cX5_back 3 = .ok (.getfield 68, 3) := by decide +kernel
theorem dX5_back_6 : decode cX5_back 6 = .ok (.invokestatic 43, 3) := by decide +kernel
theorem dX5_back_9 : decode cX5_back 9 = .ok (.ifCond .ne 6, 3) := by decide +kernel
theorem dX5_back_12 : decode cX5_back 12 = .ok (.bipush (-2), 2) := by decide +kernel
theorem dX5_back_14 : decode cX5_back 14 = .ok (.ireturn, 1) := by decide +kernel
theorem dX5_back_15 : decode cX5_back 15 = .ok (.aload_n 0, 1) := by decide +kernel
theorem dX5_back_16 : decode cX5_back 16 = .ok (.dup, 1) := by decide +kernel
theorem dX5_back_17 : decode cX5_back 17 = .ok (.getfield 68, 3) := by decide +kernel
theorem dX5_back_20 : decode cX5_back 20 = .ok (.iload_n 1, 1) := by decide +kernel
theorem dX5_back_21 : decode cX5_back 21 = .ok (.isub, 1) := by decide +kernel
theorem dX5_back_22 : decode cX5_back 22 = .ok (.putfield 68, 3) := by decide +kernel
theorem dX5_back_25 : decode cX5_back 25 = .ok (.aload_n 0, 1) := by decide +kernel
theorem dX5_back_26 : decode cX5_back 26 = .ok (.getfield 68, 3) := by decide +kernel
theorem dX5_back_29 : decode cX5_back 29 = .ok (.ireturn, 1) := by decide +kernel
theorem dX5_kinds_0 : decode cX5_kinds 0 = .ok (.aload_n 0, 1) := by decide +kernel
theorem dX5_kinds_1 : decode cX5_kinds 1 = .ok (.getfield 12, 3) := by decide +kernel
theorem dX5_kinds_4 : decode cX5_kinds 4 = .ok (.iload_n 1, 1) := by decide +kernel
theorem dX5_kinds_5 : decode cX5_kinds 5 = .ok (.invokevirtual 74, 3) := by decide +kernel
theorem dX5_kinds_8 : decode cX5_kinds 8 = .ok (.ifCond .ne 5, 3) := by decide +kernel
theorem dX5_kinds_11 : decode cX5_kinds 11 = .ok (.iconst (-1), 1) := by decide +kernel
theorem dX5_kinds_12 : decode cX5_kinds 12 = .ok (.ireturn, 1) := by decide +kernel
theorem dX5_kinds_13 : decode cX5_kinds 13 = .ok (.aload_n 0, 1) := by decide +kernel
theorem dX5_kinds_14 : decode cX5_kinds 14 = .ok (.getfield 12, 3) := by decide +kernel
theorem dX5_kinds_17 : decode cX5_kinds 17 = .ok (.getfield 77, 3) := by decide +kernel
theorem dX5_kinds_20 : decode cX5_kinds 20 = .ok (.iload_n 1, 1) := by decide +kernel
theorem dX5_kinds_21 : decode cX5_kinds 21 = .ok (.aaload, 1) := by decide +kernel
theorem dX5_kinds_22 : decode cX5_kinds 22 = .ok (.astore_n 2, 1) := by decide +kernel
theorem dX5_kinds_23 : decode cX5_kinds 23 = .ok (.aload_n 2, 1) := by decide +kernel
theorem dX5_kinds_24 : decode cX5_kinds 24 = .ok (.getfield 81, 3) := by decide +kernel
theorem dX5_kinds_27 : decode cX5_kinds 27 = .ok (.istore_n 3, 1) := by decide +kernel
theorem dX5_kinds_28 : decode cX5_kinds 28 = .ok (.iconst 0, 1) := by decide +kernel
theorem dX5_kinds_29 : decode cX5_kinds 29 = .ok (.istore 4, 2) := by decide +kernel
theorem dX5_kinds_31 : decode cX5_kinds 31 = .ok (.iconst 0, 1) := by decide +kernel
theorem dX5_kinds_32 : decode cX5_kinds 32 = .ok (.istore 5, 2) := by decide +kernel
theorem dX5_kinds_34 : decode cX5_kinds 34 = .ok (.iload 5, 2) := by decide +kernel
theorem dX5_kinds_36 : decode cX5_kinds 36 = .ok (.iconst 2, 1) := by decide +kernel
theorem dX5_kinds_37 : decode cX5_kinds 37 = .ok (.if_icmp .gt 31, 3) := by decide +kernel
theorem dX5_kinds_40 : decode cX5_kinds 40 = .ok (.aload_n 2, 1) := by decide +kernel
theorem dX5_kinds_41 : decode cX5_kinds 41 = .ok (.iload 5, 2) := by decide +kernel
theorem dX5_kinds_43 : decode cX5_kinds 43 = .ok (.putfield 81, 3) := by decide +kernel
theorem dX5_kinds_46 : decode cX5_kinds 46 = .ok (.aload_n 0, 1) := by decide +kernel
theorem dX5_kinds_47 : decode cX5_kinds 47 = .ok (.invokevirtual 182, 3) := by decide +kernel
theorem dX5_kinds_50 : decode cX5_kinds 50 = .ok (.ifCond .eq 12, 3) := by decide +kernel
theorem dX5_kinds_53 : decode cX5_kinds 53 = .ok (.iload 4, 2) := by decide +kernel
theorem dX5_kinds_55 : decode cX5_kinds 55 = .ok (.iconst 1, 1) := by decide +kernel
theorem dX5_kinds_56 : decode cX5_kinds 56 = .ok (.iload 5, 2) := by decide +kernel
theorem dX5_kinds_58 : decode cX5_kinds 58 = .ok (.ishl, 1) := by decide +kernel
theorem dX5_kinds_59 : decode cX5_kinds 59 = .ok (.ior, 1) := by decide +kernel
theorem dX5_kinds_60 : decode cX5_kinds 60 = .ok (.istore 4, 2) := by decide +kernel
theorem dX5_kinds_62 : decode cX5_kinds 62 = .ok (.iinc 5 1, 3) := by decide +kernel
theorem dX5_kinds_65 : decode cX5_kinds 65 = .ok (.goto (-31), 3) := by decide +kernel
theorem dX5_kinds_68 : decode cX5_kinds 68 = .ok (.aload_n 2, 1) := by decide +kernel
theorem dX5_kinds_69 : decode cX5_kinds 69 = .ok (.iload_n 3, 1) := by decide +kernel
theorem dX5_kinds_70 : decode cX5_kinds 70 = .ok (.putfield 81, 3) := by decide +kernel
theorem dX5_kinds_73 : decode cX5_kinds 73 = .ok (.iload 4, 2) := by decide +kernel
theorem dX5_kinds_75 : decode cX5_kinds 75 = .ok (.ireturn, 1) := by decide +kernel
theorem dX5_numbers_0 : decode cX5_numbers 0 = .ok (.aload_n 0, 1) := by decide +kernel
theorem dX5_numbers_1 : decode cX5_numbers 1 = .ok (.getfield 12, 3) := by decide +kernel
theorem dX5_numbers_4 : decode cX5_numbers 4 = .ok (.iload_n 1, 1) := by decide +kernel
theorem dX5_numbers_5 : decode cX5_numbers 5 = .ok (.invokevirtual 74, 3) := by decide +kernel
theorem dX5_numbers_8 : decode cX5_numbers 8 = .ok (.ifCond .ne 5, 3) := by decide +kernel
theorem dX5_numbers_11 : decode cX5_numbers 11 = .ok (.iconst (-1), 1) := by decide +kernel
theorem dX5_numbers_12 : decode cX5_numbers 12 = .ok (.ireturn, 1) := by decide +kernel
theorem dX5_numbers_13 : decode cX5_numbers 13 = .ok (.aload_n 0, 1) := by decide +kernel
theorem dX5_numbers_14 : decode cX5_numbers 14 = .ok (.getfield 12, 3) := by decide +kernel
theorem dX5_numbers_17 : decode cX5_numbers 17 = .ok (.getfield 77, 3) := by decide +kernel
theorem dX5_numbers_20 : decode cX5_numbers 20 = .ok (.iload_n 1, 1) := by decide +kernel
theorem dX5_numbers_21 : decode cX5_numbers 21 = .ok (.aaload, 1) := by decide +kernel
theorem dX5_numbers_22 : decode cX5_numbers 22 = .ok (.astore_n 2, 1) := by decide +kernel
theorem dX5_numbers_23 : decode cX5_numbers 23 = .ok (.aload_n 2, 1) := by decide +kernel
theorem dX5_numbers_24 : decode cX5_numbers 24 = .ok (.getfield 89, 3) := by decide +kernel
theorem dX5_numbers_27 : decode cX5_numbers 27 = .ok (.istore_n 3, 1) := by decide +kernel
theorem dX5_numbers_28 : decode cX5_numbers 28 = .ok (.iconst 0, 1) := by decide +kernel
theorem dX5_numbers_29 : decode cX5_numbers 29 = .ok (.istore 4, 2) := by decide +kernel
theorem dX5_numbers_31 : decode cX5_numbers 31 = .ok (.iconst 1, 1) := by decide +kernel
theorem dX5_numbers_32 : decode cX5_numbers 32 = .ok (.istore 5, 2) := by decide +kernel
theorem dX5_numbers_34 : decode cX5_numbers 34 = .ok (.iload 5, 2) := by decide +kernel
theorem dX5_numbers_36 : decode cX5_numbers 36 = .ok (.bipush 9, 2) := by decide +kernel
theorem dX5_numbers_38 : decode cX5_numbers 38 = .ok (.if_icmp .gt 31, 3) := by decide +kernel
theorem dX5_numbers_41 : decode cX5_numbers 41 = .ok (.aload_n 2, 1) := by decide +kernel
theorem dX5_numbers_42 : decode cX5_numbers 42 = .ok (.iload 5, 2) := by decide +kernel
theorem dX5_numbers_44 : decode cX5_numbers 44 = .ok (.putfield 89, 3) := by decide +kernel
theorem dX5_numbers_47 : decode cX5_numbers 47 = .ok (.aload_n 0, 1) := by decide +kernel
theorem dX5_numbers_48 : decode cX5_numbers 48 = .ok (.invokevirtual 182, 3) := by decide +kernel
theorem dX5_numbers_51 : decode cX5_numbers 51 = .ok (.ifCond .eq 12, 3) := by decide +kernel
theorem dX5_numbers_54 : decode cX5_numbers 54 = .ok (.iload 4, 2) := by decide +kernel
theorem dX5_numbers_56 : decode cX5_numbers 56 = .ok (.iconst 1, 1) := by decide +kernel
theorem dX5_numbers_57 : decode cX5_numbers 57 = .ok (.iload 5, 2) := by decide +kernel
theorem dX5_numbers_59 : decode cX5_numbers 59 = .ok (.ishl, 1) := by decide +kernel
theorem dX5_numbers_60 : decode cX5_numbers 60 = .ok (.ior, 1) := by decide +kernel
theorem dX5_numbers_61 : decode cX5_numbers 61 = .ok (.istore 4, 2) := by decide +kernel
theorem dX5_numbers_63 : decode cX5_numbers 63 = .ok (.iinc 5 1, 3) := by decide +kernel
theorem dX5_numbers_66 : decode cX5_numbers 66 = .ok (.goto (-32), 3) := by decide +kernel
theorem dX5_numbers_69 : decode cX5_numbers 69 = .ok (.aload_n 2, 1) := by decide +kernel
theorem dX5_numbers_70 : decode cX5_numbers 70 = .ok (.iload_n 3, 1) := by decide +kernel
theorem dX5_numbers_71 : decode cX5_numbers 71 = .ok (.putfield 89, 3) := by decide +kernel
theorem dX5_numbers_74 : decode cX5_numbers 74 = .ok (.iload 4, 2) := by decide +kernel
theorem dX5_numbers_76 : decode cX5_numbers 76 = .ok (.ireturn, 1) := by decide +kernel
theorem dX5_odds_0 : decode cX5_odds 0 = .ok (.iload_n 1, 1) := by decide +kernel
theorem dX5_odds_1 : decode cX5_odds 1 = .ok (.iconst 0, 1) := by decide +kernel
theorem dX5_odds_2 : decode cX5_odds 2 = .ok (.sipush 200, 3) := by decide +kernel
theorem dX5_odds_5 : decode cX5_odds 5 = .ok (.invokestatic 43, 3) := by decide +kernel
theorem dX5_odds_8 : decode cX5_odds 8 = .ok (.ifCond .eq 12, 3) := by decide +kernel
theorem dX5_odds_11 : decode cX5_odds 11 = .ok (.iload_n 2, 1) := by decide +kernel
theorem dX5_odds_12 : decode cX5_odds 12 = .ok (.iconst 0, 1) := by decide +kernel
theorem dX5_odds_13 : decode cX5_odds 13 = .ok (.iconst 1, 1) := by decide +kernel
theorem dX5_odds_14 : decode cX5_odds 14 = .ok (.invokestatic 43, 3) := by decide +kernel
theorem dX5_odds_17 : decode cX5_odds 17 = .ok (.ifCond .ne 7, 3) := by decide +kernel
theorem dX5_odds_20 : decode cX5_odds 20 = .ok (.ldc2_w 186, 3) := by decide +kernel
theorem dX5_odds_23 : decode cX5_odds 23 = .ok (.lreturn, 1) := by decide +kernel
theorem dX5_odds_24 : decode cX5_odds 24 = .ok (.aload_n 0, 1) := by decide +kernel
theorem dX5_odds_25 : decode cX5_odds 25 = .ok (.getfield 12, 3) := by decide +kernel
theorem dX5_odds_28 : decode cX5_odds 28 = .ok (.getfield 71, 3) := by decide +kernel
theorem dX5_odds_31 : decode cX5_odds 31 = .ok (.ifCond .ne 7, 3) := by decide +kernel
theorem dX5_odds_34 : decode cX5_odds 34 = .ok (.ldc2_w 186, 3) := by decide +kernel
theorem dX5_odds_37 : decode cX5_odds 37 = .ok (.lreturn, 1) := by decide +kernel
theorem dX5_odds_38 : decode cX5_odds 38 = .ok (.aload_n 0, 1) := by decide +kernel
theorem dX5_odds_39 : decode cX5_odds 39 = .ok (.getfield 12, 3) := by decide +kernel
theorem dX5_odds_42 : decode cX5_odds 42 = .ok (.iload_n 1, 1) := by decide +kernel
theorem dX5_odds_43 : decode cX5_odds 43 = .ok (.invokevirtual 188, 3) := by decide +kernel
theorem dX5_odds_46 : decode cX5_odds 46 = .ok (.istore_n 3, 1) := by decide +kernel
theorem dX5_odds_47 : decode cX5_odds 47 = .ok (.iload_n 3, 1) := by decide +kernel
theorem dX5_odds_48 : decode cX5_odds 48 = .ok (.bipush 26, 2) := by decide +kernel
theorem dX5_odds_50 : decode cX5_odds 50 = .ok (.invokestatic 191, 3) := by decide +kernel
theorem dX5_odds_53 : decode cX5_odds 53 = .ok (.istore 4, 2) := by decide +kernel
theorem dX5_odds_55 : decode cX5_odds 55 = .ok (.iload_n 2, 1) := by decide +kernel
theorem dX5_odds_56 : decode cX5_odds 56 = .ok (.ifCond .ne 11, 3) := by decide +kernel
theorem dX5_odds_59 : decode cX5_odds 59 = .ok (.iload_n 3, 1) := by decide +kernel
theorem dX5_odds_60 : decode cX5_odds 60 = .ok (.iload 4, 2) := by decide +kernel
theorem dX5_odds_62 : decode cX5_odds 62 = .ok (.idiv, 1) := by decide +kernel
theorem dX5_odds_63 : decode cX5_odds 63 = .ok (.i2l, 1) := by decide +kernel
theorem dX5_odds_64 : decode cX5_odds 64 = .ok (.goto 9, 3) := by decide +kernel
theorem dX5_odds_67 : decode cX5_odds 67 = .ok (.bipush 26, 2) := by decide +kernel
theorem dX5_odds_69 : decode cX5_odds 69 = .ok (.iload 4, 2) := by decide +kernel
theorem dX5_odds_71 : decode cX5_odds 71 = .ok (.idiv, 1) := by decide +kernel
theorem dX5_odds_72 : decode cX5_odds 72 = .ok (.i2l, 1) := by decide +kernel
theorem dX5_odds_73 : decode cX5_odds 73 = .ok (.lreturn, 1) := by decide +kernel
theorem dX5_sheet_0 : decode cX5_sheet 0 = .ok (.aload_n 0, 1) := by decide +kernel
theorem dX5_sheet_1 : decode cX5_sheet 1 = .ok (.iconst 0, 1) := by decide +kernel
theorem dX5_sheet_2 : decode cX5_sheet 2 = .ok (.putfield 35, 3) := by decide +kernel
theorem dX5_sheet_5 : decode cX5_sheet 5 = .ok (.iload_n 1, 1) := by decide +kernel
theorem dX5_sheet_6 : decode cX5_sheet 6 = .ok (.invokestatic 39, 3) := by decide +kernel
theorem dX5_sheet_9 : decode cX5_sheet 9 = .ok (.ifCond .ne 5, 3) := by decide +kernel
theorem dX5_sheet_12 : decode cX5_sheet 12 = .ok (.iconst (-1), 1) := by decide +kernel
theorem dX5_sheet_13 : decode cX5_sheet 13 = .ok (.ireturn, 1) := by decide +kernel
theorem dX5_sheet_14 : decode cX5_sheet 14 = .ok (.iload_n 2, 1) := by decide +kernel
theorem dX5_sheet_15 : decode cX5_sheet 15 = .ok (.iconst 0, 1) := by decide +kernel
theorem dX5_sheet_16 : decode cX5_sheet 16 = .ok (.iconst 2, 1) := by decide +kernel
theorem dX5_sheet_17 : decode cX5_sheet 17 = .ok (.invokestatic 43, 3) := by decide +kernel
theorem dX5_sheet_20 : decode cX5_sheet 20 = .ok (.ifCond .eq 9, 3) := by decide +kernel
theorem dX5_sheet_23 : decode cX5_sheet 23 = .ok (.iload_n 3, 1) := by decide +kernel
theorem dX5_sheet_24 : decode cX5_sheet 24 = .ok (.bipush 60, 2) := by decide +kernel
theorem dX5_sheet_26 : decode cX5_sheet 26 = .ok (.if_icmp .le 6, 3) := by decide +kernel
theorem dX5_sheet_29 : decode cX5_sheet 29 = .ok (.bipush (-2), 2) := by decide +kernel
theorem dX5_sheet_31 : decode cX5_sheet 31 = .ok (.ireturn, 1) := by decide +kernel
theorem dX5_sheet_32 : decode cX5_sheet 32 = .ok (.iload_n 3, 1) := by decide +kernel
theorem dX5_sheet_33 : decode cX5_sheet 33 = .ok (.ifCond .ge 9, 3) := by decide +kernel
theorem dX5_sheet_36 : decode cX5_sheet 36 = .ok (.aload_n 0, 1) := by decide +kernel
theorem dX5_sheet_37 : decode cX5_sheet 37 = .ok (.iconst 4, 1) := by decide +kernel
theorem dX5_sheet_38 : decode cX5_sheet 38 = .ok (.invokevirtual 51, 3) := by decide +kernel
theorem dX5_sheet_41 : decode cX5_sheet 41 = .ok (.ireturn, 1) := by decide +kernel
theorem dX5_sheet_42 : decode cX5_sheet 42 = .ok (.aload_n 0, 1) := by decide +kernel
theorem dX5_sheet_43 : decode cX5_sheet 43 = .ok (.getfield 23, 3) := by decide +kernel
theorem dX5_sheet_46 : decode cX5_sheet 46 = .ok (.iload_n 1, 1) := by decide +kernel
theorem dX5_sheet_47 : decode cX5_sheet 47 = .ok (.aaload, 1) := by decide +kernel
theorem dX5_sheet_48 : decode cX5_sheet 48 = .ok (.iload_n 2, 1) := by decide +kernel
theorem dX5_sheet_49 : decode cX5_sheet 49 = .ok (.iload_n 3, 1) := by decide +kernel
theorem dX5_sheet_50 : decode cX5_sheet 50 = .ok (.invokevirtual 195, 3) := by decide +kernel
theorem dX5_sheet_53 : decode cX5_sheet 53 = .ok (.iconst 1, 1) := by decide +kernel
theorem dX5_sheet_54 : decode cX5_sheet 54 = .ok (.ireturn, 1) := by decide +kernel
theorem dX5_lose_0 : decode cX5_lose 0 = .ok (.iload_n 1, 1) := by decide +kernel
theorem dX5_lose_1 : decode cX5_lose 1 = .ok (.invokestatic 39, 3) := by decide +kernel
theorem dX5_lose_4 : decode cX5_lose 4 = .ok (.ifCond .ne 5, 3) := by decide +kernel
theorem dX5_lose_7 : decode cX5_lose 7 = .ok (.iconst (-1), 1) := by decide +kernel
theorem dX5_lose_8 : decode cX5_lose 8 = .ok (.ireturn, 1) := by decide +kernel
theorem dX5_lose_9 : decode cX5_lose 9 = .ok (.aload_n 0, 1) := by decide +kernel
theorem dX5_lose_10 : decode cX5_lose 10 = .ok (.getfield 23, 3) := by decide +kernel
theorem dX5_lose_13 : decode cX5_lose 13 = .ok (.iload_n 1, 1) := by decide +kernel
theorem dX5_lose_14 : decode cX5_lose 14 = .ok (.aaload, 1) := by decide +kernel
theorem dX5_lose_15 : decode cX5_lose 15 = .ok (.invokevirtual 199, 3) := by decide +kernel
theorem dX5_lose_18 : decode cX5_lose 18 = .ok (.ifCond .eq 7, 3) := by decide +kernel
theorem dX5_lose_21 : decode cX5_lose 21 = .ok (.iconst 0, 1) := by decide +kernel
theorem dX5_lose_22 : decode cX5_lose 22 = .ok (.goto 4, 3) := by decide +kernel
theorem dX5_lose_25 : decode cX5_lose 25 = .ok (.iconst 1, 1) := by decide +kernel
theorem dX5_lose_26 : decode cX5_lose 26 = .ok (.istore_n 2, 1) := by decide +kernel
theorem dX5_lose_27 : decode cX5_lose 27 = .ok (.aload_n 0, 1) := by decide +kernel
theorem dX5_lose_28 : decode cX5_lose 28 = .ok (.getfield 23, 3) := by decide +kernel
theorem dX5_lose_31 : decode cX5_lose 31 = .ok (.iload_n 1, 1) := by decide +kernel
theorem dX5_lose_32 : decode cX5_lose 32 = .ok (.aaload, 1) := by decide +kernel
theorem dX5_lose_33 : decode cX5_lose 33 = .ok (.invokevirtual 202, 3) := by decide +kernel
theorem dX5_lose_36 : decode cX5_lose 36 = .ok (.iload_n 2, 1) := by decide +kernel
theorem dX5_lose_37 : decode cX5_lose 37 = .ok (.ireturn, 1) := by decide +kernel
theorem dX5_put_0 : decode cX5_put 0 = .ok (.aload_n 0, 1) := by decide +kernel
theorem dX5_put_1 : decode cX5_put 1 = .ok (.iconst 0, 1) := by decide +kernel
theorem dX5_put_2 : decode cX5_put 2 = .ok (.putfield 35, 3) := by decide +kernel
theorem dX5_put_5 : decode cX5_put 5 = .ok (.iload_n 1, 1) := by decide +kernel
theorem dX5_put_6 : decode cX5_put 6 = .ok (.invokestatic 39, 3) := by decide +kernel
theorem dX5_put_9 : decode cX5_put 9 = .ok (.ifCond .ne 5, 3) := by decide +kernel
theorem dX5_put_12 : decode cX5_put 12 = .ok (.iconst (-1), 1) := by decide +kernel
theorem dX5_put_13 : decode cX5_put 13 = .ok (.ireturn, 1) := by decide +kernel
theorem dX5_put_14 : decode cX5_put 14 = .ok (.aload_n 0, 1) := by decide +kernel
theorem dX5_put_15 : decode cX5_put 15 = .ok (.getfield 23, 3) := by decide +kernel
theorem dX5_put_18 : decode cX5_put 18 = .ok (.iload_n 1, 1) := by decide +kernel
theorem dX5_put_19 : decode cX5_put 19 = .ok (.aaload, 1) := by decide +kernel
theorem dX5_put_20 : decode cX5_put 20 = .ok (.astore 4, 2) := by decide +kernel
theorem dX5_put_22 : decode cX5_put 22 = .ok (.aload 4, 2) := by decide +kernel
theorem dX5_put_24 : decode cX5_put 24 = .ok (.invokevirtual 199, 3) := by decide +kernel
theorem dX5_put_27 : decode cX5_put 27 = .ok (.ifCond .eq 9, 3) := by decide +kernel
theorem dX5_put_30 : decode cX5_put 30 = .ok (.aload_n 0, 1) := by decide +kernel
theorem dX5_put_31 : decode cX5_put 31 = .ok (.iconst 1, 1) := by decide +kernel
theorem dX5_put_32 : decode cX5_put 32 = .ok (.invokevirtual 51, 3) := by decide +kernel
theorem dX5_put_35 : decode cX5_put 35 = .ok (.ireturn, 1) := by decide +kernel
theorem dX5_put_36 : decode cX5_put 36 = .ok (.aload 4, 2) := by decide +kernel
theorem dX5_put_38 : decode cX5_put 38 = .ok (.iload_n 2, 1) := by decide +kernel
theorem dX5_put_39 : decode cX5_put 39 = .ok (.iconst 1, 1) := by decide +kernel
theorem dX5_put_40 : decode cX5_put 40 = .ok (.invokevirtual 54, 3) := by decide +kernel
theorem dX5_put_43 : decode cX5_put 43 = .ok (.ifCond .ne 9, 3) := by decide +kernel
theorem dX5_put_46 : decode cX5_put 46 = .ok (.aload_n 0, 1) := by decide +kernel
theorem dX5_put_47 : decode cX5_put 47 = .ok (.iconst 3, 1) := by decide +kernel
theorem dX5_put_48 : decode cX5_put 48 = .ok (.invokevirtual 51, 3) := by decide +kernel
theorem dX5_put_51 : decode cX5_put 51 = .ok (.ireturn, 1) := by decide +kernel
theorem dX5_put_52 : decode cX5_put 52 = .ok (.aload 4, 2) := by decide +kernel
theorem dX5_put_54 : decode cX5_put 54 = .ok (.iload_n 2, 1) := by decide +kernel
theorem dX5_put_55 : decode cX5_put 55 = .ok (.iload_n 3, 1) := by decide +kernel
theorem dX5_put_56 : decode cX5_put 56 = .ok (.invokevirtual 205, 3) := by decide +kernel
theorem dX5_put_59 : decode cX5_put 59 = .ok (.iconst 1, 1) := by decide +kernel
theorem dX5_put_60 : decode cX5_put 60 = .ok (.ireturn, 1) := by decide +kernel
theorem dX5_cell_0 : decode cX5_cell 0 = .ok (.aload_n 0, 1) := by decide +kernel
theorem dX5_cell_1 : decode cX5_cell 1 = .ok (.iconst 0, 1) := by decide +kernel
theorem dX5_cell_2 : decode cX5_cell 2 = .ok (.putfield 35, 3) := by decide +kernel
theorem dX5_cell_5 : decode cX5_cell 5 = .ok (.iload_n 1, 1) := by decide +kernel
theorem dX5_cell_6 : decode cX5_cell 6 = .ok (.invokestatic 39, 3) := by decide +kernel
theorem dX5_cell_9 : decode cX5_cell 9 = .ok (.ifCond .eq 12, 3) := by decide +kernel
theorem dX5_cell_12 : decode cX5_cell 12 = .ok (.iload_n 3, 1) := by decide +kernel
theorem dX5_cell_13 : decode cX5_cell 13 = .ok (.iconst 0, 1) := by decide +kernel
theorem dX5_cell_14 : decode cX5_cell 14 = .ok (.iconst 2, 1) := by decide +kernel
theorem dX5_cell_15 : decode cX5_cell 15 = .ok (.invokestatic 43, 3) := by decide +kernel
theorem dX5_cell_18 : decode cX5_cell 18 = .ok (.ifCond .ne 7, 3) := by decide +kernel
theorem dX5_cell_21 : decode cX5_cell 21 = .ok (.ldc2_w 186, 3) := by decide +kernel
theorem dX5_cell_24 : decode cX5_cell 24 = .ok (.lreturn, 1) := by decide +kernel
theorem dX5_cell_25 : decode cX5_cell 25 = .ok (.aload_n 0, 1) := by decide +kernel
theorem dX5_cell_26 : decode cX5_cell 26 = .ok (.getfield 23, 3) := by decide +kernel
theorem dX5_cell_29 : decode cX5_cell 29 = .ok (.iload_n 1, 1) := by decide +kernel
theorem dX5_cell_30 : decode cX5_cell 30 = .ok (.aaload, 1) := by decide +kernel
theorem dX5_cell_31 : decode cX5_cell 31 = .ok (.astore 4, 2) := by decide +kernel
theorem dX5_cell_33 : decode cX5_cell 33 = .ok (.aload_n 0, 1) := by decide +kernel
theorem dX5_cell_34 : decode cX5_cell 34 = .ok (.aload 4, 2) := by decide +kernel
theorem dX5_cell_36 : decode cX5_cell 36 = .ok (.iload_n 3, 1) := by decide +kernel
theorem dX5_cell_37 : decode cX5_cell 37 = .ok (.invokevirtual 47, 3) := by decide +kernel
theorem dX5_cell_40 : decode cX5_cell 40 = .ok (.putfield 35, 3) := by decide +kernel
theorem dX5_cell_43 : decode cX5_cell 43 = .ok (.aload_n 0, 1) := by decide +kernel
theorem dX5_cell_44 : decode cX5_cell 44 = .ok (.getfield 35, 3) := by decide +kernel
theorem dX5_cell_47 : decode cX5_cell 47 = .ok (.ifCond .ne 18, 3) := by decide +kernel
theorem dX5_cell_50 : decode cX5_cell 50 = .ok (.aload 4, 2) := by decide +kernel
theorem dX5_cell_52 : decode cX5_cell 52 = .ok (.iload_n 2, 1) := by decide +kernel
theorem dX5_cell_53 : decode cX5_cell 53 = .ok (.iconst 1, 1) := by decide +kernel
theorem dX5_cell_54 : decode cX5_cell 54 = .ok (.invokevirtual 54, 3) := by decide +kernel
theorem dX5_cell_57 : decode cX5_cell 57 = .ok (.ifCond .ne 8, 3) := by decide +kernel
theorem dX5_cell_60 : decode cX5_cell 60 = .ok (.aload_n 0, 1) := by decide +kernel
theorem dX5_cell_61 : decode cX5_cell 61 = .ok (.iconst 3, 1) := by decide +kernel
theorem dX5_cell_62 : decode cX5_cell 62 = .ok (.putfield 35, 3) := by decide +kernel
theorem dX5_cell_65 : decode cX5_cell 65 = .ok (.aload_n 0, 1) := by decide +kernel
theorem dX5_cell_66 : decode cX5_cell 66 = .ok (.getfield 35, 3) := by decide +kernel
theorem dX5_cell_69 : decode cX5_cell 69 = .ok (.ifCond .ne 13, 3) := by decide +kernel
theorem dX5_cell_72 : decode cX5_cell 72 = .ok (.aload 4, 2) := by decide +kernel
theorem dX5_cell_74 : decode cX5_cell 74 = .ok (.iload_n 2, 1) := by decide +kernel
theorem dX5_cell_75 : decode cX5_cell 75 = .ok (.invokevirtual 208, 3) := by decide +kernel
theorem dX5_cell_78 : decode cX5_cell 78 = .ok (.i2l, 1) := by decide +kernel
theorem dX5_cell_79 : decode cX5_cell 79 = .ok (.goto 6, 3) := by decide +kernel
theorem dX5_cell_82 : decode cX5_cell 82 = .ok (.ldc2_w 186, 3) := by decide +kernel
theorem dX5_cell_85 : decode cX5_cell 85 = .ok (.lreturn, 1) := by decide +kernel
theorem dX5_copy_0 : decode cX5_copy 0 = .ok (.aload_n 0, 1) := by decide +kernel
theorem dX5_copy_1 : decode cX5_copy 1 = .ok (.iconst 0, 1) := by decide +kernel
theorem dX5_copy_2 : decode cX5_copy 2 = .ok (.putfield 35, 3) := by decide +kernel
theorem dX5_copy_5 : decode cX5_copy 5 = .ok (.iload_n 1, 1) := by decide +kernel
theorem dX5_copy_6 : decode cX5_copy 6 = .ok (.invokestatic 39, 3) := by decide +kernel
theorem dX5_copy_9 : decode cX5_copy 9 = .ok (.ifCond .eq 10, 3) := by decide +kernel
theorem dX5_copy_12 : decode cX5_copy 12 = .ok (.iload_n 3, 1) := by decide +kernel
theorem dX5_copy_13 : decode cX5_copy 13 = .ok (.invokestatic 39, 3) := by decide +kernel
theorem dX5_copy_16 : decode cX5_copy 16 = .ok (.ifCond .ne 5, 3) := by decide +kernel
theorem dX5_copy_19 : decode cX5_copy 19 = .ok (.iconst (-1), 1) := by decide +kernel
theorem dX5_copy_20 : decode cX5_copy 20 = .ok (.ireturn, 1) := by decide +kernel
theorem dX5_copy_21 : decode cX5_copy 21 = .ok (.aload_n 0, 1) := by decide +kernel
theorem dX5_copy_22 : decode cX5_copy 22 = .ok (.getfield 23, 3) := by decide +kernel
theorem dX5_copy_25 : decode cX5_copy 25 = .ok (.iload_n 1, 1) := by decide +kernel
theorem dX5_copy_26 : decode cX5_copy 26 = .ok (.aaload, 1) := by decide +kernel
theorem dX5_copy_27 : decode cX5_copy 27 = .ok (.astore 6, 2) := by decide +kernel
theorem dX5_copy_29 : decode cX5_copy 29 = .ok (.aload_n 0, 1) := by decide +kernel
theorem dX5_copy_30 : decode cX5_copy 30 = .ok (.getfield 23, 3) := by decide +kernel
theorem dX5_copy_33 : decode cX5_copy 33 = .ok (.iload_n 3, 1) := by decide +kernel
theorem dX5_copy_34 : decode cX5_copy 34 = .ok (.aaload, 1) := by decide +kernel
theorem dX5_copy_35 : decode cX5_copy 35 = .ok (.astore 7, 2) := by decide +kernel
theorem dX5_copy_37 : decode cX5_copy 37 = .ok (.aload 6, 2) := by decide +kernel
theorem dX5_copy_39 : decode cX5_copy 39 = .ok (.invokevirtual 199, 3) := by decide +kernel
theorem dX5_copy_42 : decode cX5_copy 42 = .ok (.ifCond .ne 11, 3) := by decide +kernel
theorem dX5_copy_45 : decode cX5_copy 45 = .ok (.aload 7, 2) := by decide +kernel
theorem dX5_copy_47 : decode cX5_copy 47 = .ok (.invokevirtual 199, 3) := by decide +kernel
theorem dX5_copy_50 : decode cX5_copy 50 = .ok (.ifCond .eq 9, 3) := by decide +kernel
theorem dX5_copy_53 : decode cX5_copy 53 = .ok (.aload_n 0, 1) := by decide +kernel
theorem dX5_copy_54 : decode cX5_copy 54 = .ok (.iconst 1, 1) := by decide +kernel
theorem dX5_copy_55 : decode cX5_copy 55 = .ok (.invokevirtual 51, 3) := by decide +kernel
theorem dX5_copy_58 : decode cX5_copy 58 = .ok (.ireturn, 1) := by decide +kernel
theorem dX5_copy_59 : decode cX5_copy 59 = .ok (.aload 6, 2) := by decide +kernel
theorem dX5_copy_61 : decode cX5_copy 61 = .ok (.getfield 211, 3) := by decide +kernel
theorem dX5_copy_64 : decode cX5_copy 64 = .ok (.aload 7, 2) := by decide +kernel
theorem dX5_copy_66 : decode cX5_copy 66 = .ok (.getfield 211, 3) := by decide +kernel
theorem dX5_copy_69 : decode cX5_copy 69 = .ok (.if_icmp .eq 9, 3) := by decide +kernel
theorem dX5_copy_72 : decode cX5_copy 72 = .ok (.aload_n 0, 1) := by decide +kernel
theorem dX5_copy_73 : decode cX5_copy 73 = .ok (.iconst 2, 1) := by decide +kernel
theorem dX5_copy_74 : decode cX5_copy 74 = .ok (.invokevirtual 51, 3) := by decide +kernel
theorem dX5_copy_77 : decode cX5_copy 77 = .ok (.ireturn, 1) := by decide +kernel
theorem dX5_copy_78 : decode cX5_copy 78 = .ok (.aload 6, 2) := by decide +kernel
theorem dX5_copy_80 : decode cX5_copy 80 = .ok (.iload_n 2, 1) := by decide +kernel
theorem dX5_copy_81 : decode cX5_copy 81 = .ok (.iload 5, 2) := by decide +kernel
theorem dX5_copy_83 : decode cX5_copy 83 = .ok (.invokevirtual 54, 3) := by decide +kernel
theorem dX5_copy_86 : decode cX5_copy 86 = .ok (.ifCond .eq 15, 3) := by decide +kernel
theorem dX5_copy_89 : decode cX5_copy 89 = .ok (.aload 7, 2) := by decide +kernel
theorem dX5_copy_91 : decode cX5_copy 91 = .ok (.iload 4, 2) := by decide +kernel
theorem dX5_copy_93 : decode cX5_copy 93 = .ok (.iload 5, 2) := by decide +kernel
theorem dX5_copy_95 : decode cX5_copy 95 = .ok (.invokevirtual 54, 3) := by decide +kernel
theorem dX5_copy_98 : decode cX5_copy 98 = .ok (.ifCond .ne 9, 3) := by decide +kernel
theorem dX5_copy_101 : decode cX5_copy 101 = .ok (.aload_n 0, 1) := by decide +kernel
theorem dX5_copy_102 : decode cX5_copy 102 = .ok (.iconst 3, 1) := by decide +kernel
theorem dX5_copy_103 : decode cX5_copy 103 = .ok (.invokevirtual 51, 3) := by decide +kernel
theorem dX5_copy_106 : decode cX5_copy 106 = .ok (.ireturn, 1) := by decide +kernel
theorem dX5_copy_107 : decode cX5_copy 107 = .ok (.aload 6, 2) := by decide +kernel
theorem dX5_copy_109 : decode cX5_copy 109 = .ok (.getfield 214, 3) := by decide +kernel
theorem dX5_copy_112 : decode cX5_copy 112 = .ok (.iload_n 2, 1) := by decide +kernel
theorem dX5_copy_113 : decode cX5_copy 113 = .ok (.aload 7, 2) := by decide +kernel
theorem dX5_copy_115 : decode cX5_copy 115 = .ok (.getfield 214, 3) := by decide +kernel
theorem dX5_copy_118 : decode cX5_copy 118 = .ok (.iload 4, 2) := by decide +kernel
theorem dX5_copy_120 : decode cX5_copy 120 = .ok (.iload 5, 2) := by decide +kernel
theorem dX5_copy_122 : decode cX5_copy 122 = .ok (.invokestatic 217, 3) := by decide +kernel
theorem dX5_copy_125 : decode cX5_copy 125 = .ok (.iload 5, 2) := by decide +kernel
theorem dX5_copy_127 : decode cX5_copy 127 = .ok (.ireturn, 1) := by decide +kernel
theorem dX5_tell_0 : decode cX5_tell 0 = .ok (.aload_n 0, 1) := by decide +kernel
theorem dX5_tell_1 : decode cX5_tell 1 = .ok (.getfield 12, 3) := by decide +kernel
theorem dX5_tell_4 : decode cX5_tell 4 = .ok (.iload_n 1, 1) := by decide +kernel
theorem dX5_tell_5 : decode cX5_tell 5 = .ok (.invokevirtual 74, 3) := by decide +kernel
theorem dX5_tell_8 : decode cX5_tell 8 = .ok (.ifCond .ne 5, 3) := by decide +kernel
theorem dX5_tell_11 : decode cX5_tell 11 = .ok (.iconst (-1), 1) := by decide +kernel
theorem dX5_tell_12 : decode cX5_tell 12 = .ok (.ireturn, 1) := by decide +kernel
theorem dX5_tell_13 : decode cX5_tell 13 = .ok (.aload_n 0, 1) := by decide +kernel
theorem dX5_tell_14 : decode cX5_tell 14 = .ok (.getfield 12, 3) := by decide +kernel
theorem dX5_tell_17 : decode cX5_tell 17 = .ok (.getfield 77, 3) := by decide +kernel
theorem dX5_tell_20 : decode cX5_tell 20 = .ok (.iload_n 1, 1) := by decide +kernel
theorem dX5_tell_21 : decode cX5_tell 21 = .ok (.aaload, 1) := by decide +kernel
theorem dX5_tell_22 : decode cX5_tell 22 = .ok (.astore_n 2, 1) := by decide +kernel
theorem dX5_tell_23 : decode cX5_tell 23 = .ok (.aload_n 2, 1) := by decide +kernel
end
section
theorem dX5_tell_24 : decode cX5_tell 24 = .ok (.getfield 81, 3) := by decide +kernel
theorem dX5_tell_27 : decode cX5_tell 27 = .ok (.lookupswitch 37 #[(1, 25), (2, 31)], 25) := by decide +kernel
theorem dX5_tell_52 : decode cX5_tell 52 = .ok (.aload_n 0, 1) := by decide +kernel
theorem dX5_tell_53 : decode cX5_tell 53 = .ok (.aload_n 2, 1) := by decide +kernel
theorem dX5_tell_54 : decode cX5_tell 54 = .ok (.invokevirtual 223, 3) := by decide +kernel
theorem dX5_tell_57 : decode cX5_tell 57 = .ok (.ireturn, 1) := by decide +kernel
theorem dX5_tell_58 : decode cX5_tell 58 = .ok (.aload_n 0, 1) := by decide +kernel
theorem dX5_tell_59 : decode cX5_tell 59 = .ok (.aload_n 2, 1) := by decide +kernel
theorem dX5_tell_60 : decode cX5_tell 60 = .ok (.invokevirtual 227, 3) := by decide +kernel
theorem dX5_tell_63 : decode cX5_tell 63 = .ok (.ireturn, 1) := by decide +kernel
theorem dX5_tell_64 : decode cX5_tell 64 = .ok (.aload_n 0, 1) := by decide +kernel
theorem dX5_tell_65 : decode cX5_tell 65 = .ok (.aload_n 2, 1) := by decide +kernel
theorem dX5_tell_66 : decode cX5_tell 66 = .ok (.invokevirtual 230, 3) := by decide +kernel
theorem dX5_tell_69 : decode cX5_tell 69 = .ok (.ireturn, 1) := by decide +kernel
theorem dX5_cite_0 : decode cX5_cite 0 = .ok (.aload_n 0, 1) := by decide +kernel
theorem dX5_cite_1 : decode cX5_cite 1 = .ok (.getfield 12, 3) := by decide +kernel
theorem dX5_cite_4 : decode cX5_cite 4 = .ok (.iload_n 1, 1) := by decide +kernel
theorem dX5_cite_5 : decode cX5_cite 5 = .ok (.invokevirtual 74, 3) := by decide +kernel
theorem dX5_cite_8 : decode cX5_cite 8 = .ok (.ifCond .ne 5, 3) := by decide +kernel
theorem dX5_cite_11 : decode cX5_cite 11 = .ok (.iconst (-1), 1) := by decide +kernel
theorem dX5_cite_12 : decode cX5_cite 12 = .ok (.ireturn, 1) := by decide +kernel
theorem dX5_cite_13 : decode cX5_cite 13 = .ok (.aload_n 0, 1) := by decide +kernel
theorem dX5_cite_14 : decode cX5_cite 14 = .ok (.getfield 12, 3) := by decide +kernel
theorem dX5_cite_17 : decode cX5_cite 17 = .ok (.getfield 77, 3) := by decide +kernel
theorem dX5_cite_20 : decode cX5_cite 20 = .ok (.iload_n 1, 1) := by decide +kernel
theorem dX5_cite_21 : decode cX5_cite 21 = .ok (.aaload, 1) := by decide +kernel
theorem dX5_cite_22 : decode cX5_cite 22 = .ok (.astore_n 2, 1) := by decide +kernel
theorem dX5_cite_23 : decode cX5_cite 23 = .ok (.aload_n 2, 1) := by decide +kernel
theorem dX5_cite_24 : decode cX5_cite 24 = .ok (.getfield 81, 3) := by decide +kernel
theorem dX5_cite_27 : decode cX5_cite 27 = .ok (.iconst 2, 1) := by decide +kernel
theorem dX5_cite_28 : decode cX5_cite 28 = .ok (.if_icmp .ne 10, 3) := by decide +kernel
theorem dX5_cite_31 : decode cX5_cite 31 = .ok (.aload_n 0, 1) := by decide +kernel
theorem dX5_cite_32 : decode cX5_cite 32 = .ok (.invokevirtual 233, 3) := by decide +kernel
theorem dX5_cite_35 : decode cX5_cite 35 = .ok (.goto 8, 3) := by decide +kernel
theorem dX5_cite_38 : decode cX5_cite 38 = .ok (.aload_n 0, 1) := by decide +kernel
theorem dX5_cite_39 : decode cX5_cite 39 = .ok (.aload_n 2, 1) := by decide +kernel
theorem dX5_cite_40 : decode cX5_cite 40 = .ok (.invokevirtual 236, 3) := by decide +kernel
theorem dX5_cite_43 : decode cX5_cite 43 = .ok (.ireturn, 1) := by decide +kernel
theorem dX5_as_0 : decode cX5_as 0 = .ok (.aload_n 0, 1) := by decide +kernel
theorem dX5_as_1 : decode cX5_as 1 = .ok (.iconst 0, 1) := by decide +kernel
theorem dX5_as_2 : decode cX5_as 2 = .ok (.putfield 35, 3) := by decide +kernel
theorem dX5_as_5 : decode cX5_as 5 = .ok (.aload_n 0, 1) := by decide +kernel
theorem dX5_as_6 : decode cX5_as 6 = .ok (.getfield 12, 3) := by decide +kernel
theorem dX5_as_9 : decode cX5_as 9 = .ok (.iload_n 1, 1) := by decide +kernel
theorem dX5_as_10 : decode cX5_as 10 = .ok (.invokevirtual 74, 3) := by decide +kernel
theorem dX5_as_13 : decode cX5_as 13 = .ok (.ifCond .ne 5, 3) := by decide +kernel
theorem dX5_as_16 : decode cX5_as 16 = .ok (.iconst (-1), 1) := by decide +kernel
theorem dX5_as_17 : decode cX5_as 17 = .ok (.ireturn, 1) := by decide +kernel
theorem dX5_as_18 : decode cX5_as 18 = .ok (.iload_n 2, 1) := by decide +kernel
theorem dX5_as_19 : decode cX5_as 19 = .ok (.iconst 0, 1) := by decide +kernel
theorem dX5_as_20 : decode cX5_as 20 = .ok (.iconst 2, 1) := by decide +kernel
theorem dX5_as_21 : decode cX5_as 21 = .ok (.invokestatic 43, 3) := by decide +kernel
theorem dX5_as_24 : decode cX5_as 24 = .ok (.ifCond .ne 6, 3) := by decide +kernel
theorem dX5_as_27 : decode cX5_as 27 = .ok (.bipush (-2), 2) := by decide +kernel
theorem dX5_as_29 : decode cX5_as 29 = .ok (.ireturn, 1) := by decide +kernel
theorem dX5_as_30 : decode cX5_as 30 = .ok (.iload_n 2, 1) := by decide +kernel
theorem dX5_as_31 : decode cX5_as 31 = .ok (.aload_n 0, 1) := by decide +kernel
theorem dX5_as_32 : decode cX5_as 32 = .ok (.getfield 12, 3) := by decide +kernel
theorem dX5_as_35 : decode cX5_as 35 = .ok (.getfield 77, 3) := by decide +kernel
theorem dX5_as_38 : decode cX5_as 38 = .ok (.iload_n 1, 1) := by decide +kernel
theorem dX5_as_39 : decode cX5_as 39 = .ok (.aaload, 1) := by decide +kernel
theorem dX5_as_40 : decode cX5_as 40 = .ok (.getfield 81, 3) := by decide +kernel
theorem dX5_as_43 : decode cX5_as 43 = .ok (.if_icmp .le 9, 3) := by decide +kernel
theorem dX5_as_46 : decode cX5_as 46 = .ok (.aload_n 0, 1) := by decide +kernel
theorem dX5_as_47 : decode cX5_as 47 = .ok (.iconst 2, 1) := by decide +kernel
theorem dX5_as_48 : decode cX5_as 48 = .ok (.invokevirtual 51, 3) := by decide +kernel
theorem dX5_as_51 : decode cX5_as 51 = .ok (.ireturn, 1) := by decide +kernel
theorem dX5_as_52 : decode cX5_as 52 = .ok (.iconst 1, 1) := by decide +kernel
theorem dX5_as_53 : decode cX5_as 53 = .ok (.ireturn, 1) := by decide +kernel
theorem dX5_trace_0 : decode cX5_trace 0 = .ok (.aload_n 0, 1) := by decide +kernel
theorem dX5_trace_1 : decode cX5_trace 1 = .ok (.getfield 239, 3) := by decide +kernel
theorem dX5_trace_4 : decode cX5_trace 4 = .ok (.ireturn, 1) := by decide +kernel
theorem dX5_fault_0 : decode cX5_fault 0 = .ok (.aload_n 0, 1) := by decide +kernel
theorem dX5_fault_1 : decode cX5_fault 1 = .ok (.getfield 35, 3) := by decide +kernel
theorem dX5_fault_4 : decode cX5_fault 4 = .ok (.ireturn, 1) := by decide +kernel
theorem dX5_many_0 : decode cX5_many 0 = .ok (.iload_n 1, 1) := by decide +kernel
theorem dX5_many_1 : decode cX5_many 1 = .ok (.tableswitch 45 0 2 #[27, 35, 40], 27) := by decide +kernel
theorem dX5_many_28 : decode cX5_many 28 = .ok (.aload_n 0, 1) := by decide +kernel
theorem dX5_many_29 : decode cX5_many 29 = .ok (.getfield 12, 3) := by decide +kernel
theorem dX5_many_32 : decode cX5_many 32 = .ok (.getfield 71, 3) := by decide +kernel
theorem dX5_many_35 : decode cX5_many 35 = .ok (.ireturn, 1) := by decide +kernel
theorem dX5_many_36 : decode cX5_many 36 = .ok (.aload_n 0, 1) := by decide +kernel
theorem dX5_many_37 : decode cX5_many 37 = .ok (.invokevirtual 161, 3) := by decide +kernel
theorem dX5_many_40 : decode cX5_many 40 = .ok (.ireturn, 1) := by decide +kernel
theorem dX5_many_41 : decode cX5_many 41 = .ok (.aload_n 0, 1) := by decide +kernel
theorem dX5_many_42 : decode cX5_many 42 = .ok (.getfield 68, 3) := by decide +kernel
theorem dX5_many_45 : decode cX5_many 45 = .ok (.ireturn, 1) := by decide +kernel
theorem dX5_many_46 : decode cX5_many 46 = .ok (.bipush (-2), 2) := by decide +kernel
theorem dX5_many_48 : decode cX5_many 48 = .ok (.ireturn, 1) := by decide +kernel
theorem dX5_isIn_0 : decode cX5_isIn 0 = .ok (.iload_n 0, 1) := by decide +kernel
theorem dX5_isIn_1 : decode cX5_isIn 1 = .ok (.iload_n 1, 1) := by decide +kernel
theorem dX5_isIn_2 : decode cX5_isIn 2 = .ok (.if_icmp .lt 12, 3) := by decide +kernel
theorem dX5_isIn_5 : decode cX5_isIn 5 = .ok (.iload_n 0, 1) := by decide +kernel
theorem dX5_isIn_6 : decode cX5_isIn 6 = .ok (.iload_n 2, 1) := by decide +kernel
theorem dX5_isIn_7 : decode cX5_isIn 7 = .ok (.if_icmp .gt 7, 3) := by decide +kernel
theorem dX5_isIn_10 : decode cX5_isIn 10 = .ok (.iconst 1, 1) := by decide +kernel
theorem dX5_isIn_11 : decode cX5_isIn 11 = .ok (.goto 4, 3) := by decide +kernel
theorem dX5_isIn_14 : decode cX5_isIn 14 = .ok (.iconst 0, 1) := by decide +kernel
theorem dX5_isIn_15 : decode cX5_isIn 15 = .ok (.ireturn, 1) := by decide +kernel
theorem dX5_isPoint_0 : decode cX5_isPoint 0 = .ok (.iload_n 0, 1) := by decide +kernel
theorem dX5_isPoint_1 : decode cX5_isPoint 1 = .ok (.iconst 0, 1) := by decide +kernel
theorem dX5_isPoint_2 : decode cX5_isPoint 2 = .ok (.bipush 25, 2) := by decide +kernel
theorem dX5_isPoint_4 : decode cX5_isPoint 4 = .ok (.invokestatic 43, 3) := by decide +kernel
theorem dX5_isPoint_7 : decode cX5_isPoint 7 = .ok (.ireturn, 1) := by decide +kernel
theorem dX5_isSheet_0 : decode cX5_isSheet 0 = .ok (.iload_n 0, 1) := by decide +kernel
theorem dX5_isSheet_1 : decode cX5_isSheet 1 = .ok (.iconst 0, 1) := by decide +kernel
theorem dX5_isSheet_2 : decode cX5_isSheet 2 = .ok (.iconst 3, 1) := by decide +kernel
theorem dX5_isSheet_3 : decode cX5_isSheet 3 = .ok (.invokestatic 43, 3) := by decide +kernel
theorem dX5_isSheet_6 : decode cX5_isSheet 6 = .ok (.ireturn, 1) := by decide +kernel
theorem dX5_faulted_0 : decode cX5_faulted 0 = .ok (.aload_n 0, 1) := by decide +kernel
theorem dX5_faulted_1 : decode cX5_faulted 1 = .ok (.iload_n 1, 1) := by decide +kernel
theorem dX5_faulted_2 : decode cX5_faulted 2 = .ok (.putfield 35, 3) := by decide +kernel
theorem dX5_faulted_5 : decode cX5_faulted 5 = .ok (.bipush (-10), 2) := by decide +kernel
theorem dX5_faulted_7 : decode cX5_faulted 7 = .ok (.iload_n 1, 1) := by decide +kernel
theorem dX5_faulted_8 : decode cX5_faulted 8 = .ok (.isub, 1) := by decide +kernel
theorem dX5_faulted_9 : decode cX5_faulted 9 = .ok (.ireturn, 1) := by decide +kernel
theorem dX5_runsNow_0 : decode cX5_runsNow 0 = .ok (.aload_n 0, 1) := by decide +kernel
theorem dX5_runsNow_1 : decode cX5_runsNow 1 = .ok (.getfield 12, 3) := by decide +kernel
theorem dX5_runsNow_4 : decode cX5_runsNow 4 = .ok (.getfield 71, 3) := by decide +kernel
theorem dX5_runsNow_7 : decode cX5_runsNow 7 = .ok (.ifCond .ne 7, 3) := by decide +kernel
theorem dX5_runsNow_10 : decode cX5_runsNow 10 = .ok (.iconst 0, 1) := by decide +kernel
theorem dX5_runsNow_11 : decode cX5_runsNow 11 = .ok (.goto 10, 3) := by decide +kernel
theorem dX5_runsNow_14 : decode cX5_runsNow 14 = .ok (.aload_n 0, 1) := by decide +kernel
theorem dX5_runsNow_15 : decode cX5_runsNow 15 = .ok (.getfield 12, 3) := by decide +kernel
theorem dX5_runsNow_18 : decode cX5_runsNow 18 = .ok (.invokevirtual 167, 3) := by decide +kernel
theorem dX5_runsNow_21 : decode cX5_runsNow 21 = .ok (.ireturn, 1) := by decide +kernel
theorem dX5_areReadingsSo_0 : decode cX5_areReadingsSo 0 = .ok (.iconst 0, 1) := by decide +kernel
theorem dX5_areReadingsSo_1 : decode cX5_areReadingsSo 1 = .ok (.istore_n 1, 1) := by decide +kernel
theorem dX5_areReadingsSo_2 : decode cX5_areReadingsSo 2 = .ok (.iload_n 1, 1) := by decide +kernel
theorem dX5_areReadingsSo_3 : decode cX5_areReadingsSo 3 = .ok (.aload_n 0, 1) := by decide +kernel
theorem dX5_areReadingsSo_4 : decode cX5_areReadingsSo 4 = .ok (.getfield 68, 3) := by decide +kernel
theorem dX5_areReadingsSo_7 : decode cX5_areReadingsSo 7 = .ok (.if_icmp .ge 34, 3) := by decide +kernel
theorem dX5_areReadingsSo_10 : decode cX5_areReadingsSo 10 = .ok (.aload_n 0, 1) := by decide +kernel
theorem dX5_areReadingsSo_11 : decode cX5_areReadingsSo 11 = .ok (.getfield 12, 3) := by decide +kernel
theorem dX5_areReadingsSo_14 : decode cX5_areReadingsSo 14 = .ok (.aload_n 0, 1) := by decide +kernel
theorem dX5_areReadingsSo_15 : decode cX5_areReadingsSo 15 = .ok (.getfield 27, 3) := by decide +kernel
theorem dX5_areReadingsSo_18 : decode cX5_areReadingsSo 18 = .ok (.iload_n 1, 1) := by decide +kernel
theorem dX5_areReadingsSo_19 : decode cX5_areReadingsSo 19 = .ok (.iaload, 1) := by decide +kernel
theorem dX5_areReadingsSo_20 : decode cX5_areReadingsSo 20 = .ok (.iconst (-1), 1) := by decide +kernel
theorem dX5_areReadingsSo_21 : decode cX5_areReadingsSo 21 = .ok (.invokevirtual 242, 3) := by decide +kernel
theorem dX5_areReadingsSo_24 : decode cX5_areReadingsSo 24 = .ok (.aload_n 0, 1) := by decide +kernel
theorem dX5_areReadingsSo_25 : decode cX5_areReadingsSo 25 = .ok (.getfield 31, 3) := by decide +kernel
theorem dX5_areReadingsSo_28 : decode cX5_areReadingsSo 28 = .ok (.iload_n 1, 1) := by decide +kernel
theorem dX5_areReadingsSo_29 : decode cX5_areReadingsSo 29 = .ok (.iaload, 1) := by decide +kernel
theorem dX5_areReadingsSo_30 : decode cX5_areReadingsSo 30 = .ok (.if_icmp .eq 5, 3) := by decide +kernel
theorem dX5_areReadingsSo_33 : decode cX5_areReadingsSo 33 = .ok (.iconst 0, 1) := by decide +kernel
theorem dX5_areReadingsSo_34 : decode cX5_areReadingsSo 34 = .ok (.ireturn, 1) := by decide +kernel
theorem dX5_areReadingsSo_35 : decode cX5_areReadingsSo 35 = .ok (.iinc 1 1, 3) := by decide +kernel
theorem dX5_areReadingsSo_38 : decode cX5_areReadingsSo 38 = .ok (.goto (-36), 3) := by decide +kernel
theorem dX5_areReadingsSo_41 : decode cX5_areReadingsSo 41 = .ok (.iconst 1, 1) := by decide +kernel
theorem dX5_areReadingsSo_42 : decode cX5_areReadingsSo 42 = .ok (.ireturn, 1) := by decide +kernel
theorem dX5_greatestCommon_0 : decode cX5_greatestCommon 0 = .ok (.iload_n 0, 1) := by decide +kernel
theorem dX5_greatestCommon_1 : decode cX5_greatestCommon 1 = .ok (.istore_n 2, 1) := by decide +kernel
theorem dX5_greatestCommon_2 : decode cX5_greatestCommon 2 = .ok (.iload_n 1, 1) := by decide +kernel
theorem dX5_greatestCommon_3 : decode cX5_greatestCommon 3 = .ok (.istore_n 3, 1) := by decide +kernel
theorem dX5_greatestCommon_4 : decode cX5_greatestCommon 4 = .ok (.iconst 0, 1) := by decide +kernel
theorem dX5_greatestCommon_5 : decode cX5_greatestCommon 5 = .ok (.istore 4, 2) := by decide +kernel
theorem dX5_greatestCommon_7 : decode cX5_greatestCommon 7 = .ok (.iload 4, 2) := by decide +kernel
theorem dX5_greatestCommon_9 : decode cX5_greatestCommon 9 = .ok (.bipush 26, 2) := by decide +kernel
theorem dX5_greatestCommon_11 : decode cX5_greatestCommon 11 = .ok (.if_icmp .ge 23, 3) := by decide +kernel
theorem dX5_greatestCommon_14 : decode cX5_greatestCommon 14 = .ok (.iload_n 3, 1) := by decide +kernel
theorem dX5_greatestCommon_15 : decode cX5_greatestCommon 15 = .ok (.ifCond .eq 19, 3) := by decide +kernel
theorem dX5_greatestCommon_18 : decode cX5_greatestCommon 18 = .ok (.iload_n 2, 1) := by decide +kernel
theorem dX5_greatestCommon_19 : decode cX5_greatestCommon 19 = .ok (.iload_n 3, 1) := by decide +kernel
theorem dX5_greatestCommon_20 : decode cX5_greatestCommon 20 = .ok (.irem, 1) := by decide +kernel
theorem dX5_greatestCommon_21 : decode cX5_greatestCommon 21 = .ok (.istore 5, 2) := by decide +kernel
theorem dX5_greatestCommon_23 : decode cX5_greatestCommon 23 = .ok (.iload_n 3, 1) := by decide +kernel
theorem dX5_greatestCommon_24 : decode cX5_greatestCommon 24 = .ok (.istore_n 2, 1) := by decide +kernel
theorem dX5_greatestCommon_25 : decode cX5_greatestCommon 25 = .ok (.iload 5, 2) := by decide +kernel
theorem dX5_greatestCommon_27 : decode cX5_greatestCommon 27 = .ok (.istore_n 3, 1) := by decide +kernel
theorem dX5_greatestCommon_28 : decode cX5_greatestCommon 28 = .ok (.iinc 4 1, 3) := by decide +kernel
theorem dX5_greatestCommon_31 : decode cX5_greatestCommon 31 = .ok (.goto (-24), 3) := by decide +kernel
theorem dX5_greatestCommon_34 : decode cX5_greatestCommon 34 = .ok (.iload_n 2, 1) := by decide +kernel
theorem dX5_greatestCommon_35 : decode cX5_greatestCommon 35 = .ok (.iconst 1, 1) := by decide +kernel
theorem dX5_greatestCommon_36 : decode cX5_greatestCommon 36 = .ok (.invokestatic 245, 3) := by decide +kernel
theorem dX5_greatestCommon_39 : decode cX5_greatestCommon 39 = .ok (.ireturn, 1) := by decide +kernel
theorem dX5_areActs_0 : decode cX5_areActs 0 = .ok (.iconst 0, 1) := by decide +kernel
theorem dX5_areActs_1 : decode cX5_areActs 1 = .ok (.istore_n 3, 1) := by decide +kernel
theorem dX5_areActs_2 : decode cX5_areActs 2 = .ok (.iload_n 3, 1) := by decide +kernel
theorem dX5_areActs_3 : decode cX5_areActs 3 = .ok (.iload_n 2, 1) := by decide +kernel
theorem dX5_areActs_4 : decode cX5_areActs 4 = .ok (.if_icmp .ge 37, 3) := by decide +kernel
theorem dX5_areActs_7 : decode cX5_areActs 7 = .ok (.aload_n 0, 1) := by decide +kernel
theorem dX5_areActs_8 : decode cX5_areActs 8 = .ok (.iload_n 1, 1) := by decide +kernel
theorem dX5_areActs_9 : decode cX5_areActs 9 = .ok (.iconst 2, 1) := by decide +kernel
theorem dX5_areActs_10 : decode cX5_areActs 10 = .ok (.iload_n 3, 1) := by decide +kernel
theorem dX5_areActs_11 : decode cX5_areActs 11 = .ok (.imul, 1) := by decide +kernel
theorem dX5_areActs_12 : decode cX5_areActs 12 = .ok (.iadd, 1) := by decide +kernel
theorem dX5_areActs_13 : decode cX5_areActs 13 = .ok (.invokevirtual 208, 3) := by decide +kernel
theorem dX5_areActs_16 : decode cX5_areActs 16 = .ok (.aload_n 0, 1) := by decide +kernel
theorem dX5_areActs_17 : decode cX5_areActs 17 = .ok (.iload_n 1, 1) := by decide +kernel
theorem dX5_areActs_18 : decode cX5_areActs 18 = .ok (.iconst 2, 1) := by decide +kernel
theorem dX5_areActs_19 : decode cX5_areActs 19 = .ok (.iload_n 3, 1) := by decide +kernel
theorem dX5_areActs_20 : decode cX5_areActs 20 = .ok (.imul, 1) := by decide +kernel
theorem dX5_areActs_21 : decode cX5_areActs 21 = .ok (.iadd, 1) := by decide +kernel
theorem dX5_areActs_22 : decode cX5_areActs 22 = .ok (.iconst 1, 1) := by decide +kernel
theorem dX5_areActs_23 : decode cX5_areActs 23 = .ok (.iadd, 1) := by decide +kernel
theorem dX5_areActs_24 : decode cX5_areActs 24 = .ok (.invokevirtual 208, 3) := by decide +kernel
theorem dX5_areActs_27 : decode cX5_areActs 27 = .ok (.invokestatic 250, 3) := by decide +kernel
theorem dX5_areActs_30 : decode cX5_areActs 30 = .ok (.ifCond .ne 5, 3) := by decide +kernel
theorem dX5_areActs_33 : decode cX5_areActs 33 = .ok (.iconst 0, 1) := by decide +kernel
theorem dX5_areActs_34 : decode cX5_areActs 34 = .ok (.ireturn, 1) := by decide +kernel
theorem dX5_areActs_35 : decode cX5_areActs 35 = .ok (.iinc 3 1, 3) := by decide +kernel
theorem dX5_areActs_38 : decode cX5_areActs 38 = .ok (.goto (-36), 3) := by decide +kernel
theorem dX5_areActs_41 : decode cX5_areActs 41 = .ok (.iconst 1, 1) := by decide +kernel
theorem dX5_areActs_42 : decode cX5_areActs 42 = .ok (.ireturn, 1) := by decide +kernel
theorem dX5_isAct_0 : decode cX5_isAct 0 = .ok (.iload_n 1, 1) := by decide +kernel
theorem dX5_isAct_1 : decode cX5_isAct 1 = .ok (.iconst 0, 1) := by decide +kernel
theorem dX5_isAct_2 : decode cX5_isAct 2 = .ok (.bipush 6, 2) := by decide +kernel
theorem dX5_isAct_4 : decode cX5_isAct 4 = .ok (.invokestatic 43, 3) := by decide +kernel
theorem dX5_isAct_7 : decode cX5_isAct 7 = .ok (.ifCond .eq 11, 3) := by decide +kernel
theorem dX5_isAct_10 : decode cX5_isAct 10 = .ok (.iload_n 0, 1) := by decide +kernel
theorem dX5_isAct_11 : decode cX5_isAct 11 = .ok (.iconst 1, 1) := by decide +kernel
theorem dX5_isAct_12 : decode cX5_isAct 12 = .ok (.bipush 9, 2) := by decide +kernel
theorem dX5_isAct_14 : decode cX5_isAct 14 = .ok (.invokestatic 43, 3) := by decide +kernel
theorem dX5_isAct_17 : decode cX5_isAct 17 = .ok (.ireturn, 1) := by decide +kernel
theorem dX5_isAct_18 : decode cX5_isAct 18 = .ok (.iload_n 1, 1) := by decide +kernel
theorem dX5_isAct_19 : decode cX5_isAct 19 = .ok (.bipush 10, 2) := by decide +kernel
theorem dX5_isAct_21 : decode cX5_isAct 21 = .ok (.bipush 16, 2) := by decide +kernel
theorem dX5_isAct_23 : decode cX5_isAct 23 = .ok (.invokestatic 43, 3) := by decide +kernel
theorem dX5_isAct_26 : decode cX5_isAct 26 = .ok (.ifCond .eq 13, 3) := by decide +kernel
theorem dX5_isAct_29 : decode cX5_isAct 29 = .ok (.iload_n 0, 1) := by decide +kernel
theorem dX5_isAct_30 : decode cX5_isAct 30 = .ok (.ifCond .ne 7, 3) := by decide +kernel
theorem dX5_isAct_33 : decode cX5_isAct 33 = .ok (.iconst 1, 1) := by decide +kernel
theorem dX5_isAct_34 : decode cX5_isAct 34 = .ok (.goto 4, 3) := by decide +kernel
theorem dX5_isAct_37 : decode cX5_isAct 37 = .ok (.iconst 0, 1) := by decide +kernel
theorem dX5_isAct_38 : decode cX5_isAct 38 = .ok (.ireturn, 1) := by decide +kernel
theorem dX5_isAct_39 : decode cX5_isAct 39 = .ok (.iload_n 1, 1) := by decide +kernel
theorem dX5_isAct_40 : decode cX5_isAct 40 = .ok (.bipush 20, 2) := by decide +kernel
theorem dX5_isAct_42 : decode cX5_isAct 42 = .ok (.if_icmp .ne 16, 3) := by decide +kernel
theorem dX5_isAct_45 : decode cX5_isAct 45 = .ok (.iload_n 0, 1) := by decide +kernel
theorem dX5_isAct_46 : decode cX5_isAct 46 = .ok (.iconst 0, 1) := by decide +kernel
theorem dX5_isAct_47 : decode cX5_isAct 47 = .ok (.iconst 5, 1) := by decide +kernel
theorem dX5_isAct_48 : decode cX5_isAct 48 = .ok (.invokestatic 43, 3) := by decide +kernel
theorem dX5_isAct_51 : decode cX5_isAct 51 = .ok (.ifCond .eq 7, 3) := by decide +kernel
theorem dX5_isAct_54 : decode cX5_isAct 54 = .ok (.iconst 1, 1) := by decide +kernel
theorem dX5_isAct_55 : decode cX5_isAct 55 = .ok (.goto 4, 3) := by decide +kernel
theorem dX5_isAct_58 : decode cX5_isAct 58 = .ok (.iconst 0, 1) := by decide +kernel
theorem dX5_isAct_59 : decode cX5_isAct 59 = .ok (.ireturn, 1) := by decide +kernel
theorem dX5_playDay_0 : decode cX5_playDay 0 = .ok (.iconst 0, 1) := by decide +kernel
theorem dX5_playDay_1 : decode cX5_playDay 1 = .ok (.istore 4, 2) := by decide +kernel
theorem dX5_playDay_3 : decode cX5_playDay 3 = .ok (.iload 4, 2) := by decide +kernel
theorem dX5_playDay_5 : decode cX5_playDay 5 = .ok (.iload_n 3, 1) := by decide +kernel
theorem dX5_playDay_6 : decode cX5_playDay 6 = .ok (.if_icmp .ge 41, 3) := by decide +kernel
theorem dX5_playDay_9 : decode cX5_playDay 9 = .ok (.aload_n 0, 1) := by decide +kernel
theorem dX5_playDay_10 : decode cX5_playDay 10 = .ok (.aload_n 1, 1) := by decide +kernel
theorem dX5_playDay_11 : decode cX5_playDay 11 = .ok (.iload_n 2, 1) := by decide +kernel
theorem dX5_playDay_12 : decode cX5_playDay 12 = .ok (.iconst 2, 1) := by decide +kernel
theorem dX5_playDay_13 : decode cX5_playDay 13 = .ok (.iload 4, 2) := by decide +kernel
theorem dX5_playDay_15 : decode cX5_playDay 15 = .ok (.imul, 1) := by decide +kernel
theorem dX5_playDay_16 : decode cX5_playDay 16 = .ok (.iadd, 1) := by decide +kernel
theorem dX5_playDay_17 : decode cX5_playDay 17 = .ok (.invokevirtual 208, 3) := by decide +kernel
theorem dX5_playDay_20 : decode cX5_playDay 20 = .ok (.aload_n 1, 1) := by decide +kernel
theorem dX5_playDay_21 : decode cX5_playDay 21 = .ok (.iload_n 2, 1) := by decide +kernel
theorem dX5_playDay_22 : decode cX5_playDay 22 = .ok (.iconst 2, 1) := by decide +kernel
theorem dX5_playDay_23 : decode cX5_playDay 23 = .ok (.iload 4, 2) := by decide +kernel
theorem dX5_playDay_25 : decode cX5_playDay 25 = .ok (.imul, 1) := by decide +kernel
theorem dX5_playDay_26 : decode cX5_playDay 26 = .ok (.iadd, 1) := by decide +kernel
theorem dX5_playDay_27 : decode cX5_playDay 27 = .ok (.iconst 1, 1) := by decide +kernel
theorem dX5_playDay_28 : decode cX5_playDay 28 = .ok (.iadd, 1) := by decide +kernel
theorem dX5_playDay_29 : decode cX5_playDay 29 = .ok (.invokevirtual 208, 3) := by decide +kernel
theorem dX5_playDay_32 : decode cX5_playDay 32 = .ok (.invokevirtual 253, 3) := by decide +kernel
theorem dX5_playDay_35 : decode cX5_playDay 35 = .ok (.ifCond .ne 6, 3) := by decide +kernel
theorem dX5_playDay_38 : decode cX5_playDay 38 = .ok (.iload 4, 2) := by decide +kernel
theorem dX5_playDay_40 : decode cX5_playDay 40 = .ok (.ireturn, 1) := by decide +kernel
theorem dX5_playDay_41 : decode cX5_playDay 41 = .ok (.iinc 4 1, 3) := by decide +kernel
theorem dX5_playDay_44 : decode cX5_playDay 44 = .ok (.goto (-41), 3) := by decide +kernel
theorem dX5_playDay_47 : decode cX5_playDay 47 = .ok (.bipush (-9), 2) := by decide +kernel
theorem dX5_playDay_49 : decode cX5_playDay 49 = .ok (.ireturn, 1) := by decide +kernel
theorem dX5_playAct_0 : decode cX5_playAct 0 = .ok (.iload_n 2, 1) := by decide +kernel
theorem dX5_playAct_1 : decode cX5_playAct 1 = .ok (.bipush 20, 2) := by decide +kernel
theorem dX5_playAct_3 : decode cX5_playAct 3 = .ok (.if_icmp .ne 26, 3) := by decide +kernel
theorem dX5_playAct_6 : decode cX5_playAct 6 = .ok (.aload_n 0, 1) := by decide +kernel
theorem dX5_playAct_7 : decode cX5_playAct 7 = .ok (.getfield 18, 3) := by decide +kernel
theorem dX5_playAct_10 : decode cX5_playAct 10 = .ok (.iload_n 1, 1) := by decide +kernel
theorem dX5_playAct_11 : decode cX5_playAct 11 = .ok (.invokevirtual 116, 3) := by decide +kernel
theorem dX5_playAct_14 : decode cX5_playAct 14 = .ok (.ifCond .ne 5, 3) := by decide +kernel
theorem dX5_playAct_17 : decode cX5_playAct 17 = .ok (.iconst 0, 1) := by decide +kernel
theorem dX5_playAct_18 : decode cX5_playAct 18 = .ok (.ireturn, 1) := by decide +kernel
theorem dX5_playAct_19 : decode cX5_playAct 19 = .ok (.aload_n 0, 1) := by decide +kernel
theorem dX5_playAct_20 : decode cX5_playAct 20 = .ok (.getfield 18, 3) := by decide +kernel
theorem dX5_playAct_23 : decode cX5_playAct 23 = .ok (.iload_n 1, 1) := by decide +kernel
theorem dX5_playAct_24 : decode cX5_playAct 24 = .ok (.invokevirtual 119, 3) := by decide +kernel
theorem dX5_playAct_27 : decode cX5_playAct 27 = .ok (.iconst 1, 1) := by decide +kernel
theorem dX5_playAct_28 : decode cX5_playAct 28 = .ok (.ireturn, 1) := by decide +kernel
theorem dX5_playAct_29 : decode cX5_playAct 29 = .ok (.iload_n 2, 1) := by decide +kernel
theorem dX5_playAct_30 : decode cX5_playAct 30 = .ok (.bipush 10, 2) := by decide +kernel
theorem dX5_playAct_32 : decode cX5_playAct 32 = .ok (.if_icmp .lt 43, 3) := by decide +kernel
theorem dX5_playAct_35 : decode cX5_playAct 35 = .ok (.aload_n 0, 1) := by decide +kernel
theorem dX5_playAct_36 : decode cX5_playAct 36 = .ok (.getfield 18, 3) := by decide +kernel
theorem dX5_playAct_39 : decode cX5_playAct 39 = .ok (.iload_n 2, 1) := by decide +kernel
theorem dX5_playAct_40 : decode cX5_playAct 40 = .ok (.bipush 10, 2) := by decide +kernel
theorem dX5_playAct_42 : decode cX5_playAct 42 = .ok (.isub, 1) := by decide +kernel
theorem dX5_playAct_43 : decode cX5_playAct 43 = .ok (.invokevirtual 74, 3) := by decide +kernel
theorem dX5_playAct_46 : decode cX5_playAct 46 = .ok (.ifCond .eq 14, 3) := by decide +kernel
theorem dX5_playAct_49 : decode cX5_playAct 49 = .ok (.aload_n 0, 1) := by decide +kernel
theorem dX5_playAct_50 : decode cX5_playAct 50 = .ok (.getfield 18, 3) := by decide +kernel
theorem dX5_playAct_53 : decode cX5_playAct 53 = .ok (.getfield 71, 3) := by decide +kernel
theorem dX5_playAct_56 : decode cX5_playAct 56 = .ok (.iconst 1, 1) := by decide +kernel
theorem dX5_playAct_57 : decode cX5_playAct 57 = .ok (.if_icmp .ne 5, 3) := by decide +kernel
theorem dX5_playAct_60 : decode cX5_playAct 60 = .ok (.iconst 0, 1) := by decide +kernel
theorem dX5_playAct_61 : decode cX5_playAct 61 = .ok (.ireturn, 1) := by decide +kernel
theorem dX5_playAct_62 : decode cX5_playAct 62 = .ok (.aload_n 0, 1) := by decide +kernel
theorem dX5_playAct_63 : decode cX5_playAct 63 = .ok (.getfield 18, 3) := by decide +kernel
theorem dX5_playAct_66 : decode cX5_playAct 66 = .ok (.iload_n 2, 1) := by decide +kernel
theorem dX5_playAct_67 : decode cX5_playAct 67 = .ok (.bipush 10, 2) := by decide +kernel
theorem dX5_playAct_69 : decode cX5_playAct 69 = .ok (.isub, 1) := by decide +kernel
theorem dX5_playAct_70 : decode cX5_playAct 70 = .ok (.invokevirtual 113, 3) := by decide +kernel
theorem dX5_playAct_73 : decode cX5_playAct 73 = .ok (.iconst 1, 1) := by decide +kernel
theorem dX5_playAct_74 : decode cX5_playAct 74 = .ok (.ireturn, 1) := by decide +kernel
theorem dX5_playAct_75 : decode cX5_playAct 75 = .ok (.aload_n 0, 1) := by decide +kernel
theorem dX5_playAct_76 : decode cX5_playAct 76 = .ok (.getfield 18, 3) := by decide +kernel
theorem dX5_playAct_79 : decode cX5_playAct 79 = .ok (.iload_n 2, 1) := by decide +kernel
theorem dX5_playAct_80 : decode cX5_playAct 80 = .ok (.invokevirtual 74, 3) := by decide +kernel
theorem dX5_playAct_83 : decode cX5_playAct 83 = .ok (.ifCond .ne 5, 3) := by decide +kernel
theorem dX5_playAct_86 : decode cX5_playAct 86 = .ok (.iconst 0, 1) := by decide +kernel
theorem dX5_playAct_87 : decode cX5_playAct 87 = .ok (.ireturn, 1) := by decide +kernel
theorem dX5_playAct_88 : decode cX5_playAct 88 = .ok (.aload_n 0, 1) := by decide +kernel
theorem dX5_playAct_89 : decode cX5_playAct 89 = .ok (.getfield 18, 3) := by decide +kernel
theorem dX5_playAct_92 : decode cX5_playAct 92 = .ok (.getfield 77, 3) := by decide +kernel
theorem dX5_playAct_95 : decode cX5_playAct 95 = .ok (.iload_n 2, 1) := by decide +kernel
theorem dX5_playAct_96 : decode cX5_playAct 96 = .ok (.aaload, 1) := by decide +kernel
theorem dX5_playAct_97 : decode cX5_playAct 97 = .ok (.iload_n 1, 1) := by decide +kernel
theorem dX5_playAct_98 : decode cX5_playAct 98 = .ok (.putfield 89, 3) := by decide +kernel
theorem dX5_playAct_101 : decode cX5_playAct 101 = .ok (.iconst 1, 1) := by decide +kernel
theorem dX5_playAct_102 : decode cX5_playAct 102 = .ok (.ireturn, 1) := by decide +kernel
theorem dX5_ofDay_0 : decode cX5_ofDay 0 = .ok (.iload_n 1, 1) := by decide +kernel
theorem dX5_ofDay_1 : decode cX5_ofDay 1 = .ok (.tableswitch 67 0 4 #[35, 67, 43, 51, 59], 35) := by decide +kernel
theorem dX5_ofDay_36 : decode cX5_ofDay 36 = .ok (.aload_n 0, 1) := by decide +kernel
theorem dX5_ofDay_37 : decode cX5_ofDay 37 = .ok (.getfield 18, 3) := by decide +kernel
theorem dX5_ofDay_40 : decode cX5_ofDay 40 = .ok (.invokevirtual 176, 3) := by decide +kernel
theorem dX5_ofDay_43 : decode cX5_ofDay 43 = .ok (.ireturn, 1) := by decide +kernel
theorem dX5_ofDay_44 : decode cX5_ofDay 44 = .ok (.aload_n 0, 1) := by decide +kernel
theorem dX5_ofDay_45 : decode cX5_ofDay 45 = .ok (.getfield 18, 3) := by decide +kernel
theorem dX5_ofDay_48 : decode cX5_ofDay 48 = .ok (.invokevirtual 170, 3) := by decide +kernel
theorem dX5_ofDay_51 : decode cX5_ofDay 51 = .ok (.ireturn, 1) := by decide +kernel
theorem dX5_ofDay_52 : decode cX5_ofDay 52 = .ok (.aload_n 0, 1) := by decide +kernel
theorem dX5_ofDay_53 : decode cX5_ofDay 53 = .ok (.getfield 18, 3) := by decide +kernel
theorem dX5_ofDay_56 : decode cX5_ofDay 56 = .ok (.invokevirtual 167, 3) := by decide +kernel
theorem dX5_ofDay_59 : decode cX5_ofDay 59 = .ok (.ireturn, 1) := by decide +kernel
theorem dX5_ofDay_60 : decode cX5_ofDay 60 = .ok (.aload_n 0, 1) := by decide +kernel
theorem dX5_ofDay_61 : decode cX5_ofDay 61 = .ok (.getfield 18, 3) := by decide +kernel
theorem dX5_ofDay_64 : decode cX5_ofDay 64 = .ok (.invokevirtual 179, 3) := by decide +kernel
theorem dX5_ofDay_67 : decode cX5_ofDay 67 = .ok (.ireturn, 1) := by decide +kernel
theorem dX5_ofDay_68 : decode cX5_ofDay 68 = .ok (.aload_n 0, 1) := by decide +kernel
theorem dX5_ofDay_69 : decode cX5_ofDay 69 = .ok (.getfield 18, 3) := by decide +kernel
theorem dX5_ofDay_72 : decode cX5_ofDay 72 = .ok (.iload_n 1, 1) := by decide +kernel
theorem dX5_ofDay_73 : decode cX5_ofDay 73 = .ok (.bipush 10, 2) := by decide +kernel
theorem dX5_ofDay_75 : decode cX5_ofDay 75 = .ok (.isub, 1) := by decide +kernel
theorem dX5_ofDay_76 : decode cX5_ofDay 76 = .ok (.iconst (-1), 1) := by decide +kernel
theorem dX5_ofDay_77 : decode cX5_ofDay 77 = .ok (.invokevirtual 242, 3) := by decide +kernel
theorem dX5_ofDay_80 : decode cX5_ofDay 80 = .ok (.ireturn, 1) := by decide +kernel
theorem dX5_leave_0 : decode cX5_leave 0 = .ok (.aload_n 0, 1) := by decide +kernel
theorem dX5_leave_1 : decode cX5_leave 1 = .ok (.bipush 31, 2) := by decide +kernel
theorem dX5_leave_3 : decode cX5_leave 3 = .ok (.aload_n 0, 1) := by decide +kernel
theorem dX5_leave_4 : decode cX5_leave 4 = .ok (.getfield 239, 3) := by decide +kernel
theorem dX5_leave_7 : decode cX5_leave 7 = .ok (.imul, 1) := by decide +kernel
theorem dX5_leave_8 : decode cX5_leave 8 = .ok (.iload_n 1, 1) := by decide +kernel
theorem dX5_leave_9 : decode cX5_leave 9 = .ok (.iadd, 1) := by decide +kernel
theorem dX5_leave_10 : decode cX5_leave 10 = .ok (.putfield 239, 3) := by decide +kernel
theorem dX5_leave_13 : decode cX5_leave 13 = .ok (.return_, 1) := by decide +kernel
theorem dX5_plainBody_0 : decode cX5_plainBody 0 = .ok (.aload_n 0, 1) := by decide +kernel
theorem dX5_plainBody_1 : decode cX5_plainBody 1 = .ok (.iconst 1, 1) := by decide +kernel
theorem dX5_plainBody_2 : decode cX5_plainBody 2 = .ok (.invokevirtual 256, 3) := by decide +kernel
theorem dX5_plainBody_5 : decode cX5_plainBody 5 = .ok (.aload_n 1, 1) := by decide +kernel
theorem dX5_plainBody_6 : decode cX5_plainBody 6 = .ok (.getfield 89, 3) := by decide +kernel
theorem dX5_plainBody_9 : decode cX5_plainBody 9 = .ok (.ireturn, 1) := by decide +kernel
theorem dX5_bulkyBody_0 : decode cX5_bulkyBody 0 = .ok (.aload_n 0, 1) := by decide +kernel
theorem dX5_bulkyBody_1 : decode cX5_bulkyBody 1 = .ok (.iconst 2, 1) := by decide +kernel
theorem dX5_bulkyBody_2 : decode cX5_bulkyBody 2 = .ok (.invokevirtual 256, 3) := by decide +kernel
theorem dX5_bulkyBody_5 : decode cX5_bulkyBody 5 = .ok (.aload_n 0, 1) := by decide +kernel
theorem dX5_bulkyBody_6 : decode cX5_bulkyBody 6 = .ok (.aload_n 1, 1) := by decide +kernel
theorem dX5_bulkyBody_7 : decode cX5_bulkyBody 7 = .ok (.invokevirtual 230, 3) := by decide +kernel
theorem dX5_bulkyBody_10 : decode cX5_bulkyBody 10 = .ok (.bipush 100, 2) := by decide +kernel
theorem dX5_bulkyBody_12 : decode cX5_bulkyBody 12 = .ok (.iadd, 1) := by decide +kernel
theorem dX5_bulkyBody_13 : decode cX5_bulkyBody 13 = .ok (.ireturn, 1) := by decide +kernel
theorem dX5_doubleBody_0 : decode cX5_doubleBody 0 = .ok (.aload_n 0, 1) := by decide +kernel
theorem dX5_doubleBody_1 : decode cX5_doubleBody 1 = .ok (.iconst 3, 1) := by decide +kernel
theorem dX5_doubleBody_2 : decode cX5_doubleBody 2 = .ok (.invokevirtual 256, 3) := by decide +kernel
theorem dX5_doubleBody_5 : decode cX5_doubleBody 5 = .ok (.aload_n 0, 1) := by decide +kernel
theorem dX5_doubleBody_6 : decode cX5_doubleBody 6 = .ok (.aload_n 1, 1) := by decide +kernel
theorem dX5_doubleBody_7 : decode cX5_doubleBody 7 = .ok (.invokevirtual 223, 3) := by decide +kernel
theorem dX5_doubleBody_10 : decode cX5_doubleBody 10 = .ok (.istore_n 2, 1) := by decide +kernel
theorem dX5_doubleBody_11 : decode cX5_doubleBody 11 = .ok (.iload_n 2, 1) := by decide +kernel
theorem dX5_doubleBody_12 : decode cX5_doubleBody 12 = .ok (.aload_n 0, 1) := by decide +kernel
theorem dX5_doubleBody_13 : decode cX5_doubleBody 13 = .ok (.aload_n 1, 1) := by decide +kernel
theorem dX5_doubleBody_14 : decode cX5_doubleBody 14 = .ok (.invokevirtual 230, 3) := by decide +kernel
theorem dX5_doubleBody_17 : decode cX5_doubleBody 17 = .ok (.iadd, 1) := by decide +kernel
theorem dX5_doubleBody_18 : decode cX5_doubleBody 18 = .ok (.ireturn, 1) := by decide +kernel
theorem dX5_lentCiteBody_0 : decode cX5_lentCiteBody 0 = .ok (.aload_n 0, 1) := by decide +kernel
theorem dX5_lentCiteBody_1 : decode cX5_lentCiteBody 1 = .ok (.iconst 4, 1) := by decide +kernel
theorem dX5_lentCiteBody_2 : decode cX5_lentCiteBody 2 = .ok (.invokevirtual 256, 3) := by decide +kernel
theorem dX5_lentCiteBody_5 : decode cX5_lentCiteBody 5 = .ok (.aload_n 1, 1) := by decide +kernel
theorem dX5_lentCiteBody_6 : decode cX5_lentCiteBody 6 = .ok (.getfield 92, 3) := by decide +kernel
theorem dX5_lentCiteBody_9 : decode cX5_lentCiteBody 9 = .ok (.ireturn, 1) := by decide +kernel
theorem dX5_ownCiteBody_0 : decode cX5_ownCiteBody 0 = .ok (.aload_n 0, 1) := by decide +kernel
theorem dX5_ownCiteBody_1 : decode cX5_ownCiteBody 1 = .ok (.iconst 5, 1) := by decide +kernel
theorem dX5_ownCiteBody_2 : decode cX5_ownCiteBody 2 = .ok (.invokevirtual 256, 3) := by decide +kernel
theorem dX5_ownCiteBody_5 : decode cX5_ownCiteBody 5 = .ok (.bipush 60, 2) := by decide +kernel
theorem dX5_ownCiteBody_7 : decode cX5_ownCiteBody 7 = .ok (.ireturn, 1) := by decide +kernel
theorem dX6_init_0 : decode cX6_init 0 = .ok (.aload_n 0, 1) := by decide +kernel
theorem dX6_init_1 : decode cX6_init 1 = .ok (.invokespecial 1, 3) := by decide +kernel
theorem dX6_init_4 : decode cX6_init 4 = .ok (.aload_n 0, 1) := by decide +kernel
theorem dX6_init_5 : decode cX6_init 5 = .ok (.iconst 4, 1) := by decide +kernel
theorem dX6_init_6 : decode cX6_init 6 = .ok (.newarray .int, 2) := by decide +kernel
theorem dX6_init_8 : decode cX6_init 8 = .ok (.dup, 1) := by decide +kernel
theorem dX6_init_9 : decode cX6_init 9 = .ok (.iconst 0, 1) := by decide +kernel
theorem dX6_init_10 : decode cX6_init 10 = .ok (.bipush (-9), 2) := by decide +kernel
theorem dX6_init_12 : decode cX6_init 12 = .ok (.iastore, 1) := by decide +kernel
theorem dX6_init_13 : decode cX6_init 13 = .ok (.dup, 1) := by decide +kernel
theorem dX6_init_14 : decode cX6_init 14 = .ok (.iconst 1, 1) := by decide +kernel
theorem dX6_init_15 : decode cX6_init 15 = .ok (.bipush (-9), 2) := by decide +kernel
theorem dX6_init_17 : decode cX6_init 17 = .ok (.iastore, 1) := by decide +kernel
theorem dX6_init_18 : decode cX6_init 18 = .ok (.dup, 1) := by decide +kernel
theorem dX6_init_19 : decode cX6_init 19 = .ok (.iconst 2, 1) := by decide +kernel
theorem dX6_init_20 : decode cX6_init 20 = .ok (.bipush (-9), 2) := by decide +kernel
theorem dX6_init_22 : decode cX6_init 22 = .ok (.iastore, 1) := by decide +kernel
theorem dX6_init_23 : decode cX6_init 23 = .ok (.dup, 1) := by decide +kernel
theorem dX6_init_24 : decode cX6_init 24 = .ok (.iconst 3, 1) := by decide +kernel
theorem dX6_init_25 : decode cX6_init 25 = .ok (.bipush (-9), 2) := by decide +kernel
theorem dX6_init_27 : decode cX6_init 27 = .ok (.iastore, 1) := by decide +kernel
theorem dX6_init_28 : decode cX6_init 28 = .ok (.putfield 9, 3) := by decide +kernel
theorem dX6_init_31 : decode cX6_init 31 = .ok (.aload_n 0, 1) := by decide +kernel
theorem dX6_init_32 : decode cX6_init 32 = .ok (.iconst 4, 1) := by decide +kernel
theorem dX6_init_33 : decode cX6_init 33 = .ok (.newarray .int, 2) := by decide +kernel
theorem dX6_init_35 : decode cX6_init 35 = .ok (.putfield 13, 3) := by decide +kernel
theorem dX6_init_38 : decode cX6_init 38 = .ok (.aload_n 0, 1) := by decide +kernel
theorem dX6_init_39 : decode cX6_init 39 = .ok (.sipush 240, 3) := by decide +kernel
theorem dX6_init_42 : decode cX6_init 42 = .ok (.newarray .int, 2) := by decide +kernel
theorem dX6_init_44 : decode cX6_init 44 = .ok (.putfield 16, 3) := by decide +kernel
theorem dX6_init_47 : decode cX6_init 47 = .ok (.aload_n 0, 1) := by decide +kernel
theorem dX6_init_48 : decode cX6_init 48 = .ok (.bipush 35, 2) := by decide +kernel
theorem dX6_init_50 : decode cX6_init 50 = .ok (.newarray .int, 2) := by decide +kernel
theorem dX6_init_52 : decode cX6_init 52 = .ok (.putfield 19, 3) := by decide +kernel
theorem dX6_init_55 : decode cX6_init 55 = .ok (.aload_n 0, 1) := by decide +kernel
theorem dX6_init_56 : decode cX6_init 56 = .ok (.bipush 35, 2) := by decide +kernel
theorem dX6_init_58 : decode cX6_init 58 = .ok (.newarray .int, 2) := by decide +kernel
theorem dX6_init_60 : decode cX6_init 60 = .ok (.putfield 22, 3) := by decide +kernel
theorem dX6_init_63 : decode cX6_init 63 = .ok (.aload_n 0, 1) := by decide +kernel
theorem dX6_init_64 : decode cX6_init 64 = .ok (.bipush 8, 2) := by decide +kernel
theorem dX6_init_66 : decode cX6_init 66 = .ok (.newarray .int, 2) := by decide +kernel
theorem dX6_init_68 : decode cX6_init 68 = .ok (.putfield 25, 3) := by decide +kernel
theorem dX6_init_71 : decode cX6_init 71 = .ok (.aload_n 0, 1) := by decide +kernel
theorem dX6_init_72 : decode cX6_init 72 = .ok (.bipush 35, 2) := by decide +kernel
theorem dX6_init_74 : decode cX6_init 74 = .ok (.newarray .int, 2) := by decide +kernel
theorem dX6_init_76 : decode cX6_init 76 = .ok (.putfield 28, 3) := by decide +kernel
theorem dX6_init_79 : decode cX6_init 79 = .ok (.aload_n 0, 1) := by decide +kernel
theorem dX6_init_80 : decode cX6_init 80 = .ok (.bipush 8, 2) := by decide +kernel
theorem dX6_init_82 : decode cX6_init 82 = .ok (.newarray .int, 2) := by decide +kernel
theorem dX6_init_84 : decode cX6_init 84 = .ok (.putfield 31, 3) := by decide +kernel
theorem dX6_init_87 : decode cX6_init 87 = .ok (.aload_n 0, 1) := by decide +kernel
theorem dX6_init_88 : decode cX6_init 88 = .ok (.bipush 8, 2) := by decide +kernel
theorem dX6_init_90 : decode cX6_init 90 = .ok (.newarray .int, 2) := by decide +kernel
theorem dX6_init_92 : decode cX6_init 92 = .ok (.putfield 34, 3) := by decide +kernel
theorem dX6_init_95 : decode cX6_init 95 = .ok (.return_, 1) := by decide +kernel
theorem dX6_fails_0 : decode cX6_fails 0 = .ok (.aload_n 0, 1) := by decide +kernel
theorem dX6_fails_1 : decode cX6_fails 1 = .ok (.iload_n 1, 1) := by decide +kernel
theorem dX6_fails_2 : decode cX6_fails 2 = .ok (.putfield 37, 3) := by decide +kernel
theorem dX6_fails_5 : decode cX6_fails 5 = .ok (.bipush (-10), 2) := by decide +kernel
theorem dX6_fails_7 : decode cX6_fails 7 = .ok (.iload_n 1, 1) := by decide +kernel
theorem dX6_fails_8 : decode cX6_fails 8 = .ok (.isub, 1) := by decide +kernel
theorem dX6_fails_9 : decode cX6_fails 9 = .ok (.ireturn, 1) := by decide +kernel
theorem dX6_lost_0 : decode cX6_lost 0 = .ok (.aload_n 0, 1) := by decide +kernel
theorem dX6_lost_1 : decode cX6_lost 1 = .ok (.iload_n 1, 1) := by decide +kernel
theorem dX6_lost_2 : decode cX6_lost 2 = .ok (.putfield 37, 3) := by decide +kernel
theorem dX6_lost_5 : decode cX6_lost 5 = .ok (.ldc2_w 41, 3) := by decide +kernel
theorem dX6_lost_8 : decode cX6_lost 8 = .ok (.lreturn, 1) := by decide +kernel
theorem dX6_within_0 : decode cX6_within 0 = .ok (.iload_n 0, 1) := by decide +kernel
theorem dX6_within_1 : decode cX6_within 1 = .ok (.iload_n 1, 1) := by decide +kernel
theorem dX6_within_2 : decode cX6_within 2 = .ok (.if_icmp .lt 12, 3) := by decide +kernel
theorem dX6_within_5 : decode cX6_within 5 = .ok (.iload_n 0, 1) := by decide +kernel
theorem dX6_within_6 : decode cX6_within 6 = .ok (.iload_n 2, 1) := by decide +kernel
theorem dX6_within_7 : decode cX6_within 7 = .ok (.if_icmp .gt 7, 3) := by decide +kernel
theorem dX6_within_10 : decode cX6_within 10 = .ok (.iconst 1, 1) := by decide +kernel
theorem dX6_within_11 : decode cX6_within 11 = .ok (.goto 4, 3) := by decide +kernel
theorem dX6_within_14 : decode cX6_within 14 = .ok (.iconst 0, 1) := by decide +kernel
theorem dX6_within_15 : decode cX6_within 15 = .ok (.ireturn, 1) := by decide +kernel
theorem dX6_isSheet_0 : decode cX6_isSheet 0 = .ok (.iload_n 0, 1) := by decide +kernel
theorem dX6_isSheet_1 : decode cX6_isSheet 1 = .ok (.iconst 0, 1) := by decide +kernel
theorem dX6_isSheet_2 : decode cX6_isSheet 2 = .ok (.iconst 3, 1) := by decide +kernel
theorem dX6_isSheet_3 : decode cX6_isSheet 3 = .ok (.invokestatic 43, 3) := by decide +kernel
theorem dX6_isSheet_6 : decode cX6_isSheet 6 = .ok (.ireturn, 1) := by decide +kernel
theorem dX6_isSort_0 : decode cX6_isSort 0 = .ok (.iload_n 0, 1) := by decide +kernel
theorem dX6_isSort_1 : decode cX6_isSort 1 = .ok (.iconst 0, 1) := by decide +kernel
theorem dX6_isSort_2 : decode cX6_isSort 2 = .ok (.iconst 2, 1) := by decide +kernel
theorem dX6_isSort_3 : decode cX6_isSort 3 = .ok (.invokestatic 43, 3) := by decide +kernel
theorem dX6_isSort_6 : decode cX6_isSort 6 = .ok (.ireturn, 1) := by decide +kernel
theorem dX6_against_0 : decode cX6_against 0 = .ok (.aload_n 0, 1) := by decide +kernel
theorem dX6_against_1 : decode cX6_against 1 = .ok (.getfield 9, 3) := by decide +kernel
theorem dX6_against_4 : decode cX6_against 4 = .ok (.iload_n 1, 1) := by decide +kernel
theorem dX6_against_5 : decode cX6_against 5 = .ok (.iaload, 1) := by decide +kernel
theorem dX6_against_6 : decode cX6_against 6 = .ok (.bipush (-9), 2) := by decide +kernel
theorem dX6_against_8 : decode cX6_against 8 = .ok (.if_icmp .eq 15, 3) := by decide +kernel
theorem dX6_against_11 : decode cX6_against 11 = .ok (.aload_n 0, 1) := by decide +kernel
theorem dX6_against_12 : decode cX6_against 12 = .ok (.getfield 9, 3) := by decide +kernel
theorem dX6_against_15 : decode cX6_against 15 = .ok (.iload_n 1, 1) := by decide +kernel
theorem dX6_against_16 : decode cX6_against 16 = .ok (.iaload, 1) := by decide +kernel
theorem dX6_against_17 : decode cX6_against 17 = .ok (.iload_n 2, 1) := by decide +kernel
theorem dX6_against_18 : decode cX6_against 18 = .ok (.if_icmp .eq 5, 3) := by decide +kernel
theorem dX6_against_21 : decode cX6_against 21 = .ok (.iconst 2, 1) := by decide +kernel
theorem dX6_against_22 : decode cX6_against 22 = .ok (.ireturn, 1) := by decide +kernel
theorem dX6_against_23 : decode cX6_against 23 = .ok (.aload_n 0, 1) := by decide +kernel
theorem dX6_against_24 : decode cX6_against 24 = .ok (.getfield 9, 3) := by decide +kernel
theorem dX6_against_27 : decode cX6_against 27 = .ok (.iload_n 1, 1) := by decide +kernel
theorem dX6_against_28 : decode cX6_against 28 = .ok (.iaload, 1) := by decide +kernel
theorem dX6_against_29 : decode cX6_against 29 = .ok (.bipush (-9), 2) := by decide +kernel
theorem dX6_against_31 : decode cX6_against 31 = .ok (.if_icmp .ne 5, 3) := by decide +kernel
theorem dX6_against_34 : decode cX6_against 34 = .ok (.iconst 1, 1) := by decide +kernel
theorem dX6_against_35 : decode cX6_against 35 = .ok (.ireturn, 1) := by decide +kernel
theorem dX6_against_36 : decode cX6_against 36 = .ok (.iload 4, 2) := by decide +kernel
theorem dX6_against_38 : decode cX6_against 38 = .ok (.ifCond .ge 5, 3) := by decide +kernel
theorem dX6_against_41 : decode cX6_against 41 = .ok (.iconst 4, 1) := by decide +kernel
theorem dX6_against_42 : decode cX6_against 42 = .ok (.ireturn, 1) := by decide +kernel
theorem dX6_against_43 : decode cX6_against 43 = .ok (.iload_n 3, 1) := by decide +kernel
theorem dX6_against_44 : decode cX6_against 44 = .ok (.ifCond .lt 26, 3) := by decide +kernel
theorem dX6_against_47 : decode cX6_against 47 = .ok (.iload_n 3, 1) := by decide +kernel
theorem dX6_against_48 : decode cX6_against 48 = .ok (.aload_n 0, 1) := by decide +kernel
theorem dX6_against_49 : decode cX6_against 49 = .ok (.getfield 13, 3) := by decide +kernel
theorem dX6_against_52 : decode cX6_against 52 = .ok (.iload_n 1, 1) := by decide +kernel
theorem dX6_against_53 : decode cX6_against 53 = .ok (.iaload, 1) := by decide +kernel
theorem dX6_against_54 : decode cX6_against 54 = .ok (.if_icmp .gt 16, 3) := by decide +kernel
theorem dX6_against_57 : decode cX6_against 57 = .ok (.iload 4, 2) := by decide +kernel
theorem dX6_against_59 : decode cX6_against 59 = .ok (.aload_n 0, 1) := by decide +kernel
theorem dX6_against_60 : decode cX6_against 60 = .ok (.getfield 13, 3) := by decide +kernel
theorem dX6_against_63 : decode cX6_against 63 = .ok (.iload_n 1, 1) := by decide +kernel
theorem dX6_against_64 : decode cX6_against 64 = .ok (.iaload, 1) := by decide +kernel
theorem dX6_against_65 : decode cX6_against 65 = .ok (.iload_n 3, 1) := by decide +kernel
theorem dX6_against_66 : decode cX6_against 66 = .ok (.isub, 1) := by decide +kernel
theorem dX6_against_67 : decode cX6_against 67 = .ok (.if_icmp .le 7, 3) := by decide +kernel
theorem dX6_against_70 : decode cX6_against 70 = .ok (.iconst 3, 1) := by decide +kernel
theorem dX6_against_71 : decode cX6_against 71 = .ok (.goto 4, 3) := by decide +kernel
theorem dX6_against_74 : decode cX6_against 74 = .ok (.iconst 0, 1) := by decide +kernel
theorem dX6_against_75 : decode cX6_against 75 = .ok (.ireturn, 1) := by decide +kernel
theorem dX6_isRule_0 : decode cX6_isRule 0 = .ok (.iload_n 1, 1) := by decide +kernel
theorem dX6_isRule_1 : decode cX6_isRule 1 = .ok (.ifCond .lt 15, 3) := by decide +kernel
theorem dX6_isRule_4 : decode cX6_isRule 4 = .ok (.iload_n 1, 1) := by decide +kernel
theorem dX6_isRule_5 : decode cX6_isRule 5 = .ok (.aload_n 0, 1) := by decide +kernel
theorem dX6_isRule_6 : decode cX6_isRule 6 = .ok (.getfield 47, 3) := by decide +kernel
theorem dX6_isRule_9 : decode cX6_isRule 9 = .ok (.if_icmp .ge 7, 3) := by decide +kernel
theorem dX6_isRule_12 : decode cX6_isRule 12 = .ok (.iconst 1, 1) := by decide +kernel
theorem dX6_isRule_13 : decode cX6_isRule 13 = .ok (.goto 4, 3) := by decide +kernel
theorem dX6_isRule_16 : decode cX6_isRule 16 = .ok (.iconst 0, 1) := by decide +kernel
theorem dX6_isRule_17 : decode cX6_isRule 17 = .ok (.ireturn, 1) := by decide +kernel
theorem dX6_isPoint_0 : decode cX6_isPoint 0 = .ok (.iload_n 0, 1) := by decide +kernel
theorem dX6_isPoint_1 : decode cX6_isPoint 1 = .ok (.iconst 0, 1) := by decide +kernel
theorem dX6_isPoint_2 : decode cX6_isPoint 2 = .ok (.bipush 25, 2) := by decide +kernel
theorem dX6_isPoint_4 : decode cX6_isPoint 4 = .ok (.invokestatic 43, 3) := by decide +kernel
theorem dX6_isPoint_7 : decode cX6_isPoint 7 = .ok (.ireturn, 1) := by decide +kernel
theorem dX6_kindOf_0 : decode cX6_kindOf 0 = .ok (.aload_n 0, 1) := by decide +kernel
theorem dX6_kindOf_1 : decode cX6_kindOf 1 = .ok (.getfield 19, 3) := by decide +kernel
theorem dX6_kindOf_4 : decode cX6_kindOf 4 = .ok (.iconst 5, 1) := by decide +kernel
theorem dX6_kindOf_5 : decode cX6_kindOf 5 = .ok (.iload_n 1, 1) := by decide +kernel
theorem dX6_kindOf_6 : decode cX6_kindOf 6 = .ok (.imul, 1) := by decide +kernel
theorem dX6_kindOf_7 : decode cX6_kindOf 7 = .ok (.iaload, 1) := by decide +kernel
theorem dX6_kindOf_8 : decode cX6_kindOf 8 = .ok (.ireturn, 1) := by decide +kernel
theorem dX6_deedOf_0 : decode cX6_deedOf 0 = .ok (.aload_n 0, 1) := by decide +kernel
theorem dX6_deedOf_1 : decode cX6_deedOf 1 = .ok (.getfield 19, 3) := by decide +kernel
theorem dX6_deedOf_4 : decode cX6_deedOf 4 = .ok (.iconst 5, 1) := by decide +kernel
theorem dX6_deedOf_5 : decode cX6_deedOf 5 = .ok (.iload_n 1, 1) := by decide +kernel
theorem dX6_deedOf_6 : decode cX6_deedOf 6 = .ok (.imul, 1) := by decide +kernel
theorem dX6_deedOf_7 : decode cX6_deedOf 7 = .ok (.iconst 1, 1) := by decide +kernel
theorem dX6_deedOf_8 : decode cX6_deedOf 8 = .ok (.iadd, 1) := by decide +kernel
theorem dX6_deedOf_9 : decode cX6_deedOf 9 = .ok (.iaload, 1) := by decide +kernel
theorem dX6_deedOf_10 : decode cX6_deedOf 10 = .ok (.ireturn, 1) := by decide +kernel
theorem dX6_numberOf_0 : decode cX6_numberOf 0 = .ok (.aload_n 0, 1) := by decide +kernel
theorem dX6_numberOf_1 : decode cX6_numberOf 1 = .ok (.getfield 19, 3) := by decide +kernel
theorem dX6_numberOf_4 : decode cX6_numberOf 4 = .ok (.iconst 5, 1) := by decide +kernel
theorem dX6_numberOf_5 : decode cX6_numberOf 5 = .ok (.iload_n 1, 1) := by decide +kernel
theorem dX6_numberOf_6 : decode cX6_numberOf 6 = .ok (.imul, 1) := by decide +kernel
theorem dX6_numberOf_7 : decode cX6_numberOf 7 = .ok (.iconst 2, 1) := by decide +kernel
theorem dX6_numberOf_8 : decode cX6_numberOf 8 = .ok (.iadd, 1) := by decide +kernel
theorem dX6_numberOf_9 : decode cX6_numberOf 9 = .ok (.iaload, 1) := by decide +kernel
theorem dX6_numberOf_10 : decode cX6_numberOf 10 = .ok (.ireturn, 1) := by decide +kernel
theorem dX6_hasPoint_0 : decode cX6_hasPoint 0 = .ok (.iload_n 2, 1) := by decide +kernel
theorem dX6_hasPoint_1 : decode cX6_hasPoint 1 = .ok (.aload_n 0, 1) := by decide +kernel
theorem dX6_hasPoint_2 : decode cX6_hasPoint 2 = .ok (.getfield 19, 3) := by decide +kernel
theorem dX6_hasPoint_5 : decode cX6_hasPoint 5 = .ok (.iconst 5, 1) := by decide +kernel
theorem dX6_hasPoint_6 : decode cX6_hasPoint 6 = .ok (.iload_n 1, 1) := by decide +kernel
theorem dX6_hasPoint_7 : decode cX6_hasPoint 7 = .ok (.imul, 1) := by decide +kernel
theorem dX6_hasPoint_8 : decode cX6_hasPoint 8 = .ok (.iconst 3, 1) := by decide +kernel
theorem dX6_hasPoint_9 : decode cX6_hasPoint 9 = .ok (.iadd, 1) := by decide +kernel
theorem dX6_hasPoint_10 : decode cX6_hasPoint 10 = .ok (.iaload, 1) := by decide +kernel
theorem dX6_hasPoint_11 : decode cX6_hasPoint 11 = .ok (.if_icmp .lt 21, 3) := by decide +kernel
theorem dX6_hasPoint_14 : decode cX6_hasPoint 14 = .ok (.iload_n 2, 1) := by decide +kernel
theorem dX6_hasPoint_15 : decode cX6_hasPoint 15 = .ok (.aload_n 0, 1) := by decide +kernel
theorem dX6_hasPoint_16 : decode cX6_hasPoint 16 = .ok (.getfield 19, 3) := by decide +kernel
theorem dX6_hasPoint_19 : decode cX6_hasPoint 19 = .ok (.iconst 5, 1) := by decide +kernel
theorem dX6_hasPoint_20 : decode cX6_hasPoint 20 = .ok (.iload_n 1, 1) := by decide +kernel
theorem dX6_hasPoint_21 : decode cX6_hasPoint 21 = .ok (.imul, 1) := by decide +kernel
theorem dX6_hasPoint_22 : decode cX6_hasPoint 22 = .ok (.iconst 4, 1) := by decide +kernel
theorem dX6_hasPoint_23 : decode cX6_hasPoint 23 = .ok (.iadd, 1) := by decide +kernel
theorem dX6_hasPoint_24 : decode cX6_hasPoint 24 = .ok (.iaload, 1) := by decide +kernel
theorem dX6_hasPoint_25 : decode cX6_hasPoint 25 = .ok (.if_icmp .gt 7, 3) := by decide +kernel
theorem dX6_hasPoint_28 : decode cX6_hasPoint 28 = .ok (.iconst 1, 1) := by decide +kernel
theorem dX6_hasPoint_29 : decode cX6_hasPoint 29 = .ok (.goto 4, 3) := by decide +kernel
theorem dX6_hasPoint_32 : decode cX6_hasPoint 32 = .ok (.iconst 0, 1) := by decide +kernel
theorem dX6_hasPoint_33 : decode cX6_hasPoint 33 = .ok (.ireturn, 1) := by decide +kernel
theorem dX6_worthOf_0 : decode cX6_worthOf 0 = .ok (.aload_n 0, 1) := by decide +kernel
theorem dX6_worthOf_1 : decode cX6_worthOf 1 = .ok (.iload_n 1, 1) := by decide +kernel
theorem dX6_worthOf_2 : decode cX6_worthOf 2 = .ok (.invokevirtual 50, 3) := by decide +kernel
theorem dX6_worthOf_5 : decode cX6_worthOf 5 = .ok (.ifCond .ne 11, 3) := by decide +kernel
theorem dX6_worthOf_8 : decode cX6_worthOf 8 = .ok (.aload_n 0, 1) := by decide +kernel
theorem dX6_worthOf_9 : decode cX6_worthOf 9 = .ok (.iload_n 1, 1) := by decide +kernel
theorem dX6_worthOf_10 : decode cX6_worthOf 10 = .ok (.invokevirtual 54, 3) := by decide +kernel
theorem dX6_worthOf_13 : decode cX6_worthOf 13 = .ok (.goto 29, 3) := by decide +kernel
theorem dX6_worthOf_16 : decode cX6_worthOf 16 = .ok (.aload_n 0, 1) := by decide +kernel
theorem dX6_worthOf_17 : decode cX6_worthOf 17 = .ok (.iload_n 1, 1) := by decide +kernel
theorem dX6_worthOf_18 : decode cX6_worthOf 18 = .ok (.invokevirtual 50, 3) := by decide +kernel
theorem dX6_worthOf_21 : decode cX6_worthOf 21 = .ok (.iconst 1, 1) := by decide +kernel
theorem dX6_worthOf_22 : decode cX6_worthOf 22 = .ok (.if_icmp .ne 13, 3) := by decide +kernel
theorem dX6_worthOf_25 : decode cX6_worthOf 25 = .ok (.aload_n 0, 1) := by decide +kernel
theorem dX6_worthOf_26 : decode cX6_worthOf 26 = .ok (.iload_n 1, 1) := by decide +kernel
theorem dX6_worthOf_27 : decode cX6_worthOf 27 = .ok (.invokevirtual 54, 3) := by decide +kernel
theorem dX6_worthOf_30 : decode cX6_worthOf 30 = .ok (.iconst 1, 1) := by decide +kernel
theorem dX6_worthOf_31 : decode cX6_worthOf 31 = .ok (.iadd, 1) := by decide +kernel
theorem dX6_worthOf_32 : decode cX6_worthOf 32 = .ok (.goto 10, 3) := by decide +kernel
theorem dX6_worthOf_35 : decode cX6_worthOf 35 = .ok (.iconst 2, 1) := by decide +kernel
theorem dX6_worthOf_36 : decode cX6_worthOf 36 = .ok (.aload_n 0, 1) := by decide +kernel
theorem dX6_worthOf_37 : decode cX6_worthOf 37 = .ok (.iload_n 1, 1) := by decide +kernel
theorem dX6_worthOf_38 : decode cX6_worthOf 38 = .ok (.invokevirtual 54, 3) := by decide +kernel
theorem dX6_worthOf_41 : decode cX6_worthOf 41 = .ok (.imul, 1) := by decide +kernel
theorem dX6_worthOf_42 : decode cX6_worthOf 42 = .ok (.ireturn, 1) := by decide +kernel
theorem dX6_rules_0 : decode cX6_rules 0 = .ok (.aload_n 0, 1) := by decide +kernel
theorem dX6_rules_1 : decode cX6_rules 1 = .ok (.iconst 0, 1) := by decide +kernel
theorem dX6_rules_2 : decode cX6_rules 2 = .ok (.putfield 37, 3) := by decide +kernel
theorem dX6_rules_5 : decode cX6_rules 5 = .ok (.iload_n 1, 1) := by decide +kernel
theorem dX6_rules_6 : decode cX6_rules 6 = .ok (.invokestatic 57, 3) := by decide +kernel
theorem dX6_rules_9 : decode cX6_rules 9 = .ok (.ifCond .ne 5, 3) := by decide +kernel
theorem dX6_rules_12 : decode cX6_rules 12 = .ok (.iconst (-1), 1) := by decide +kernel
theorem dX6_rules_13 : decode cX6_rules 13 = .ok (.ireturn, 1) := by decide +kernel
theorem dX6_rules_14 : decode cX6_rules 14 = .ok (.iload_n 2, 1) := by decide +kernel
theorem dX6_rules_15 : decode cX6_rules 15 = .ok (.invokestatic 61, 3) := by decide +kernel
theorem dX6_rules_18 : decode cX6_rules 18 = .ok (.ifCond .ne 6, 3) := by decide +kernel
theorem dX6_rules_21 : decode cX6_rules 21 = .ok (.bipush (-2), 2) := by decide +kernel
theorem dX6_rules_23 : decode cX6_rules 23 = .ok (.ireturn, 1) := by decide +kernel
theorem dX6_rules_24 : decode cX6_rules 24 = .ok (.aload_n 0, 1) := by decide +kernel
theorem dX6_rules_25 : decode cX6_rules 25 = .ok (.iload_n 1, 1) := by decide +kernel
theorem dX6_rules_26 : decode cX6_rules 26 = .ok (.iload_n 2, 1) := by decide +kernel
theorem dX6_rules_27 : decode cX6_rules 27 = .ok (.iload_n 3, 1) := by decide +kernel
theorem dX6_rules_28 : decode cX6_rules 28 = .ok (.iload 4, 2) := by decide +kernel
theorem dX6_rules_30 : decode cX6_rules 30 = .ok (.invokevirtual 64, 3) := by decide +kernel
theorem dX6_rules_33 : decode cX6_rules 33 = .ok (.istore 5, 2) := by decide +kernel
theorem dX6_rules_35 : decode cX6_rules 35 = .ok (.iload 5, 2) := by decide +kernel
theorem dX6_rules_37 : decode cX6_rules 37 = .ok (.ifCond .eq 10, 3) := by decide +kernel
theorem dX6_rules_40 : decode cX6_rules 40 = .ok (.aload_n 0, 1) := by decide +kernel
theorem dX6_rules_41 : decode cX6_rules 41 = .ok (.iload 5, 2) := by decide +kernel
theorem dX6_rules_43 : decode cX6_rules 43 = .ok (.invokevirtual 68, 3) := by decide +kernel
theorem dX6_rules_46 : decode cX6_rules 46 = .ok (.ireturn, 1) := by decide +kernel
theorem dX6_rules_47 : decode cX6_rules 47 = .ok (.bipush 60, 2) := by decide +kernel
theorem dX6_rules_49 : decode cX6_rules 49 = .ok (.iload_n 1, 1) := by decide +kernel
theorem dX6_rules_50 : decode cX6_rules 50 = .ok (.imul, 1) := by decide +kernel
theorem dX6_rules_51 : decode cX6_rules 51 = .ok (.iload_n 3, 1) := by decide +kernel
theorem dX6_rules_52 : decode cX6_rules 52 = .ok (.iadd, 1) := by decide +kernel
theorem dX6_rules_53 : decode cX6_rules 53 = .ok (.istore 6, 2) := by decide +kernel
theorem dX6_rules_55 : decode cX6_rules 55 = .ok (.aload_n 0, 1) := by decide +kernel
theorem dX6_rules_56 : decode cX6_rules 56 = .ok (.iload 6, 2) := by decide +kernel
theorem dX6_rules_58 : decode cX6_rules 58 = .ok (.putfield 71, 3) := by decide +kernel
theorem dX6_rules_61 : decode cX6_rules 61 = .ok (.aload_n 0, 1) := by decide +kernel
theorem dX6_rules_62 : decode cX6_rules 62 = .ok (.iload 6, 2) := by decide +kernel
theorem dX6_rules_64 : decode cX6_rules 64 = .ok (.iload 4, 2) := by decide +kernel
theorem dX6_rules_66 : decode cX6_rules 66 = .ok (.iadd, 1) := by decide +kernel
theorem dX6_rules_67 : decode cX6_rules 67 = .ok (.invokevirtual 74, 3) := by decide +kernel
theorem dX6_rules_70 : decode cX6_rules 70 = .ok (.ifCond .ne 14, 3) := by decide +kernel
theorem dX6_rules_73 : decode cX6_rules 73 = .ok (.bipush (-100), 2) := by decide +kernel
theorem dX6_rules_75 : decode cX6_rules 75 = .ok (.aload_n 0, 1) := by decide +kernel
theorem dX6_rules_76 : decode cX6_rules 76 = .ok (.getfield 71, 3) := by decide +kernel
theorem dX6_rules_79 : decode cX6_rules 79 = .ok (.iload 6, 2) := by decide +kernel
theorem dX6_rules_81 : decode cX6_rules 81 = .ok (.isub, 1) := by decide +kernel
theorem dX6_rules_82 : decode cX6_rules 82 = .ok (.isub, 1) := by decide +kernel
theorem dX6_rules_83 : decode cX6_rules 83 = .ok (.ireturn, 1) := by decide +kernel
theorem dX6_rules_84 : decode cX6_rules 84 = .ok (.aload_n 0, 1) := by decide +kernel
theorem dX6_rules_85 : decode cX6_rules 85 = .ok (.aload_n 0, 1) := by decide +kernel
theorem dX6_rules_86 : decode cX6_rules 86 = .ok (.getfield 77, 3) := by decide +kernel
theorem dX6_rules_89 : decode cX6_rules 89 = .ok (.putfield 47, 3) := by decide +kernel
theorem dX6_rules_92 : decode cX6_rules 92 = .ok (.iconst 0, 1) := by decide +kernel
theorem dX6_rules_93 : decode cX6_rules 93 = .ok (.istore 7, 2) := by decide +kernel
theorem dX6_rules_95 : decode cX6_rules 95 = .ok (.iload 7, 2) := by decide +kernel
theorem dX6_rules_97 : decode cX6_rules 97 = .ok (.bipush 35, 2) := by decide +kernel
theorem dX6_rules_99 : decode cX6_rules 99 = .ok (.if_icmp .ge 23, 3) := by decide +kernel
theorem dX6_rules_102 : decode cX6_rules 102 = .ok (.aload_n 0, 1) := by decide +kernel
theorem dX6_rules_103 : decode cX6_rules 103 = .ok (.getfield 19, 3) := by decide +kernel
theorem dX6_rules_106 : decode cX6_rules 106 = .ok (.iload 7, 2) := by decide +kernel
theorem dX6_rules_108 : decode cX6_rules 108 = .ok (.aload_n 0, 1) := by decide +kernel
theorem dX6_rules_109 : decode cX6_rules 109 = .ok (.getfield 22, 3) := by decide +kernel
theorem dX6_rules_112 : decode cX6_rules 112 = .ok (.iload 7, 2) := by decide +kernel
theorem dX6_rules_114 : decode cX6_rules 114 = .ok (.iaload, 1) := by decide +kernel
theorem dX6_rules_115 : decode cX6_rules 115 = .ok (.iastore, 1) := by decide +kernel
theorem dX6_rules_116 : decode cX6_rules 116 = .ok (.iinc 7 1, 3) := by decide +kernel
theorem dX6_rules_119 : decode cX6_rules 119 = .ok (.goto (-24), 3) := by decide +kernel
theorem dX6_rules_122 : decode cX6_rules 122 = .ok (.aload_n 0, 1) := by decide +kernel
theorem dX6_rules_123 : decode cX6_rules 123 = .ok (.iconst 0, 1) := by decide +kernel
theorem dX6_rules_124 : decode cX6_rules 124 = .ok (.putfield 80, 3) := by decide +kernel
theorem dX6_rules_127 : decode cX6_rules 127 = .ok (.aload_n 0, 1) := by decide +kernel
theorem dX6_rules_128 : decode cX6_rules 128 = .ok (.getfield 47, 3) := by decide +kernel
theorem dX6_rules_131 : decode cX6_rules 131 = .ok (.ireturn, 1) := by decide +kernel
theorem dX6_isSign_0 : decode cX6_isSign 0 = .ok (.aload_n 0, 1) := by decide +kernel
theorem dX6_isSign_1 : decode cX6_isSign 1 = .ok (.getfield 71, 3) := by decide +kernel
theorem dX6_isSign_4 : decode cX6_isSign 4 = .ok (.iload_n 1, 1) := by decide +kernel
theorem dX6_isSign_5 : decode cX6_isSign 5 = .ok (.if_icmp .ge 16, 3) := by decide +kernel
theorem dX6_isSign_8 : decode cX6_isSign 8 = .ok (.aload_n 0, 1) := by decide +kernel
theorem dX6_isSign_9 : decode cX6_isSign 9 = .ok (.getfield 16, 3) := by decide +kernel
theorem dX6_isSign_12 : decode cX6_isSign 12 = .ok (.aload_n 0, 1) := by decide +kernel
theorem dX6_isSign_13 : decode cX6_isSign 13 = .ok (.getfield 71, 3) := by decide +kernel
theorem dX6_isSign_16 : decode cX6_isSign 16 = .ok (.iaload, 1) := by decide +kernel
theorem dX6_isSign_17 : decode cX6_isSign 17 = .ok (.iload_n 2, 1) := by decide +kernel
theorem dX6_isSign_18 : decode cX6_isSign 18 = .ok (.if_icmp .eq 5, 3) := by decide +kernel
theorem dX6_isSign_21 : decode cX6_isSign 21 = .ok (.iconst 0, 1) := by decide +kernel
theorem dX6_isSign_22 : decode cX6_isSign 22 = .ok (.ireturn, 1) := by decide +kernel
theorem dX6_isSign_23 : decode cX6_isSign 23 = .ok (.aload_n 0, 1) := by decide +kernel
theorem dX6_isSign_24 : decode cX6_isSign 24 = .ok (.dup, 1) := by decide +kernel
theorem dX6_isSign_25 : decode cX6_isSign 25 = .ok (.getfield 71, 3) := by decide +kernel
theorem dX6_isSign_28 : decode cX6_isSign 28 = .ok (.iconst 1, 1) := by decide +kernel
theorem dX6_isSign_29 : decode cX6_isSign 29 = .ok (.iadd, 1) := by decide +kernel
theorem dX6_isSign_30 : decode cX6_isSign 30 = .ok (.putfield 71, 3) := by decide +kernel
theorem dX6_isSign_33 : decode cX6_isSign 33 = .ok (.iconst 1, 1) := by decide +kernel
theorem dX6_isSign_34 : decode cX6_isSign 34 = .ok (.ireturn, 1) := by decide +kernel
theorem dX6_readAll_0 : decode cX6_readAll 0 = .ok (.aload_n 0, 1) := by decide +kernel
theorem dX6_readAll_1 : decode cX6_readAll 1 = .ok (.iconst 0, 1) := by decide +kernel
theorem dX6_readAll_2 : decode cX6_readAll 2 = .ok (.putfield 77, 3) := by decide +kernel
theorem dX6_readAll_5 : decode cX6_readAll 5 = .ok (.aload_n 0, 1) := by decide +kernel
theorem dX6_readAll_6 : decode cX6_readAll 6 = .ok (.iload_n 1, 1) := by decide +kernel
theorem dX6_readAll_7 : decode cX6_readAll 7 = .ok (.bipush 113, 2) := by decide +kernel
theorem dX6_readAll_9 : decode cX6_readAll 9 = .ok (.invokevirtual 83, 3) := by decide +kernel
theorem dX6_readAll_12 : decode cX6_readAll 12 = .ok (.ifCond .ne 5, 3) := by decide +kernel
theorem dX6_readAll_15 : decode cX6_readAll 15 = .ok (.iconst 0, 1) := by decide +kernel
theorem dX6_readAll_16 : decode cX6_readAll 16 = .ok (.ireturn, 1) := by decide +kernel
theorem dX6_readAll_17 : decode cX6_readAll 17 = .ok (.aload_n 0, 1) := by decide +kernel
theorem dX6_readAll_18 : decode cX6_readAll 18 = .ok (.getfield 77, 3) := by decide +kernel
theorem dX6_readAll_21 : decode cX6_readAll 21 = .ok (.ifCond .eq 20, 3) := by decide +kernel
theorem dX6_readAll_24 : decode cX6_readAll 24 = .ok (.aload_n 0, 1) := by decide +kernel
theorem dX6_readAll_25 : decode cX6_readAll 25 = .ok (.getfield 77, 3) := by decide +kernel
theorem dX6_readAll_28 : decode cX6_readAll 28 = .ok (.bipush 7, 2) := by decide +kernel
theorem dX6_readAll_30 : decode cX6_readAll 30 = .ok (.if_icmp .ge 50, 3) := by decide +kernel
theorem dX6_readAll_33 : decode cX6_readAll 33 = .ok (.aload_n 0, 1) := by decide +kernel
theorem dX6_readAll_34 : decode cX6_readAll 34 = .ok (.getfield 71, 3) := by decide +kernel
theorem dX6_readAll_37 : decode cX6_readAll 37 = .ok (.iload_n 1, 1) := by decide +kernel
theorem dX6_readAll_38 : decode cX6_readAll 38 = .ok (.if_icmp .ge 42, 3) := by decide +kernel
theorem dX6_readAll_41 : decode cX6_readAll 41 = .ok (.aload_n 0, 1) := by decide +kernel
theorem dX6_readAll_42 : decode cX6_readAll 42 = .ok (.iload_n 1, 1) := by decide +kernel
theorem dX6_readAll_43 : decode cX6_readAll 43 = .ok (.bipush 59, 2) := by decide +kernel
theorem dX6_readAll_45 : decode cX6_readAll 45 = .ok (.invokevirtual 83, 3) := by decide +kernel
theorem dX6_readAll_48 : decode cX6_readAll 48 = .ok (.ifCond .eq 17, 3) := by decide +kernel
theorem dX6_readAll_51 : decode cX6_readAll 51 = .ok (.aload_n 0, 1) := by decide +kernel
theorem dX6_readAll_52 : decode cX6_readAll 52 = .ok (.iload_n 1, 1) := by decide +kernel
theorem dX6_readAll_53 : decode cX6_readAll 53 = .ok (.iconst 5, 1) := by decide +kernel
theorem dX6_readAll_54 : decode cX6_readAll 54 = .ok (.aload_n 0, 1) := by decide +kernel
theorem dX6_readAll_55 : decode cX6_readAll 55 = .ok (.getfield 77, 3) := by decide +kernel
theorem dX6_readAll_58 : decode cX6_readAll 58 = .ok (.imul, 1) := by decide +kernel
theorem dX6_readAll_59 : decode cX6_readAll 59 = .ok (.invokevirtual 87, 3) := by decide +kernel
theorem dX6_readAll_62 : decode cX6_readAll 62 = .ok (.ifCond .ne 5, 3) := by decide +kernel
theorem dX6_readAll_65 : decode cX6_readAll 65 = .ok (.iconst 0, 1) := by decide +kernel
theorem dX6_readAll_66 : decode cX6_readAll 66 = .ok (.ireturn, 1) := by decide +kernel
theorem dX6_readAll_67 : decode cX6_readAll 67 = .ok (.aload_n 0, 1) := by decide +kernel
theorem dX6_readAll_68 : decode cX6_readAll 68 = .ok (.dup, 1) := by decide +kernel
theorem dX6_readAll_69 : decode cX6_readAll 69 = .ok (.getfield 77, 3) := by decide +kernel
theorem dX6_readAll_72 : decode cX6_readAll 72 = .ok (.iconst 1, 1) := by decide +kernel
theorem dX6_readAll_73 : decode cX6_readAll 73 = .ok (.iadd, 1) := by decide +kernel
theorem dX6_readAll_74 : decode cX6_readAll 74 = .ok (.putfield 77, 3) := by decide +kernel
theorem dX6_readAll_77 : decode cX6_readAll 77 = .ok (.goto (-60), 3) := by decide +kernel
theorem dX6_readAll_80 : decode cX6_readAll 80 = .ok (.aload_n 0, 1) := by decide +kernel
theorem dX6_readAll_81 : decode cX6_readAll 81 = .ok (.getfield 71, 3) := by decide +kernel
theorem dX6_readAll_84 : decode cX6_readAll 84 = .ok (.iload_n 1, 1) := by decide +kernel
theorem dX6_readAll_85 : decode cX6_readAll 85 = .ok (.if_icmp .ne 7, 3) := by decide +kernel
theorem dX6_readAll_88 : decode cX6_readAll 88 = .ok (.iconst 1, 1) := by decide +kernel
theorem dX6_readAll_89 : decode cX6_readAll 89 = .ok (.goto 4, 3) := by decide +kernel
theorem dX6_readAll_92 : decode cX6_readAll 92 = .ok (.iconst 0, 1) := by decide +kernel
theorem dX6_readAll_93 : decode cX6_readAll 93 = .ok (.ireturn, 1) := by decide +kernel
theorem dX6_readRule_0 : decode cX6_readRule 0 = .ok (.aload_n 0, 1) := by decide +kernel
theorem dX6_readRule_1 : decode cX6_readRule 1 = .ok (.getfield 71, 3) := by decide +kernel
theorem dX6_readRule_4 : decode cX6_readRule 4 = .ok (.iload_n 1, 1) := by decide +kernel
theorem dX6_readRule_5 : decode cX6_readRule 5 = .ok (.if_icmp .ge 15, 3) := by decide +kernel
theorem dX6_readRule_8 : decode cX6_readRule 8 = .ok (.aload_n 0, 1) := by decide +kernel
theorem dX6_readRule_9 : decode cX6_readRule 9 = .ok (.getfield 16, 3) := by decide +kernel
theorem dX6_readRule_12 : decode cX6_readRule 12 = .ok (.aload_n 0, 1) := by decide +kernel
theorem dX6_readRule_13 : decode cX6_readRule 13 = .ok (.getfield 71, 3) := by decide +kernel
theorem dX6_readRule_16 : decode cX6_readRule 16 = .ok (.iaload, 1) := by decide +kernel
theorem dX6_readRule_17 : decode cX6_readRule 17 = .ok (.goto 4, 3) := by decide +kernel
theorem dX6_readRule_20 : decode cX6_readRule 20 = .ok (.iconst 0, 1) := by decide +kernel
theorem dX6_readRule_21 : decode cX6_readRule 21 = .ok (.istore_n 3, 1) := by decide +kernel
theorem dX6_readRule_22 : decode cX6_readRule 22 = .ok (.aload_n 0, 1) := by decide +kernel
theorem dX6_readRule_23 : decode cX6_readRule 23 = .ok (.getfield 22, 3) := by decide +kernel
theorem dX6_readRule_26 : decode cX6_readRule 26 = .ok (.iload_n 2, 1) := by decide +kernel
theorem dX6_readRule_27 : decode cX6_readRule 27 = .ok (.iload_n 3, 1) := by decide +kernel
theorem dX6_readRule_28 : decode cX6_readRule 28 = .ok (.bipush 80, 2) := by decide +kernel
theorem dX6_readRule_30 : decode cX6_readRule 30 = .ok (.if_icmp .ne 7, 3) := by decide +kernel
theorem dX6_readRule_33 : decode cX6_readRule 33 = .ok (.iconst 0, 1) := by decide +kernel
theorem dX6_readRule_34 : decode cX6_readRule 34 = .ok (.goto 25, 3) := by decide +kernel
theorem dX6_readRule_37 : decode cX6_readRule 37 = .ok (.iload_n 3, 1) := by decide +kernel
theorem dX6_readRule_38 : decode cX6_readRule 38 = .ok (.bipush 66, 2) := by decide +kernel
theorem dX6_readRule_40 : decode cX6_readRule 40 = .ok (.if_icmp .ne 7, 3) := by decide +kernel
theorem dX6_readRule_43 : decode cX6_readRule 43 = .ok (.iconst 1, 1) := by decide +kernel
theorem dX6_readRule_44 : decode cX6_readRule 44 = .ok (.goto 15, 3) := by decide +kernel
theorem dX6_readRule_47 : decode cX6_readRule 47 = .ok (.iload_n 3, 1) := by decide +kernel
theorem dX6_readRule_48 : decode cX6_readRule 48 = .ok (.bipush 87, 2) := by decide +kernel
theorem dX6_readRule_50 : decode cX6_readRule 50 = .ok (.if_icmp .ne 7, 3) := by decide +kernel
theorem dX6_readRule_53 : decode cX6_readRule 53 = .ok (.iconst 2, 1) := by decide +kernel
theorem dX6_readRule_54 : decode cX6_readRule 54 = .ok (.goto 5, 3) := by decide +kernel
theorem dX6_readRule_57 : decode cX6_readRule 57 = .ok (.bipush (-9), 2) := by decide +kernel
theorem dX6_readRule_59 : decode cX6_readRule 59 = .ok (.iastore, 1) := by decide +kernel
theorem dX6_readRule_60 : decode cX6_readRule 60 = .ok (.aload_n 0, 1) := by decide +kernel
theorem dX6_readRule_61 : decode cX6_readRule 61 = .ok (.getfield 22, 3) := by decide +kernel
theorem dX6_readRule_64 : decode cX6_readRule 64 = .ok (.iload_n 2, 1) := by decide +kernel
theorem dX6_readRule_65 : decode cX6_readRule 65 = .ok (.iaload, 1) := by decide +kernel
theorem dX6_readRule_66 : decode cX6_readRule 66 = .ok (.bipush (-9), 2) := by decide +kernel
theorem dX6_readRule_68 : decode cX6_readRule 68 = .ok (.if_icmp .ne 5, 3) := by decide +kernel
theorem dX6_readRule_71 : decode cX6_readRule 71 = .ok (.iconst 0, 1) := by decide +kernel
theorem dX6_readRule_72 : decode cX6_readRule 72 = .ok (.ireturn, 1) := by decide +kernel
theorem dX6_readRule_73 : decode cX6_readRule 73 = .ok (.aload_n 0, 1) := by decide +kernel
theorem dX6_readRule_74 : decode cX6_readRule 74 = .ok (.dup, 1) := by decide +kernel
theorem dX6_readRule_75 : decode cX6_readRule 75 = .ok (.getfield 71, 3) := by decide +kernel
theorem dX6_readRule_78 : decode cX6_readRule 78 = .ok (.iconst 1, 1) := by decide +kernel
theorem dX6_readRule_79 : decode cX6_readRule 79 = .ok (.iadd, 1) := by decide +kernel
theorem dX6_readRule_80 : decode cX6_readRule 80 = .ok (.putfield 71, 3) := by decide +kernel
theorem dX6_readRule_83 : decode cX6_readRule 83 = .ok (.aload_n 0, 1) := by decide +kernel
theorem dX6_readRule_84 : decode cX6_readRule 84 = .ok (.getfield 71, 3) := by decide +kernel
theorem dX6_readRule_87 : decode cX6_readRule 87 = .ok (.iload_n 1, 1) := by decide +kernel
theorem dX6_readRule_88 : decode cX6_readRule 88 = .ok (.if_icmp .ge 15, 3) := by decide +kernel
theorem dX6_readRule_91 : decode cX6_readRule 91 = .ok (.aload_n 0, 1) := by decide +kernel
theorem dX6_readRule_92 : decode cX6_readRule 92 = .ok (.getfield 16, 3) := by decide +kernel
theorem dX6_readRule_95 : decode cX6_readRule 95 = .ok (.aload_n 0, 1) := by decide +kernel
theorem dX6_readRule_96 : decode cX6_readRule 96 = .ok (.getfield 71, 3) := by decide +kernel
theorem dX6_readRule_99 : decode cX6_readRule 99 = .ok (.iaload, 1) := by decide +kernel
theorem dX6_readRule_100 : decode cX6_readRule 100 = .ok (.goto 4, 3) := by decide +kernel
theorem dX6_readRule_103 : decode cX6_readRule 103 = .ok (.iconst 0, 1) := by decide +kernel
theorem dX6_readRule_104 : decode cX6_readRule 104 = .ok (.istore_n 3, 1) := by decide +kernel
theorem dX6_readRule_105 : decode cX6_readRule 105 = .ok (.aload_n 0, 1) := by decide +kernel
theorem dX6_readRule_106 : decode cX6_readRule 106 = .ok (.getfield 22, 3) := by decide +kernel
theorem dX6_readRule_109 : decode cX6_readRule 109 = .ok (.iload_n 2, 1) := by decide +kernel
theorem dX6_readRule_110 : decode cX6_readRule 110 = .ok (.iconst 1, 1) := by decide +kernel
theorem dX6_readRule_111 : decode cX6_readRule 111 = .ok (.iadd, 1) := by decide +kernel
theorem dX6_readRule_112 : decode cX6_readRule 112 = .ok (.iload_n 3, 1) := by decide +kernel
theorem dX6_readRule_113 : decode cX6_readRule 113 = .ok (.bipush 71, 2) := by decide +kernel
theorem dX6_readRule_115 : decode cX6_readRule 115 = .ok (.if_icmp .ne 7, 3) := by decide +kernel
theorem dX6_readRule_118 : decode cX6_readRule 118 = .ok (.iconst 0, 1) := by decide +kernel
theorem dX6_readRule_119 : decode cX6_readRule 119 = .ok (.goto 25, 3) := by decide +kernel
theorem dX6_readRule_122 : decode cX6_readRule 122 = .ok (.iload_n 3, 1) := by decide +kernel
theorem dX6_readRule_123 : decode cX6_readRule 123 = .ok (.bipush 68, 2) := by decide +kernel
theorem dX6_readRule_125 : decode cX6_readRule 125 = .ok (.if_icmp .ne 7, 3) := by decide +kernel
theorem dX6_readRule_128 : decode cX6_readRule 128 = .ok (.iconst 1, 1) := by decide +kernel
theorem dX6_readRule_129 : decode cX6_readRule 129 = .ok (.goto 15, 3) := by decide +kernel
theorem dX6_readRule_132 : decode cX6_readRule 132 = .ok (.iload_n 3, 1) := by decide +kernel
theorem dX6_readRule_133 : decode cX6_readRule 133 = .ok (.bipush 74, 2) := by decide +kernel
theorem dX6_readRule_135 : decode cX6_readRule 135 = .ok (.if_icmp .ne 7, 3) := by decide +kernel
theorem dX6_readRule_138 : decode cX6_readRule 138 = .ok (.iconst 2, 1) := by decide +kernel
theorem dX6_readRule_139 : decode cX6_readRule 139 = .ok (.goto 5, 3) := by decide +kernel
theorem dX6_readRule_142 : decode cX6_readRule 142 = .ok (.bipush (-9), 2) := by decide +kernel
theorem dX6_readRule_144 : decode cX6_readRule 144 = .ok (.iastore, 1) := by decide +kernel
theorem dX6_readRule_145 : decode cX6_readRule 145 = .ok (.aload_n 0, 1) := by decide +kernel
theorem dX6_readRule_146 : decode cX6_readRule 146 = .ok (.getfield 22, 3) := by decide +kernel
theorem dX6_readRule_149 : decode cX6_readRule 149 = .ok (.iload_n 2, 1) := by decide +kernel
theorem dX6_readRule_150 : decode cX6_readRule 150 = .ok (.iconst 1, 1) := by decide +kernel
theorem dX6_readRule_151 : decode cX6_readRule 151 = .ok (.iadd, 1) := by decide +kernel
theorem dX6_readRule_152 : decode cX6_readRule 152 = .ok (.iaload, 1) := by decide +kernel
theorem dX6_readRule_153 : decode cX6_readRule 153 = .ok (.bipush (-9), 2) := by decide +kernel
theorem dX6_readRule_155 : decode cX6_readRule 155 = .ok (.if_icmp .ne 5, 3) := by decide +kernel
theorem dX6_readRule_158 : decode cX6_readRule 158 = .ok (.iconst 0, 1) := by decide +kernel
theorem dX6_readRule_159 : decode cX6_readRule 159 = .ok (.ireturn, 1) := by decide +kernel
theorem dX6_readRule_160 : decode cX6_readRule 160 = .ok (.aload_n 0, 1) := by decide +kernel
theorem dX6_readRule_161 : decode cX6_readRule 161 = .ok (.dup, 1) := by decide +kernel
theorem dX6_readRule_162 : decode cX6_readRule 162 = .ok (.getfield 71, 3) := by decide +kernel
theorem dX6_readRule_165 : decode cX6_readRule 165 = .ok (.iconst 1, 1) := by decide +kernel
theorem dX6_readRule_166 : decode cX6_readRule 166 = .ok (.iadd, 1) := by decide +kernel
theorem dX6_readRule_167 : decode cX6_readRule 167 = .ok (.putfield 71, 3) := by decide +kernel
theorem dX6_readRule_170 : decode cX6_readRule 170 = .ok (.aload_n 0, 1) := by decide +kernel
theorem dX6_readRule_171 : decode cX6_readRule 171 = .ok (.iload_n 1, 1) := by decide +kernel
theorem dX6_readRule_172 : decode cX6_readRule 172 = .ok (.iload_n 2, 1) := by decide +kernel
theorem dX6_readRule_173 : decode cX6_readRule 173 = .ok (.iconst 2, 1) := by decide +kernel
theorem dX6_readRule_174 : decode cX6_readRule 174 = .ok (.iadd, 1) := by decide +kernel
theorem dX6_readRule_175 : decode cX6_readRule 175 = .ok (.bipush 49, 2) := by decide +kernel
theorem dX6_readRule_177 : decode cX6_readRule 177 = .ok (.bipush 57, 2) := by decide +kernel
theorem dX6_readRule_179 : decode cX6_readRule 179 = .ok (.bipush 48, 2) := by decide +kernel
theorem dX6_readRule_181 : decode cX6_readRule 181 = .ok (.invokevirtual 90, 3) := by decide +kernel
theorem dX6_readRule_184 : decode cX6_readRule 184 = .ok (.ifCond .eq 50, 3) := by decide +kernel
theorem dX6_readRule_187 : decode cX6_readRule 187 = .ok (.aload_n 0, 1) := by decide +kernel
theorem dX6_readRule_188 : decode cX6_readRule 188 = .ok (.iload_n 1, 1) := by decide +kernel
theorem dX6_readRule_189 : decode cX6_readRule 189 = .ok (.iload_n 2, 1) := by decide +kernel
theorem dX6_readRule_190 : decode cX6_readRule 190 = .ok (.iconst 3, 1) := by decide +kernel
theorem dX6_readRule_191 : decode cX6_readRule 191 = .ok (.iadd, 1) := by decide +kernel
theorem dX6_readRule_192 : decode cX6_readRule 192 = .ok (.bipush 97, 2) := by decide +kernel
theorem dX6_readRule_194 : decode cX6_readRule 194 = .ok (.bipush 122, 2) := by decide +kernel
theorem dX6_readRule_196 : decode cX6_readRule 196 = .ok (.bipush 97, 2) := by decide +kernel
theorem dX6_readRule_198 : decode cX6_readRule 198 = .ok (.invokevirtual 90, 3) := by decide +kernel
theorem dX6_readRule_201 : decode cX6_readRule 201 = .ok (.ifCond .eq 33, 3) := by decide +kernel
theorem dX6_readRule_204 : decode cX6_readRule 204 = .ok (.aload_n 0, 1) := by decide +kernel
theorem dX6_readRule_205 : decode cX6_readRule 205 = .ok (.iload_n 1, 1) := by decide +kernel
theorem dX6_readRule_206 : decode cX6_readRule 206 = .ok (.iload_n 2, 1) := by decide +kernel
theorem dX6_readRule_207 : decode cX6_readRule 207 = .ok (.iconst 4, 1) := by decide +kernel
theorem dX6_readRule_208 : decode cX6_readRule 208 = .ok (.iadd, 1) := by decide +kernel
theorem dX6_readRule_209 : decode cX6_readRule 209 = .ok (.bipush 97, 2) := by decide +kernel
theorem dX6_readRule_211 : decode cX6_readRule 211 = .ok (.aload_n 0, 1) := by decide +kernel
theorem dX6_readRule_212 : decode cX6_readRule 212 = .ok (.getfield 22, 3) := by decide +kernel
theorem dX6_readRule_215 : decode cX6_readRule 215 = .ok (.iload_n 2, 1) := by decide +kernel
theorem dX6_readRule_216 : decode cX6_readRule 216 = .ok (.iconst 3, 1) := by decide +kernel
theorem dX6_readRule_217 : decode cX6_readRule 217 = .ok (.iadd, 1) := by decide +kernel
theorem dX6_readRule_218 : decode cX6_readRule 218 = .ok (.iaload, 1) := by decide +kernel
theorem dX6_readRule_219 : decode cX6_readRule 219 = .ok (.iadd, 1) := by decide +kernel
theorem dX6_readRule_220 : decode cX6_readRule 220 = .ok (.bipush 122, 2) := by decide +kernel
theorem dX6_readRule_222 : decode cX6_readRule 222 = .ok (.bipush 97, 2) := by decide +kernel
theorem dX6_readRule_224 : decode cX6_readRule 224 = .ok (.invokevirtual 90, 3) := by decide +kernel
theorem dX6_readRule_227 : decode cX6_readRule 227 = .ok (.ifCond .eq 7, 3) := by decide +kernel
theorem dX6_readRule_230 : decode cX6_readRule 230 = .ok (.iconst 1, 1) := by decide +kernel
end
section
theorem dX6_readRule_231 : decode cX6_readRule 231 = .ok (.goto 4, 3) := by decide +kernel
theorem dX6_readRule_234 : decode cX6_readRule 234 = .ok (.iconst 0, 1) := by decide +kernel
theorem dX6_readRule_235 : decode cX6_readRule 235 = .ok (.ireturn, 1) := by decide +kernel
theorem dX6_readNumber_0 : decode cX6_readNumber 0 = .ok (.aload_n 0, 1) := by decide +kernel
theorem dX6_readNumber_1 : decode cX6_readNumber 1 = .ok (.getfield 71, 3) := by decide +kernel
theorem dX6_readNumber_4 : decode cX6_readNumber 4 = .ok (.iload_n 1, 1) := by decide +kernel
theorem dX6_readNumber_5 : decode cX6_readNumber 5 = .ok (.if_icmp .ge 21, 3) := by decide +kernel
theorem dX6_readNumber_8 : decode cX6_readNumber 8 = .ok (.aload_n 0, 1) := by decide +kernel
theorem dX6_readNumber_9 : decode cX6_readNumber 9 = .ok (.getfield 16, 3) := by decide +kernel
theorem dX6_readNumber_12 : decode cX6_readNumber 12 = .ok (.aload_n 0, 1) := by decide +kernel
theorem dX6_readNumber_13 : decode cX6_readNumber 13 = .ok (.getfield 71, 3) := by decide +kernel
theorem dX6_readNumber_16 : decode cX6_readNumber 16 = .ok (.iaload, 1) := by decide +kernel
theorem dX6_readNumber_17 : decode cX6_readNumber 17 = .ok (.iload_n 3, 1) := by decide +kernel
theorem dX6_readNumber_18 : decode cX6_readNumber 18 = .ok (.iload 4, 2) := by decide +kernel
theorem dX6_readNumber_20 : decode cX6_readNumber 20 = .ok (.invokestatic 43, 3) := by decide +kernel
theorem dX6_readNumber_23 : decode cX6_readNumber 23 = .ok (.ifCond .ne 5, 3) := by decide +kernel
theorem dX6_readNumber_26 : decode cX6_readNumber 26 = .ok (.iconst 0, 1) := by decide +kernel
theorem dX6_readNumber_27 : decode cX6_readNumber 27 = .ok (.ireturn, 1) := by decide +kernel
theorem dX6_readNumber_28 : decode cX6_readNumber 28 = .ok (.aload_n 0, 1) := by decide +kernel
theorem dX6_readNumber_29 : decode cX6_readNumber 29 = .ok (.getfield 22, 3) := by decide +kernel
theorem dX6_readNumber_32 : decode cX6_readNumber 32 = .ok (.iload_n 2, 1) := by decide +kernel
theorem dX6_readNumber_33 : decode cX6_readNumber 33 = .ok (.aload_n 0, 1) := by decide +kernel
theorem dX6_readNumber_34 : decode cX6_readNumber 34 = .ok (.getfield 16, 3) := by decide +kernel
theorem dX6_readNumber_37 : decode cX6_readNumber 37 = .ok (.aload_n 0, 1) := by decide +kernel
theorem dX6_readNumber_38 : decode cX6_readNumber 38 = .ok (.getfield 71, 3) := by decide +kernel
theorem dX6_readNumber_41 : decode cX6_readNumber 41 = .ok (.iaload, 1) := by decide +kernel
theorem dX6_readNumber_42 : decode cX6_readNumber 42 = .ok (.iload 5, 2) := by decide +kernel
theorem dX6_readNumber_44 : decode cX6_readNumber 44 = .ok (.isub, 1) := by decide +kernel
theorem dX6_readNumber_45 : decode cX6_readNumber 45 = .ok (.iastore, 1) := by decide +kernel
theorem dX6_readNumber_46 : decode cX6_readNumber 46 = .ok (.aload_n 0, 1) := by decide +kernel
theorem dX6_readNumber_47 : decode cX6_readNumber 47 = .ok (.dup, 1) := by decide +kernel
theorem dX6_readNumber_48 : decode cX6_readNumber 48 = .ok (.getfield 71, 3) := by decide +kernel
theorem dX6_readNumber_51 : decode cX6_readNumber 51 = .ok (.iconst 1, 1) := by decide +kernel
theorem dX6_readNumber_52 : decode cX6_readNumber 52 = .ok (.iadd, 1) := by decide +kernel
theorem dX6_readNumber_53 : decode cX6_readNumber 53 = .ok (.putfield 71, 3) := by decide +kernel
theorem dX6_readNumber_56 : decode cX6_readNumber 56 = .ok (.iconst 1, 1) := by decide +kernel
theorem dX6_readNumber_57 : decode cX6_readNumber 57 = .ok (.ireturn, 1) := by decide +kernel
theorem dX6_firstOf_0 : decode cX6_firstOf 0 = .ok (.iload_n 2, 1) := by decide +kernel
theorem dX6_firstOf_1 : decode cX6_firstOf 1 = .ok (.istore 4, 2) := by decide +kernel
theorem dX6_firstOf_3 : decode cX6_firstOf 3 = .ok (.iload 4, 2) := by decide +kernel
theorem dX6_firstOf_5 : decode cX6_firstOf 5 = .ok (.aload_n 0, 1) := by decide +kernel
theorem dX6_firstOf_6 : decode cX6_firstOf 6 = .ok (.getfield 47, 3) := by decide +kernel
theorem dX6_firstOf_9 : decode cX6_firstOf 9 = .ok (.if_icmp .ge 25, 3) := by decide +kernel
theorem dX6_firstOf_12 : decode cX6_firstOf 12 = .ok (.iload 4, 2) := by decide +kernel
theorem dX6_firstOf_14 : decode cX6_firstOf 14 = .ok (.iload_n 3, 1) := by decide +kernel
theorem dX6_firstOf_15 : decode cX6_firstOf 15 = .ok (.if_icmp .eq 13, 3) := by decide +kernel
theorem dX6_firstOf_18 : decode cX6_firstOf 18 = .ok (.aload_n 0, 1) := by decide +kernel
theorem dX6_firstOf_19 : decode cX6_firstOf 19 = .ok (.iload 4, 2) := by decide +kernel
theorem dX6_firstOf_21 : decode cX6_firstOf 21 = .ok (.iload_n 1, 1) := by decide +kernel
theorem dX6_firstOf_22 : decode cX6_firstOf 22 = .ok (.invokevirtual 94, 3) := by decide +kernel
theorem dX6_firstOf_25 : decode cX6_firstOf 25 = .ok (.ifCond .ne 9, 3) := by decide +kernel
theorem dX6_firstOf_28 : decode cX6_firstOf 28 = .ok (.iinc 4 1, 3) := by decide +kernel
theorem dX6_firstOf_31 : decode cX6_firstOf 31 = .ok (.goto (-28), 3) := by decide +kernel
theorem dX6_firstOf_34 : decode cX6_firstOf 34 = .ok (.iload 4, 2) := by decide +kernel
theorem dX6_firstOf_36 : decode cX6_firstOf 36 = .ok (.ireturn, 1) := by decide +kernel
theorem dX6_asks_0 : decode cX6_asks 0 = .ok (.iload_n 1, 1) := by decide +kernel
theorem dX6_asks_1 : decode cX6_asks 1 = .ok (.istore_n 3, 1) := by decide +kernel
theorem dX6_asks_2 : decode cX6_asks 2 = .ok (.aload_n 0, 1) := by decide +kernel
theorem dX6_asks_3 : decode cX6_asks 3 = .ok (.iconst 0, 1) := by decide +kernel
theorem dX6_asks_4 : decode cX6_asks 4 = .ok (.putfield 97, 3) := by decide +kernel
theorem dX6_asks_7 : decode cX6_asks 7 = .ok (.aload_n 0, 1) := by decide +kernel
theorem dX6_asks_8 : decode cX6_asks 8 = .ok (.iconst 0, 1) := by decide +kernel
theorem dX6_asks_9 : decode cX6_asks 9 = .ok (.putfield 100, 3) := by decide +kernel
theorem dX6_asks_12 : decode cX6_asks 12 = .ok (.aload_n 0, 1) := by decide +kernel
theorem dX6_asks_13 : decode cX6_asks 13 = .ok (.iload_n 3, 1) := by decide +kernel
theorem dX6_asks_14 : decode cX6_asks 14 = .ok (.iconst 0, 1) := by decide +kernel
theorem dX6_asks_15 : decode cX6_asks 15 = .ok (.iload_n 2, 1) := by decide +kernel
theorem dX6_asks_16 : decode cX6_asks 16 = .ok (.invokevirtual 103, 3) := by decide +kernel
theorem dX6_asks_19 : decode cX6_asks 19 = .ok (.istore 4, 2) := by decide +kernel
theorem dX6_asks_21 : decode cX6_asks 21 = .ok (.iload 4, 2) := by decide +kernel
theorem dX6_asks_23 : decode cX6_asks 23 = .ok (.aload_n 0, 1) := by decide +kernel
theorem dX6_asks_24 : decode cX6_asks 24 = .ok (.getfield 47, 3) := by decide +kernel
theorem dX6_asks_27 : decode cX6_asks 27 = .ok (.if_icmp .ge 73, 3) := by decide +kernel
theorem dX6_asks_30 : decode cX6_asks 30 = .ok (.aload_n 0, 1) := by decide +kernel
theorem dX6_asks_31 : decode cX6_asks 31 = .ok (.iload 4, 2) := by decide +kernel
theorem dX6_asks_33 : decode cX6_asks 33 = .ok (.invokevirtual 107, 3) := by decide +kernel
theorem dX6_asks_36 : decode cX6_asks 36 = .ok (.iconst 2, 1) := by decide +kernel
theorem dX6_asks_37 : decode cX6_asks 37 = .ok (.if_icmp .ne 63, 3) := by decide +kernel
theorem dX6_asks_40 : decode cX6_asks 40 = .ok (.aload_n 0, 1) := by decide +kernel
theorem dX6_asks_41 : decode cX6_asks 41 = .ok (.getfield 25, 3) := by decide +kernel
theorem dX6_asks_44 : decode cX6_asks 44 = .ok (.aload_n 0, 1) := by decide +kernel
theorem dX6_asks_45 : decode cX6_asks 45 = .ok (.getfield 97, 3) := by decide +kernel
theorem dX6_asks_48 : decode cX6_asks 48 = .ok (.iload 4, 2) := by decide +kernel
theorem dX6_asks_50 : decode cX6_asks 50 = .ok (.iastore, 1) := by decide +kernel
theorem dX6_asks_51 : decode cX6_asks 51 = .ok (.aload_n 0, 1) := by decide +kernel
theorem dX6_asks_52 : decode cX6_asks 52 = .ok (.dup, 1) := by decide +kernel
theorem dX6_asks_53 : decode cX6_asks 53 = .ok (.getfield 97, 3) := by decide +kernel
theorem dX6_asks_56 : decode cX6_asks 56 = .ok (.iconst 1, 1) := by decide +kernel
theorem dX6_asks_57 : decode cX6_asks 57 = .ok (.iadd, 1) := by decide +kernel
theorem dX6_asks_58 : decode cX6_asks 58 = .ok (.putfield 97, 3) := by decide +kernel
theorem dX6_asks_61 : decode cX6_asks 61 = .ok (.aload_n 0, 1) := by decide +kernel
theorem dX6_asks_62 : decode cX6_asks 62 = .ok (.dup, 1) := by decide +kernel
theorem dX6_asks_63 : decode cX6_asks 63 = .ok (.getfield 100, 3) := by decide +kernel
theorem dX6_asks_66 : decode cX6_asks 66 = .ok (.aload_n 0, 1) := by decide +kernel
theorem dX6_asks_67 : decode cX6_asks 67 = .ok (.iload 4, 2) := by decide +kernel
theorem dX6_asks_69 : decode cX6_asks 69 = .ok (.invokevirtual 110, 3) := by decide +kernel
theorem dX6_asks_72 : decode cX6_asks 72 = .ok (.iadd, 1) := by decide +kernel
theorem dX6_asks_73 : decode cX6_asks 73 = .ok (.putfield 100, 3) := by decide +kernel
theorem dX6_asks_76 : decode cX6_asks 76 = .ok (.iload_n 3, 1) := by decide +kernel
theorem dX6_asks_77 : decode cX6_asks 77 = .ok (.aload_n 0, 1) := by decide +kernel
theorem dX6_asks_78 : decode cX6_asks 78 = .ok (.iload 4, 2) := by decide +kernel
theorem dX6_asks_80 : decode cX6_asks 80 = .ok (.invokevirtual 54, 3) := by decide +kernel
theorem dX6_asks_83 : decode cX6_asks 83 = .ok (.iadd, 1) := by decide +kernel
theorem dX6_asks_84 : decode cX6_asks 84 = .ok (.istore_n 3, 1) := by decide +kernel
theorem dX6_asks_85 : decode cX6_asks 85 = .ok (.aload_n 0, 1) := by decide +kernel
theorem dX6_asks_86 : decode cX6_asks 86 = .ok (.iload_n 3, 1) := by decide +kernel
theorem dX6_asks_87 : decode cX6_asks 87 = .ok (.iload 4, 2) := by decide +kernel
theorem dX6_asks_89 : decode cX6_asks 89 = .ok (.iconst 1, 1) := by decide +kernel
theorem dX6_asks_90 : decode cX6_asks 90 = .ok (.iadd, 1) := by decide +kernel
theorem dX6_asks_91 : decode cX6_asks 91 = .ok (.iload_n 2, 1) := by decide +kernel
theorem dX6_asks_92 : decode cX6_asks 92 = .ok (.invokevirtual 103, 3) := by decide +kernel
theorem dX6_asks_95 : decode cX6_asks 95 = .ok (.istore 4, 2) := by decide +kernel
theorem dX6_asks_97 : decode cX6_asks 97 = .ok (.goto (-76), 3) := by decide +kernel
theorem dX6_asks_100 : decode cX6_asks 100 = .ok (.iload 4, 2) := by decide +kernel
theorem dX6_asks_102 : decode cX6_asks 102 = .ok (.aload_n 0, 1) := by decide +kernel
theorem dX6_asks_103 : decode cX6_asks 103 = .ok (.getfield 47, 3) := by decide +kernel
theorem dX6_asks_106 : decode cX6_asks 106 = .ok (.if_icmp .ge 35, 3) := by decide +kernel
theorem dX6_asks_109 : decode cX6_asks 109 = .ok (.aload_n 0, 1) := by decide +kernel
theorem dX6_asks_110 : decode cX6_asks 110 = .ok (.iload 4, 2) := by decide +kernel
theorem dX6_asks_112 : decode cX6_asks 112 = .ok (.invokevirtual 107, 3) := by decide +kernel
theorem dX6_asks_115 : decode cX6_asks 115 = .ok (.ifCond .ne 26, 3) := by decide +kernel
theorem dX6_asks_118 : decode cX6_asks 118 = .ok (.aload_n 0, 1) := by decide +kernel
theorem dX6_asks_119 : decode cX6_asks 119 = .ok (.dup, 1) := by decide +kernel
theorem dX6_asks_120 : decode cX6_asks 120 = .ok (.getfield 100, 3) := by decide +kernel
theorem dX6_asks_123 : decode cX6_asks 123 = .ok (.aload_n 0, 1) := by decide +kernel
theorem dX6_asks_124 : decode cX6_asks 124 = .ok (.iload 4, 2) := by decide +kernel
theorem dX6_asks_126 : decode cX6_asks 126 = .ok (.invokevirtual 110, 3) := by decide +kernel
theorem dX6_asks_129 : decode cX6_asks 129 = .ok (.iadd, 1) := by decide +kernel
theorem dX6_asks_130 : decode cX6_asks 130 = .ok (.putfield 100, 3) := by decide +kernel
theorem dX6_asks_133 : decode cX6_asks 133 = .ok (.aload_n 0, 1) := by decide +kernel
theorem dX6_asks_134 : decode cX6_asks 134 = .ok (.iconst 0, 1) := by decide +kernel
theorem dX6_asks_135 : decode cX6_asks 135 = .ok (.putfield 97, 3) := by decide +kernel
theorem dX6_asks_138 : decode cX6_asks 138 = .ok (.goto 44, 3) := by decide +kernel
theorem dX6_asks_141 : decode cX6_asks 141 = .ok (.aload_n 0, 1) := by decide +kernel
theorem dX6_asks_142 : decode cX6_asks 142 = .ok (.getfield 25, 3) := by decide +kernel
theorem dX6_asks_145 : decode cX6_asks 145 = .ok (.aload_n 0, 1) := by decide +kernel
theorem dX6_asks_146 : decode cX6_asks 146 = .ok (.getfield 97, 3) := by decide +kernel
theorem dX6_asks_149 : decode cX6_asks 149 = .ok (.iload 4, 2) := by decide +kernel
theorem dX6_asks_151 : decode cX6_asks 151 = .ok (.aload_n 0, 1) := by decide +kernel
theorem dX6_asks_152 : decode cX6_asks 152 = .ok (.getfield 47, 3) := by decide +kernel
theorem dX6_asks_155 : decode cX6_asks 155 = .ok (.if_icmp .ge 8, 3) := by decide +kernel
theorem dX6_asks_158 : decode cX6_asks 158 = .ok (.iload 4, 2) := by decide +kernel
theorem dX6_asks_160 : decode cX6_asks 160 = .ok (.goto 5, 3) := by decide +kernel
theorem dX6_asks_163 : decode cX6_asks 163 = .ok (.bipush 7, 2) := by decide +kernel
theorem dX6_asks_165 : decode cX6_asks 165 = .ok (.iastore, 1) := by decide +kernel
theorem dX6_asks_166 : decode cX6_asks 166 = .ok (.aload_n 0, 1) := by decide +kernel
theorem dX6_asks_167 : decode cX6_asks 167 = .ok (.dup, 1) := by decide +kernel
theorem dX6_asks_168 : decode cX6_asks 168 = .ok (.getfield 97, 3) := by decide +kernel
theorem dX6_asks_171 : decode cX6_asks 171 = .ok (.iconst 1, 1) := by decide +kernel
theorem dX6_asks_172 : decode cX6_asks 172 = .ok (.iadd, 1) := by decide +kernel
theorem dX6_asks_173 : decode cX6_asks 173 = .ok (.putfield 97, 3) := by decide +kernel
theorem dX6_asks_176 : decode cX6_asks 176 = .ok (.aload_n 0, 1) := by decide +kernel
theorem dX6_asks_177 : decode cX6_asks 177 = .ok (.bipush (-9), 2) := by decide +kernel
theorem dX6_asks_179 : decode cX6_asks 179 = .ok (.putfield 100, 3) := by decide +kernel
theorem dX6_asks_182 : decode cX6_asks 182 = .ok (.return_, 1) := by decide +kernel
theorem dX6_winnerOf_0 : decode cX6_winnerOf 0 = .ok (.aload_n 0, 1) := by decide +kernel
theorem dX6_winnerOf_1 : decode cX6_winnerOf 1 = .ok (.iload_n 1, 1) := by decide +kernel
theorem dX6_winnerOf_2 : decode cX6_winnerOf 2 = .ok (.iconst 0, 1) := by decide +kernel
theorem dX6_winnerOf_3 : decode cX6_winnerOf 3 = .ok (.bipush (-9), 2) := by decide +kernel
theorem dX6_winnerOf_5 : decode cX6_winnerOf 5 = .ok (.invokevirtual 103, 3) := by decide +kernel
theorem dX6_winnerOf_8 : decode cX6_winnerOf 8 = .ok (.istore_n 2, 1) := by decide +kernel
theorem dX6_winnerOf_9 : decode cX6_winnerOf 9 = .ok (.iload_n 2, 1) := by decide +kernel
theorem dX6_winnerOf_10 : decode cX6_winnerOf 10 = .ok (.aload_n 0, 1) := by decide +kernel
theorem dX6_winnerOf_11 : decode cX6_winnerOf 11 = .ok (.getfield 47, 3) := by decide +kernel
theorem dX6_winnerOf_14 : decode cX6_winnerOf 14 = .ok (.if_icmp .ge 7, 3) := by decide +kernel
theorem dX6_winnerOf_17 : decode cX6_winnerOf 17 = .ok (.iload_n 2, 1) := by decide +kernel
theorem dX6_winnerOf_18 : decode cX6_winnerOf 18 = .ok (.goto 5, 3) := by decide +kernel
theorem dX6_winnerOf_21 : decode cX6_winnerOf 21 = .ok (.bipush (-9), 2) := by decide +kernel
theorem dX6_winnerOf_23 : decode cX6_winnerOf 23 = .ok (.ireturn, 1) := by decide +kernel
theorem dX6_wins_0 : decode cX6_wins 0 = .ok (.iconst 0, 1) := by decide +kernel
theorem dX6_wins_1 : decode cX6_wins 1 = .ok (.istore_n 2, 1) := by decide +kernel
theorem dX6_wins_2 : decode cX6_wins 2 = .ok (.iconst 0, 1) := by decide +kernel
theorem dX6_wins_3 : decode cX6_wins 3 = .ok (.istore_n 3, 1) := by decide +kernel
theorem dX6_wins_4 : decode cX6_wins 4 = .ok (.iload_n 3, 1) := by decide +kernel
theorem dX6_wins_5 : decode cX6_wins 5 = .ok (.bipush 26, 2) := by decide +kernel
theorem dX6_wins_7 : decode cX6_wins 7 = .ok (.if_icmp .ge 26, 3) := by decide +kernel
theorem dX6_wins_10 : decode cX6_wins 10 = .ok (.iload_n 2, 1) := by decide +kernel
theorem dX6_wins_11 : decode cX6_wins 11 = .ok (.aload_n 0, 1) := by decide +kernel
theorem dX6_wins_12 : decode cX6_wins 12 = .ok (.iload_n 3, 1) := by decide +kernel
theorem dX6_wins_13 : decode cX6_wins 13 = .ok (.invokevirtual 113, 3) := by decide +kernel
theorem dX6_wins_16 : decode cX6_wins 16 = .ok (.iload_n 1, 1) := by decide +kernel
theorem dX6_wins_17 : decode cX6_wins 17 = .ok (.if_icmp .ne 7, 3) := by decide +kernel
theorem dX6_wins_20 : decode cX6_wins 20 = .ok (.iconst 1, 1) := by decide +kernel
theorem dX6_wins_21 : decode cX6_wins 21 = .ok (.goto 4, 3) := by decide +kernel
theorem dX6_wins_24 : decode cX6_wins 24 = .ok (.iconst 0, 1) := by decide +kernel
theorem dX6_wins_25 : decode cX6_wins 25 = .ok (.iadd, 1) := by decide +kernel
theorem dX6_wins_26 : decode cX6_wins 26 = .ok (.istore_n 2, 1) := by decide +kernel
theorem dX6_wins_27 : decode cX6_wins 27 = .ok (.iinc 3 1, 3) := by decide +kernel
theorem dX6_wins_30 : decode cX6_wins 30 = .ok (.goto (-26), 3) := by decide +kernel
theorem dX6_wins_33 : decode cX6_wins 33 = .ok (.iload_n 2, 1) := by decide +kernel
theorem dX6_wins_34 : decode cX6_wins 34 = .ok (.ireturn, 1) := by decide +kernel
theorem dX6_ofRule_0 : decode cX6_ofRule 0 = .ok (.aload_n 0, 1) := by decide +kernel
theorem dX6_ofRule_1 : decode cX6_ofRule 1 = .ok (.iload_n 1, 1) := by decide +kernel
theorem dX6_ofRule_2 : decode cX6_ofRule 2 = .ok (.invokevirtual 116, 3) := by decide +kernel
theorem dX6_ofRule_5 : decode cX6_ofRule 5 = .ok (.ifCond .ne 5, 3) := by decide +kernel
theorem dX6_ofRule_8 : decode cX6_ofRule 8 = .ok (.iconst (-1), 1) := by decide +kernel
theorem dX6_ofRule_9 : decode cX6_ofRule 9 = .ok (.ireturn, 1) := by decide +kernel
theorem dX6_ofRule_10 : decode cX6_ofRule 10 = .ok (.iload_n 2, 1) := by decide +kernel
theorem dX6_ofRule_11 : decode cX6_ofRule 11 = .ok (.iconst 0, 1) := by decide +kernel
theorem dX6_ofRule_12 : decode cX6_ofRule 12 = .ok (.iconst 4, 1) := by decide +kernel
theorem dX6_ofRule_13 : decode cX6_ofRule 13 = .ok (.invokestatic 43, 3) := by decide +kernel
theorem dX6_ofRule_16 : decode cX6_ofRule 16 = .ok (.ifCond .eq 14, 3) := by decide +kernel
theorem dX6_ofRule_19 : decode cX6_ofRule 19 = .ok (.aload_n 0, 1) := by decide +kernel
theorem dX6_ofRule_20 : decode cX6_ofRule 20 = .ok (.getfield 19, 3) := by decide +kernel
theorem dX6_ofRule_23 : decode cX6_ofRule 23 = .ok (.iconst 5, 1) := by decide +kernel
theorem dX6_ofRule_24 : decode cX6_ofRule 24 = .ok (.iload_n 1, 1) := by decide +kernel
theorem dX6_ofRule_25 : decode cX6_ofRule 25 = .ok (.imul, 1) := by decide +kernel
theorem dX6_ofRule_26 : decode cX6_ofRule 26 = .ok (.iload_n 2, 1) := by decide +kernel
theorem dX6_ofRule_27 : decode cX6_ofRule 27 = .ok (.iadd, 1) := by decide +kernel
theorem dX6_ofRule_28 : decode cX6_ofRule 28 = .ok (.iaload, 1) := by decide +kernel
theorem dX6_ofRule_29 : decode cX6_ofRule 29 = .ok (.ireturn, 1) := by decide +kernel
theorem dX6_ofRule_30 : decode cX6_ofRule 30 = .ok (.iload_n 2, 1) := by decide +kernel
theorem dX6_ofRule_31 : decode cX6_ofRule 31 = .ok (.iconst 5, 1) := by decide +kernel
theorem dX6_ofRule_32 : decode cX6_ofRule 32 = .ok (.if_icmp .ne 11, 3) := by decide +kernel
theorem dX6_ofRule_35 : decode cX6_ofRule 35 = .ok (.aload_n 0, 1) := by decide +kernel
theorem dX6_ofRule_36 : decode cX6_ofRule 36 = .ok (.iload_n 1, 1) := by decide +kernel
theorem dX6_ofRule_37 : decode cX6_ofRule 37 = .ok (.invokevirtual 110, 3) := by decide +kernel
theorem dX6_ofRule_40 : decode cX6_ofRule 40 = .ok (.goto 19, 3) := by decide +kernel
theorem dX6_ofRule_43 : decode cX6_ofRule 43 = .ok (.iload_n 2, 1) := by decide +kernel
theorem dX6_ofRule_44 : decode cX6_ofRule 44 = .ok (.bipush 6, 2) := by decide +kernel
theorem dX6_ofRule_46 : decode cX6_ofRule 46 = .ok (.if_icmp .ne 11, 3) := by decide +kernel
theorem dX6_ofRule_49 : decode cX6_ofRule 49 = .ok (.aload_n 0, 1) := by decide +kernel
theorem dX6_ofRule_50 : decode cX6_ofRule 50 = .ok (.iload_n 1, 1) := by decide +kernel
theorem dX6_ofRule_51 : decode cX6_ofRule 51 = .ok (.invokevirtual 119, 3) := by decide +kernel
theorem dX6_ofRule_54 : decode cX6_ofRule 54 = .ok (.goto 5, 3) := by decide +kernel
theorem dX6_ofRule_57 : decode cX6_ofRule 57 = .ok (.bipush (-2), 2) := by decide +kernel
theorem dX6_ofRule_59 : decode cX6_ofRule 59 = .ok (.ireturn, 1) := by decide +kernel
theorem dX6_number_0 : decode cX6_number 0 = .ok (.aload_n 0, 1) := by decide +kernel
theorem dX6_number_1 : decode cX6_number 1 = .ok (.iload_n 1, 1) := by decide +kernel
theorem dX6_number_2 : decode cX6_number 2 = .ok (.invokevirtual 116, 3) := by decide +kernel
theorem dX6_number_5 : decode cX6_number 5 = .ok (.ifCond .ne 5, 3) := by decide +kernel
theorem dX6_number_8 : decode cX6_number 8 = .ok (.iconst (-1), 1) := by decide +kernel
theorem dX6_number_9 : decode cX6_number 9 = .ok (.ireturn, 1) := by decide +kernel
theorem dX6_number_10 : decode cX6_number 10 = .ok (.iload_n 2, 1) := by decide +kernel
theorem dX6_number_11 : decode cX6_number 11 = .ok (.iconst 1, 1) := by decide +kernel
theorem dX6_number_12 : decode cX6_number 12 = .ok (.bipush 9, 2) := by decide +kernel
theorem dX6_number_14 : decode cX6_number 14 = .ok (.invokestatic 43, 3) := by decide +kernel
theorem dX6_number_17 : decode cX6_number 17 = .ok (.ifCond .ne 6, 3) := by decide +kernel
theorem dX6_number_20 : decode cX6_number 20 = .ok (.bipush (-2), 2) := by decide +kernel
theorem dX6_number_22 : decode cX6_number 22 = .ok (.ireturn, 1) := by decide +kernel
theorem dX6_number_23 : decode cX6_number 23 = .ok (.aload_n 0, 1) := by decide +kernel
theorem dX6_number_24 : decode cX6_number 24 = .ok (.iload_n 1, 1) := by decide +kernel
theorem dX6_number_25 : decode cX6_number 25 = .ok (.invokevirtual 54, 3) := by decide +kernel
theorem dX6_number_28 : decode cX6_number 28 = .ok (.istore_n 3, 1) := by decide +kernel
theorem dX6_number_29 : decode cX6_number 29 = .ok (.aload_n 0, 1) := by decide +kernel
theorem dX6_number_30 : decode cX6_number 30 = .ok (.getfield 19, 3) := by decide +kernel
theorem dX6_number_33 : decode cX6_number 33 = .ok (.iconst 5, 1) := by decide +kernel
theorem dX6_number_34 : decode cX6_number 34 = .ok (.iload_n 1, 1) := by decide +kernel
theorem dX6_number_35 : decode cX6_number 35 = .ok (.imul, 1) := by decide +kernel
theorem dX6_number_36 : decode cX6_number 36 = .ok (.iconst 2, 1) := by decide +kernel
theorem dX6_number_37 : decode cX6_number 37 = .ok (.iadd, 1) := by decide +kernel
theorem dX6_number_38 : decode cX6_number 38 = .ok (.iload_n 2, 1) := by decide +kernel
theorem dX6_number_39 : decode cX6_number 39 = .ok (.iastore, 1) := by decide +kernel
theorem dX6_number_40 : decode cX6_number 40 = .ok (.iload_n 3, 1) := by decide +kernel
theorem dX6_number_41 : decode cX6_number 41 = .ok (.ireturn, 1) := by decide +kernel
theorem dX6_insert_0 : decode cX6_insert 0 = .ok (.aload_n 0, 1) := by decide +kernel
theorem dX6_insert_1 : decode cX6_insert 1 = .ok (.getfield 47, 3) := by decide +kernel
theorem dX6_insert_4 : decode cX6_insert 4 = .ok (.ifCond .ne 6, 3) := by decide +kernel
theorem dX6_insert_7 : decode cX6_insert 7 = .ok (.bipush (-3), 2) := by decide +kernel
theorem dX6_insert_9 : decode cX6_insert 9 = .ok (.ireturn, 1) := by decide +kernel
theorem dX6_insert_10 : decode cX6_insert 10 = .ok (.iload_n 1, 1) := by decide +kernel
theorem dX6_insert_11 : decode cX6_insert 11 = .ok (.iconst 0, 1) := by decide +kernel
theorem dX6_insert_12 : decode cX6_insert 12 = .ok (.aload_n 0, 1) := by decide +kernel
theorem dX6_insert_13 : decode cX6_insert 13 = .ok (.getfield 47, 3) := by decide +kernel
theorem dX6_insert_16 : decode cX6_insert 16 = .ok (.invokestatic 43, 3) := by decide +kernel
theorem dX6_insert_19 : decode cX6_insert 19 = .ok (.ifCond .eq 52, 3) := by decide +kernel
theorem dX6_insert_22 : decode cX6_insert 22 = .ok (.iload_n 2, 1) := by decide +kernel
theorem dX6_insert_23 : decode cX6_insert 23 = .ok (.iconst 0, 1) := by decide +kernel
theorem dX6_insert_24 : decode cX6_insert 24 = .ok (.iconst 2, 1) := by decide +kernel
theorem dX6_insert_25 : decode cX6_insert 25 = .ok (.invokestatic 43, 3) := by decide +kernel
theorem dX6_insert_28 : decode cX6_insert 28 = .ok (.ifCond .eq 43, 3) := by decide +kernel
theorem dX6_insert_31 : decode cX6_insert 31 = .ok (.iload_n 3, 1) := by decide +kernel
theorem dX6_insert_32 : decode cX6_insert 32 = .ok (.iconst 0, 1) := by decide +kernel
theorem dX6_insert_33 : decode cX6_insert 33 = .ok (.iconst 2, 1) := by decide +kernel
theorem dX6_insert_34 : decode cX6_insert 34 = .ok (.invokestatic 43, 3) := by decide +kernel
theorem dX6_insert_37 : decode cX6_insert 37 = .ok (.ifCond .eq 34, 3) := by decide +kernel
theorem dX6_insert_40 : decode cX6_insert 40 = .ok (.iload 4, 2) := by decide +kernel
theorem dX6_insert_42 : decode cX6_insert 42 = .ok (.iconst 1, 1) := by decide +kernel
theorem dX6_insert_43 : decode cX6_insert 43 = .ok (.bipush 9, 2) := by decide +kernel
theorem dX6_insert_45 : decode cX6_insert 45 = .ok (.invokestatic 43, 3) := by decide +kernel
theorem dX6_insert_48 : decode cX6_insert 48 = .ok (.ifCond .eq 23, 3) := by decide +kernel
theorem dX6_insert_51 : decode cX6_insert 51 = .ok (.iload 5, 2) := by decide +kernel
theorem dX6_insert_53 : decode cX6_insert 53 = .ok (.invokestatic 122, 3) := by decide +kernel
theorem dX6_insert_56 : decode cX6_insert 56 = .ok (.ifCond .eq 15, 3) := by decide +kernel
theorem dX6_insert_59 : decode cX6_insert 59 = .ok (.iload 6, 2) := by decide +kernel
theorem dX6_insert_61 : decode cX6_insert 61 = .ok (.iload 5, 2) := by decide +kernel
theorem dX6_insert_63 : decode cX6_insert 63 = .ok (.bipush 25, 2) := by decide +kernel
theorem dX6_insert_65 : decode cX6_insert 65 = .ok (.invokestatic 43, 3) := by decide +kernel
theorem dX6_insert_68 : decode cX6_insert 68 = .ok (.ifCond .ne 6, 3) := by decide +kernel
theorem dX6_insert_71 : decode cX6_insert 71 = .ok (.bipush (-2), 2) := by decide +kernel
theorem dX6_insert_73 : decode cX6_insert 73 = .ok (.ireturn, 1) := by decide +kernel
theorem dX6_insert_74 : decode cX6_insert 74 = .ok (.aload_n 0, 1) := by decide +kernel
theorem dX6_insert_75 : decode cX6_insert 75 = .ok (.getfield 47, 3) := by decide +kernel
theorem dX6_insert_78 : decode cX6_insert 78 = .ok (.bipush 7, 2) := by decide +kernel
theorem dX6_insert_80 : decode cX6_insert 80 = .ok (.if_icmp .ne 6, 3) := by decide +kernel
theorem dX6_insert_83 : decode cX6_insert 83 = .ok (.bipush (-4), 2) := by decide +kernel
theorem dX6_insert_85 : decode cX6_insert 85 = .ok (.ireturn, 1) := by decide +kernel
theorem dX6_insert_86 : decode cX6_insert 86 = .ok (.iconst 5, 1) := by decide +kernel
theorem dX6_insert_87 : decode cX6_insert 87 = .ok (.aload_n 0, 1) := by decide +kernel
theorem dX6_insert_88 : decode cX6_insert 88 = .ok (.getfield 47, 3) := by decide +kernel
theorem dX6_insert_91 : decode cX6_insert 91 = .ok (.imul, 1) := by decide +kernel
theorem dX6_insert_92 : decode cX6_insert 92 = .ok (.iconst 1, 1) := by decide +kernel
theorem dX6_insert_93 : decode cX6_insert 93 = .ok (.isub, 1) := by decide +kernel
theorem dX6_insert_94 : decode cX6_insert 94 = .ok (.istore 7, 2) := by decide +kernel
theorem dX6_insert_96 : decode cX6_insert 96 = .ok (.iload 7, 2) := by decide +kernel
theorem dX6_insert_98 : decode cX6_insert 98 = .ok (.iconst 5, 1) := by decide +kernel
theorem dX6_insert_99 : decode cX6_insert 99 = .ok (.iload_n 1, 1) := by decide +kernel
theorem dX6_insert_100 : decode cX6_insert 100 = .ok (.imul, 1) := by decide +kernel
theorem dX6_insert_101 : decode cX6_insert 101 = .ok (.if_icmp .lt 25, 3) := by decide +kernel
theorem dX6_insert_104 : decode cX6_insert 104 = .ok (.aload_n 0, 1) := by decide +kernel
theorem dX6_insert_105 : decode cX6_insert 105 = .ok (.getfield 19, 3) := by decide +kernel
theorem dX6_insert_108 : decode cX6_insert 108 = .ok (.iload 7, 2) := by decide +kernel
theorem dX6_insert_110 : decode cX6_insert 110 = .ok (.iconst 5, 1) := by decide +kernel
theorem dX6_insert_111 : decode cX6_insert 111 = .ok (.iadd, 1) := by decide +kernel
theorem dX6_insert_112 : decode cX6_insert 112 = .ok (.aload_n 0, 1) := by decide +kernel
theorem dX6_insert_113 : decode cX6_insert 113 = .ok (.getfield 19, 3) := by decide +kernel
theorem dX6_insert_116 : decode cX6_insert 116 = .ok (.iload 7, 2) := by decide +kernel
theorem dX6_insert_118 : decode cX6_insert 118 = .ok (.iaload, 1) := by decide +kernel
theorem dX6_insert_119 : decode cX6_insert 119 = .ok (.iastore, 1) := by decide +kernel
theorem dX6_insert_120 : decode cX6_insert 120 = .ok (.iinc 7 (-1), 3) := by decide +kernel
theorem dX6_insert_123 : decode cX6_insert 123 = .ok (.goto (-27), 3) := by decide +kernel
theorem dX6_insert_126 : decode cX6_insert 126 = .ok (.aload_n 0, 1) := by decide +kernel
theorem dX6_insert_127 : decode cX6_insert 127 = .ok (.getfield 19, 3) := by decide +kernel
theorem dX6_insert_130 : decode cX6_insert 130 = .ok (.iconst 5, 1) := by decide +kernel
theorem dX6_insert_131 : decode cX6_insert 131 = .ok (.iload_n 1, 1) := by decide +kernel
theorem dX6_insert_132 : decode cX6_insert 132 = .ok (.imul, 1) := by decide +kernel
theorem dX6_insert_133 : decode cX6_insert 133 = .ok (.iload_n 2, 1) := by decide +kernel
theorem dX6_insert_134 : decode cX6_insert 134 = .ok (.iastore, 1) := by decide +kernel
theorem dX6_insert_135 : decode cX6_insert 135 = .ok (.aload_n 0, 1) := by decide +kernel
theorem dX6_insert_136 : decode cX6_insert 136 = .ok (.getfield 19, 3) := by decide +kernel
theorem dX6_insert_139 : decode cX6_insert 139 = .ok (.iconst 5, 1) := by decide +kernel
theorem dX6_insert_140 : decode cX6_insert 140 = .ok (.iload_n 1, 1) := by decide +kernel
theorem dX6_insert_141 : decode cX6_insert 141 = .ok (.imul, 1) := by decide +kernel
theorem dX6_insert_142 : decode cX6_insert 142 = .ok (.iconst 1, 1) := by decide +kernel
theorem dX6_insert_143 : decode cX6_insert 143 = .ok (.iadd, 1) := by decide +kernel
theorem dX6_insert_144 : decode cX6_insert 144 = .ok (.iload_n 3, 1) := by decide +kernel
theorem dX6_insert_145 : decode cX6_insert 145 = .ok (.iastore, 1) := by decide +kernel
theorem dX6_insert_146 : decode cX6_insert 146 = .ok (.aload_n 0, 1) := by decide +kernel
theorem dX6_insert_147 : decode cX6_insert 147 = .ok (.getfield 19, 3) := by decide +kernel
theorem dX6_insert_150 : decode cX6_insert 150 = .ok (.iconst 5, 1) := by decide +kernel
theorem dX6_insert_151 : decode cX6_insert 151 = .ok (.iload_n 1, 1) := by decide +kernel
theorem dX6_insert_152 : decode cX6_insert 152 = .ok (.imul, 1) := by decide +kernel
theorem dX6_insert_153 : decode cX6_insert 153 = .ok (.iconst 2, 1) := by decide +kernel
theorem dX6_insert_154 : decode cX6_insert 154 = .ok (.iadd, 1) := by decide +kernel
theorem dX6_insert_155 : decode cX6_insert 155 = .ok (.iload 4, 2) := by decide +kernel
theorem dX6_insert_157 : decode cX6_insert 157 = .ok (.iastore, 1) := by decide +kernel
theorem dX6_insert_158 : decode cX6_insert 158 = .ok (.aload_n 0, 1) := by decide +kernel
theorem dX6_insert_159 : decode cX6_insert 159 = .ok (.getfield 19, 3) := by decide +kernel
theorem dX6_insert_162 : decode cX6_insert 162 = .ok (.iconst 5, 1) := by decide +kernel
theorem dX6_insert_163 : decode cX6_insert 163 = .ok (.iload_n 1, 1) := by decide +kernel
theorem dX6_insert_164 : decode cX6_insert 164 = .ok (.imul, 1) := by decide +kernel
theorem dX6_insert_165 : decode cX6_insert 165 = .ok (.iconst 3, 1) := by decide +kernel
theorem dX6_insert_166 : decode cX6_insert 166 = .ok (.iadd, 1) := by decide +kernel
theorem dX6_insert_167 : decode cX6_insert 167 = .ok (.iload 5, 2) := by decide +kernel
theorem dX6_insert_169 : decode cX6_insert 169 = .ok (.iastore, 1) := by decide +kernel
theorem dX6_insert_170 : decode cX6_insert 170 = .ok (.aload_n 0, 1) := by decide +kernel
theorem dX6_insert_171 : decode cX6_insert 171 = .ok (.getfield 19, 3) := by decide +kernel
theorem dX6_insert_174 : decode cX6_insert 174 = .ok (.iconst 5, 1) := by decide +kernel
theorem dX6_insert_175 : decode cX6_insert 175 = .ok (.iload_n 1, 1) := by decide +kernel
theorem dX6_insert_176 : decode cX6_insert 176 = .ok (.imul, 1) := by decide +kernel
theorem dX6_insert_177 : decode cX6_insert 177 = .ok (.iconst 4, 1) := by decide +kernel
theorem dX6_insert_178 : decode cX6_insert 178 = .ok (.iadd, 1) := by decide +kernel
theorem dX6_insert_179 : decode cX6_insert 179 = .ok (.iload 6, 2) := by decide +kernel
theorem dX6_insert_181 : decode cX6_insert 181 = .ok (.iastore, 1) := by decide +kernel
theorem dX6_insert_182 : decode cX6_insert 182 = .ok (.aload_n 0, 1) := by decide +kernel
theorem dX6_insert_183 : decode cX6_insert 183 = .ok (.dup, 1) := by decide +kernel
theorem dX6_insert_184 : decode cX6_insert 184 = .ok (.getfield 47, 3) := by decide +kernel
theorem dX6_insert_187 : decode cX6_insert 187 = .ok (.iconst 1, 1) := by decide +kernel
theorem dX6_insert_188 : decode cX6_insert 188 = .ok (.iadd, 1) := by decide +kernel
theorem dX6_insert_189 : decode cX6_insert 189 = .ok (.putfield 47, 3) := by decide +kernel
theorem dX6_insert_192 : decode cX6_insert 192 = .ok (.aload_n 0, 1) := by decide +kernel
theorem dX6_insert_193 : decode cX6_insert 193 = .ok (.getfield 47, 3) := by decide +kernel
theorem dX6_insert_196 : decode cX6_insert 196 = .ok (.ireturn, 1) := by decide +kernel
theorem dX6_takes_0 : decode cX6_takes 0 = .ok (.aload_n 0, 1) := by decide +kernel
theorem dX6_takes_1 : decode cX6_takes 1 = .ok (.dup, 1) := by decide +kernel
theorem dX6_takes_2 : decode cX6_takes 2 = .ok (.getfield 47, 3) := by decide +kernel
theorem dX6_takes_5 : decode cX6_takes 5 = .ok (.iconst 1, 1) := by decide +kernel
theorem dX6_takes_6 : decode cX6_takes 6 = .ok (.isub, 1) := by decide +kernel
theorem dX6_takes_7 : decode cX6_takes 7 = .ok (.putfield 47, 3) := by decide +kernel
theorem dX6_takes_10 : decode cX6_takes 10 = .ok (.iconst 5, 1) := by decide +kernel
theorem dX6_takes_11 : decode cX6_takes 11 = .ok (.iload_n 1, 1) := by decide +kernel
theorem dX6_takes_12 : decode cX6_takes 12 = .ok (.imul, 1) := by decide +kernel
theorem dX6_takes_13 : decode cX6_takes 13 = .ok (.istore_n 2, 1) := by decide +kernel
theorem dX6_takes_14 : decode cX6_takes 14 = .ok (.iload_n 2, 1) := by decide +kernel
theorem dX6_takes_15 : decode cX6_takes 15 = .ok (.iconst 5, 1) := by decide +kernel
theorem dX6_takes_16 : decode cX6_takes 16 = .ok (.aload_n 0, 1) := by decide +kernel
theorem dX6_takes_17 : decode cX6_takes 17 = .ok (.getfield 47, 3) := by decide +kernel
theorem dX6_takes_20 : decode cX6_takes 20 = .ok (.imul, 1) := by decide +kernel
theorem dX6_takes_21 : decode cX6_takes 21 = .ok (.if_icmp .ge 23, 3) := by decide +kernel
theorem dX6_takes_24 : decode cX6_takes 24 = .ok (.aload_n 0, 1) := by decide +kernel
theorem dX6_takes_25 : decode cX6_takes 25 = .ok (.getfield 19, 3) := by decide +kernel
theorem dX6_takes_28 : decode cX6_takes 28 = .ok (.iload_n 2, 1) := by decide +kernel
theorem dX6_takes_29 : decode cX6_takes 29 = .ok (.aload_n 0, 1) := by decide +kernel
theorem dX6_takes_30 : decode cX6_takes 30 = .ok (.getfield 19, 3) := by decide +kernel
theorem dX6_takes_33 : decode cX6_takes 33 = .ok (.iload_n 2, 1) := by decide +kernel
theorem dX6_takes_34 : decode cX6_takes 34 = .ok (.iconst 5, 1) := by decide +kernel
theorem dX6_takes_35 : decode cX6_takes 35 = .ok (.iadd, 1) := by decide +kernel
theorem dX6_takes_36 : decode cX6_takes 36 = .ok (.iaload, 1) := by decide +kernel
theorem dX6_takes_37 : decode cX6_takes 37 = .ok (.iastore, 1) := by decide +kernel
theorem dX6_takes_38 : decode cX6_takes 38 = .ok (.iinc 2 1, 3) := by decide +kernel
theorem dX6_takes_41 : decode cX6_takes 41 = .ok (.goto (-27), 3) := by decide +kernel
theorem dX6_takes_44 : decode cX6_takes 44 = .ok (.return_, 1) := by decide +kernel
theorem dX6_remove_0 : decode cX6_remove 0 = .ok (.aload_n 0, 1) := by decide +kernel
theorem dX6_remove_1 : decode cX6_remove 1 = .ok (.iload_n 1, 1) := by decide +kernel
theorem dX6_remove_2 : decode cX6_remove 2 = .ok (.invokevirtual 116, 3) := by decide +kernel
theorem dX6_remove_5 : decode cX6_remove 5 = .ok (.ifCond .ne 5, 3) := by decide +kernel
theorem dX6_remove_8 : decode cX6_remove 8 = .ok (.iconst (-1), 1) := by decide +kernel
theorem dX6_remove_9 : decode cX6_remove 9 = .ok (.ireturn, 1) := by decide +kernel
theorem dX6_remove_10 : decode cX6_remove 10 = .ok (.aload_n 0, 1) := by decide +kernel
theorem dX6_remove_11 : decode cX6_remove 11 = .ok (.getfield 47, 3) := by decide +kernel
theorem dX6_remove_14 : decode cX6_remove 14 = .ok (.iconst 1, 1) := by decide +kernel
theorem dX6_remove_15 : decode cX6_remove 15 = .ok (.if_icmp .ne 6, 3) := by decide +kernel
theorem dX6_remove_18 : decode cX6_remove 18 = .ok (.bipush (-3), 2) := by decide +kernel
theorem dX6_remove_20 : decode cX6_remove 20 = .ok (.ireturn, 1) := by decide +kernel
theorem dX6_remove_21 : decode cX6_remove 21 = .ok (.aload_n 0, 1) := by decide +kernel
theorem dX6_remove_22 : decode cX6_remove 22 = .ok (.iload_n 1, 1) := by decide +kernel
theorem dX6_remove_23 : decode cX6_remove 23 = .ok (.invokevirtual 125, 3) := by decide +kernel
theorem dX6_remove_26 : decode cX6_remove 26 = .ok (.aload_n 0, 1) := by decide +kernel
theorem dX6_remove_27 : decode cX6_remove 27 = .ok (.getfield 47, 3) := by decide +kernel
theorem dX6_remove_30 : decode cX6_remove 30 = .ok (.ireturn, 1) := by decide +kernel
theorem dX6_changes_0 : decode cX6_changes 0 = .ok (.iconst 5, 1) := by decide +kernel
theorem dX6_changes_1 : decode cX6_changes 1 = .ok (.iload_n 1, 1) := by decide +kernel
theorem dX6_changes_2 : decode cX6_changes 2 = .ok (.imul, 1) := by decide +kernel
theorem dX6_changes_3 : decode cX6_changes 3 = .ok (.istore_n 2, 1) := by decide +kernel
theorem dX6_changes_4 : decode cX6_changes 4 = .ok (.iload_n 2, 1) := by decide +kernel
theorem dX6_changes_5 : decode cX6_changes 5 = .ok (.iconst 5, 1) := by decide +kernel
theorem dX6_changes_6 : decode cX6_changes 6 = .ok (.iload_n 1, 1) := by decide +kernel
theorem dX6_changes_7 : decode cX6_changes 7 = .ok (.imul, 1) := by decide +kernel
theorem dX6_changes_8 : decode cX6_changes 8 = .ok (.iconst 5, 1) := by decide +kernel
theorem dX6_changes_9 : decode cX6_changes 9 = .ok (.iadd, 1) := by decide +kernel
theorem dX6_changes_10 : decode cX6_changes 10 = .ok (.if_icmp .ge 39, 3) := by decide +kernel
theorem dX6_changes_13 : decode cX6_changes 13 = .ok (.aload_n 0, 1) := by decide +kernel
theorem dX6_changes_14 : decode cX6_changes 14 = .ok (.getfield 19, 3) := by decide +kernel
theorem dX6_changes_17 : decode cX6_changes 17 = .ok (.iload_n 2, 1) := by decide +kernel
theorem dX6_changes_18 : decode cX6_changes 18 = .ok (.iaload, 1) := by decide +kernel
theorem dX6_changes_19 : decode cX6_changes 19 = .ok (.istore_n 3, 1) := by decide +kernel
theorem dX6_changes_20 : decode cX6_changes 20 = .ok (.aload_n 0, 1) := by decide +kernel
theorem dX6_changes_21 : decode cX6_changes 21 = .ok (.getfield 19, 3) := by decide +kernel
theorem dX6_changes_24 : decode cX6_changes 24 = .ok (.iload_n 2, 1) := by decide +kernel
theorem dX6_changes_25 : decode cX6_changes 25 = .ok (.aload_n 0, 1) := by decide +kernel
theorem dX6_changes_26 : decode cX6_changes 26 = .ok (.getfield 19, 3) := by decide +kernel
theorem dX6_changes_29 : decode cX6_changes 29 = .ok (.iload_n 2, 1) := by decide +kernel
theorem dX6_changes_30 : decode cX6_changes 30 = .ok (.iconst 5, 1) := by decide +kernel
theorem dX6_changes_31 : decode cX6_changes 31 = .ok (.iadd, 1) := by decide +kernel
theorem dX6_changes_32 : decode cX6_changes 32 = .ok (.iaload, 1) := by decide +kernel
theorem dX6_changes_33 : decode cX6_changes 33 = .ok (.iastore, 1) := by decide +kernel
theorem dX6_changes_34 : decode cX6_changes 34 = .ok (.aload_n 0, 1) := by decide +kernel
theorem dX6_changes_35 : decode cX6_changes 35 = .ok (.getfield 19, 3) := by decide +kernel
theorem dX6_changes_38 : decode cX6_changes 38 = .ok (.iload_n 2, 1) := by decide +kernel
theorem dX6_changes_39 : decode cX6_changes 39 = .ok (.iconst 5, 1) := by decide +kernel
theorem dX6_changes_40 : decode cX6_changes 40 = .ok (.iadd, 1) := by decide +kernel
theorem dX6_changes_41 : decode cX6_changes 41 = .ok (.iload_n 3, 1) := by decide +kernel
theorem dX6_changes_42 : decode cX6_changes 42 = .ok (.iastore, 1) := by decide +kernel
theorem dX6_changes_43 : decode cX6_changes 43 = .ok (.iinc 2 1, 3) := by decide +kernel
theorem dX6_changes_46 : decode cX6_changes 46 = .ok (.goto (-42), 3) := by decide +kernel
theorem dX6_changes_49 : decode cX6_changes 49 = .ok (.return_, 1) := by decide +kernel
theorem dX6_swap_0 : decode cX6_swap 0 = .ok (.aload_n 0, 1) := by decide +kernel
theorem dX6_swap_1 : decode cX6_swap 1 = .ok (.iload_n 1, 1) := by decide +kernel
theorem dX6_swap_2 : decode cX6_swap 2 = .ok (.invokevirtual 116, 3) := by decide +kernel
theorem dX6_swap_5 : decode cX6_swap 5 = .ok (.ifCond .eq 13, 3) := by decide +kernel
theorem dX6_swap_8 : decode cX6_swap 8 = .ok (.iload_n 1, 1) := by decide +kernel
theorem dX6_swap_9 : decode cX6_swap 9 = .ok (.iconst 1, 1) := by decide +kernel
theorem dX6_swap_10 : decode cX6_swap 10 = .ok (.iadd, 1) := by decide +kernel
theorem dX6_swap_11 : decode cX6_swap 11 = .ok (.aload_n 0, 1) := by decide +kernel
theorem dX6_swap_12 : decode cX6_swap 12 = .ok (.getfield 47, 3) := by decide +kernel
theorem dX6_swap_15 : decode cX6_swap 15 = .ok (.if_icmp .lt 5, 3) := by decide +kernel
theorem dX6_swap_18 : decode cX6_swap 18 = .ok (.iconst (-1), 1) := by decide +kernel
theorem dX6_swap_19 : decode cX6_swap 19 = .ok (.ireturn, 1) := by decide +kernel
theorem dX6_swap_20 : decode cX6_swap 20 = .ok (.aload_n 0, 1) := by decide +kernel
theorem dX6_swap_21 : decode cX6_swap 21 = .ok (.iload_n 1, 1) := by decide +kernel
theorem dX6_swap_22 : decode cX6_swap 22 = .ok (.invokevirtual 129, 3) := by decide +kernel
theorem dX6_swap_25 : decode cX6_swap 25 = .ok (.iload_n 1, 1) := by decide +kernel
theorem dX6_swap_26 : decode cX6_swap 26 = .ok (.ireturn, 1) := by decide +kernel
theorem dX6_winner_0 : decode cX6_winner 0 = .ok (.iload_n 1, 1) := by decide +kernel
theorem dX6_winner_1 : decode cX6_winner 1 = .ok (.invokestatic 122, 3) := by decide +kernel
theorem dX6_winner_4 : decode cX6_winner 4 = .ok (.ifCond .ne 6, 3) := by decide +kernel
theorem dX6_winner_7 : decode cX6_winner 7 = .ok (.bipush (-2), 2) := by decide +kernel
theorem dX6_winner_9 : decode cX6_winner 9 = .ok (.ireturn, 1) := by decide +kernel
theorem dX6_winner_10 : decode cX6_winner 10 = .ok (.aload_n 0, 1) := by decide +kernel
theorem dX6_winner_11 : decode cX6_winner 11 = .ok (.getfield 47, 3) := by decide +kernel
theorem dX6_winner_14 : decode cX6_winner 14 = .ok (.ifCond .ne 8, 3) := by decide +kernel
theorem dX6_winner_17 : decode cX6_winner 17 = .ok (.bipush (-3), 2) := by decide +kernel
theorem dX6_winner_19 : decode cX6_winner 19 = .ok (.goto 8, 3) := by decide +kernel
theorem dX6_winner_22 : decode cX6_winner 22 = .ok (.aload_n 0, 1) := by decide +kernel
theorem dX6_winner_23 : decode cX6_winner 23 = .ok (.iload_n 1, 1) := by decide +kernel
theorem dX6_winner_24 : decode cX6_winner 24 = .ok (.invokevirtual 113, 3) := by decide +kernel
theorem dX6_winner_27 : decode cX6_winner 27 = .ok (.ireturn, 1) := by decide +kernel
theorem dX6_ask_0 : decode cX6_ask 0 = .ok (.iload_n 1, 1) := by decide +kernel
theorem dX6_ask_1 : decode cX6_ask 1 = .ok (.invokestatic 122, 3) := by decide +kernel
theorem dX6_ask_4 : decode cX6_ask 4 = .ok (.ifCond .eq 23, 3) := by decide +kernel
theorem dX6_ask_7 : decode cX6_ask 7 = .ok (.iload_n 2, 1) := by decide +kernel
theorem dX6_ask_8 : decode cX6_ask 8 = .ok (.iconst 0, 1) := by decide +kernel
theorem dX6_ask_9 : decode cX6_ask 9 = .ok (.iconst 1, 1) := by decide +kernel
theorem dX6_ask_10 : decode cX6_ask 10 = .ok (.invokestatic 43, 3) := by decide +kernel
theorem dX6_ask_13 : decode cX6_ask 13 = .ok (.ifCond .ne 17, 3) := by decide +kernel
theorem dX6_ask_16 : decode cX6_ask 16 = .ok (.iload_n 2, 1) := by decide +kernel
theorem dX6_ask_17 : decode cX6_ask 17 = .ok (.bipush 10, 2) := by decide +kernel
theorem dX6_ask_19 : decode cX6_ask 19 = .ok (.bipush 17, 2) := by decide +kernel
theorem dX6_ask_21 : decode cX6_ask 21 = .ok (.invokestatic 43, 3) := by decide +kernel
theorem dX6_ask_24 : decode cX6_ask 24 = .ok (.ifCond .ne 6, 3) := by decide +kernel
theorem dX6_ask_27 : decode cX6_ask 27 = .ok (.bipush (-2), 2) := by decide +kernel
theorem dX6_ask_29 : decode cX6_ask 29 = .ok (.ireturn, 1) := by decide +kernel
theorem dX6_ask_30 : decode cX6_ask 30 = .ok (.aload_n 0, 1) := by decide +kernel
theorem dX6_ask_31 : decode cX6_ask 31 = .ok (.getfield 47, 3) := by decide +kernel
theorem dX6_ask_34 : decode cX6_ask 34 = .ok (.ifCond .ne 6, 3) := by decide +kernel
theorem dX6_ask_37 : decode cX6_ask 37 = .ok (.bipush (-3), 2) := by decide +kernel
theorem dX6_ask_39 : decode cX6_ask 39 = .ok (.ireturn, 1) := by decide +kernel
theorem dX6_ask_40 : decode cX6_ask 40 = .ok (.aload_n 0, 1) := by decide +kernel
theorem dX6_ask_41 : decode cX6_ask 41 = .ok (.iload_n 1, 1) := by decide +kernel
theorem dX6_ask_42 : decode cX6_ask 42 = .ok (.bipush (-9), 2) := by decide +kernel
theorem dX6_ask_44 : decode cX6_ask 44 = .ok (.invokevirtual 132, 3) := by decide +kernel
theorem dX6_ask_47 : decode cX6_ask 47 = .ok (.iload_n 2, 1) := by decide +kernel
theorem dX6_ask_48 : decode cX6_ask 48 = .ok (.bipush 10, 2) := by decide +kernel
theorem dX6_ask_50 : decode cX6_ask 50 = .ok (.if_icmp .lt 29, 3) := by decide +kernel
theorem dX6_ask_53 : decode cX6_ask 53 = .ok (.iload_n 2, 1) := by decide +kernel
theorem dX6_ask_54 : decode cX6_ask 54 = .ok (.bipush 10, 2) := by decide +kernel
theorem dX6_ask_56 : decode cX6_ask 56 = .ok (.isub, 1) := by decide +kernel
theorem dX6_ask_57 : decode cX6_ask 57 = .ok (.aload_n 0, 1) := by decide +kernel
theorem dX6_ask_58 : decode cX6_ask 58 = .ok (.getfield 97, 3) := by decide +kernel
theorem dX6_ask_61 : decode cX6_ask 61 = .ok (.if_icmp .ge 15, 3) := by decide +kernel
theorem dX6_ask_64 : decode cX6_ask 64 = .ok (.aload_n 0, 1) := by decide +kernel
theorem dX6_ask_65 : decode cX6_ask 65 = .ok (.getfield 25, 3) := by decide +kernel
theorem dX6_ask_68 : decode cX6_ask 68 = .ok (.iload_n 2, 1) := by decide +kernel
theorem dX6_ask_69 : decode cX6_ask 69 = .ok (.bipush 10, 2) := by decide +kernel
theorem dX6_ask_71 : decode cX6_ask 71 = .ok (.isub, 1) := by decide +kernel
theorem dX6_ask_72 : decode cX6_ask 72 = .ok (.iaload, 1) := by decide +kernel
theorem dX6_ask_73 : decode cX6_ask 73 = .ok (.goto 5, 3) := by decide +kernel
theorem dX6_ask_76 : decode cX6_ask 76 = .ok (.bipush (-9), 2) := by decide +kernel
theorem dX6_ask_78 : decode cX6_ask 78 = .ok (.ireturn, 1) := by decide +kernel
theorem dX6_ask_79 : decode cX6_ask 79 = .ok (.iload_n 2, 1) := by decide +kernel
theorem dX6_ask_80 : decode cX6_ask 80 = .ok (.ifCond .ne 10, 3) := by decide +kernel
theorem dX6_ask_83 : decode cX6_ask 83 = .ok (.aload_n 0, 1) := by decide +kernel
theorem dX6_ask_84 : decode cX6_ask 84 = .ok (.getfield 100, 3) := by decide +kernel
theorem dX6_ask_87 : decode cX6_ask 87 = .ok (.goto 7, 3) := by decide +kernel
theorem dX6_ask_90 : decode cX6_ask 90 = .ok (.aload_n 0, 1) := by decide +kernel
theorem dX6_ask_91 : decode cX6_ask 91 = .ok (.getfield 97, 3) := by decide +kernel
theorem dX6_ask_94 : decode cX6_ask 94 = .ok (.ireturn, 1) := by decide +kernel
theorem dX6_runs_0 : decode cX6_runs 0 = .ok (.aload_n 0, 1) := by decide +kernel
theorem dX6_runs_1 : decode cX6_runs 1 = .ok (.getfield 47, 3) := by decide +kernel
theorem dX6_runs_4 : decode cX6_runs 4 = .ok (.ifCond .ne 7, 3) := by decide +kernel
theorem dX6_runs_7 : decode cX6_runs 7 = .ok (.iconst 0, 1) := by decide +kernel
theorem dX6_runs_8 : decode cX6_runs 8 = .ok (.goto 4, 3) := by decide +kernel
theorem dX6_runs_11 : decode cX6_runs 11 = .ok (.iconst 1, 1) := by decide +kernel
theorem dX6_runs_12 : decode cX6_runs 12 = .ok (.istore_n 1, 1) := by decide +kernel
theorem dX6_runs_13 : decode cX6_runs 13 = .ok (.iconst 1, 1) := by decide +kernel
theorem dX6_runs_14 : decode cX6_runs 14 = .ok (.istore_n 2, 1) := by decide +kernel
theorem dX6_runs_15 : decode cX6_runs 15 = .ok (.iload_n 2, 1) := by decide +kernel
theorem dX6_runs_16 : decode cX6_runs 16 = .ok (.bipush 26, 2) := by decide +kernel
theorem dX6_runs_18 : decode cX6_runs 18 = .ok (.if_icmp .ge 39, 3) := by decide +kernel
theorem dX6_runs_21 : decode cX6_runs 21 = .ok (.aload_n 0, 1) := by decide +kernel
theorem dX6_runs_22 : decode cX6_runs 22 = .ok (.getfield 47, 3) := by decide +kernel
theorem dX6_runs_25 : decode cX6_runs 25 = .ok (.ifCond .le 32, 3) := by decide +kernel
theorem dX6_runs_28 : decode cX6_runs 28 = .ok (.iload_n 1, 1) := by decide +kernel
theorem dX6_runs_29 : decode cX6_runs 29 = .ok (.aload_n 0, 1) := by decide +kernel
theorem dX6_runs_30 : decode cX6_runs 30 = .ok (.iload_n 2, 1) := by decide +kernel
theorem dX6_runs_31 : decode cX6_runs 31 = .ok (.invokevirtual 113, 3) := by decide +kernel
theorem dX6_runs_34 : decode cX6_runs 34 = .ok (.aload_n 0, 1) := by decide +kernel
theorem dX6_runs_35 : decode cX6_runs 35 = .ok (.iload_n 2, 1) := by decide +kernel
theorem dX6_runs_36 : decode cX6_runs 36 = .ok (.iconst 1, 1) := by decide +kernel
theorem dX6_runs_37 : decode cX6_runs 37 = .ok (.isub, 1) := by decide +kernel
theorem dX6_runs_38 : decode cX6_runs 38 = .ok (.invokevirtual 113, 3) := by decide +kernel
theorem dX6_runs_41 : decode cX6_runs 41 = .ok (.if_icmp .ne 7, 3) := by decide +kernel
theorem dX6_runs_44 : decode cX6_runs 44 = .ok (.iconst 0, 1) := by decide +kernel
theorem dX6_runs_45 : decode cX6_runs 45 = .ok (.goto 4, 3) := by decide +kernel
theorem dX6_runs_48 : decode cX6_runs 48 = .ok (.iconst 1, 1) := by decide +kernel
theorem dX6_runs_49 : decode cX6_runs 49 = .ok (.iadd, 1) := by decide +kernel
theorem dX6_runs_50 : decode cX6_runs 50 = .ok (.istore_n 1, 1) := by decide +kernel
theorem dX6_runs_51 : decode cX6_runs 51 = .ok (.iinc 2 1, 3) := by decide +kernel
theorem dX6_runs_54 : decode cX6_runs 54 = .ok (.goto (-39), 3) := by decide +kernel
theorem dX6_runs_57 : decode cX6_runs 57 = .ok (.iload_n 1, 1) := by decide +kernel
theorem dX6_runs_58 : decode cX6_runs 58 = .ok (.ireturn, 1) := by decide +kernel
theorem dX6_shadowed_0 : decode cX6_shadowed 0 = .ok (.iconst 0, 1) := by decide +kernel
theorem dX6_shadowed_1 : decode cX6_shadowed 1 = .ok (.istore_n 1, 1) := by decide +kernel
theorem dX6_shadowed_2 : decode cX6_shadowed 2 = .ok (.iconst 0, 1) := by decide +kernel
theorem dX6_shadowed_3 : decode cX6_shadowed 3 = .ok (.istore_n 2, 1) := by decide +kernel
theorem dX6_shadowed_4 : decode cX6_shadowed 4 = .ok (.iload_n 2, 1) := by decide +kernel
theorem dX6_shadowed_5 : decode cX6_shadowed 5 = .ok (.aload_n 0, 1) := by decide +kernel
theorem dX6_shadowed_6 : decode cX6_shadowed 6 = .ok (.getfield 47, 3) := by decide +kernel
theorem dX6_shadowed_9 : decode cX6_shadowed 9 = .ok (.if_icmp .ge 27, 3) := by decide +kernel
theorem dX6_shadowed_12 : decode cX6_shadowed 12 = .ok (.iload_n 1, 1) := by decide +kernel
theorem dX6_shadowed_13 : decode cX6_shadowed 13 = .ok (.aload_n 0, 1) := by decide +kernel
theorem dX6_shadowed_14 : decode cX6_shadowed 14 = .ok (.iload_n 2, 1) := by decide +kernel
theorem dX6_shadowed_15 : decode cX6_shadowed 15 = .ok (.invokevirtual 119, 3) := by decide +kernel
theorem dX6_shadowed_18 : decode cX6_shadowed 18 = .ok (.ifCond .ne 9, 3) := by decide +kernel
theorem dX6_shadowed_21 : decode cX6_shadowed 21 = .ok (.iconst 1, 1) := by decide +kernel
theorem dX6_shadowed_22 : decode cX6_shadowed 22 = .ok (.iload_n 2, 1) := by decide +kernel
theorem dX6_shadowed_23 : decode cX6_shadowed 23 = .ok (.ishl, 1) := by decide +kernel
theorem dX6_shadowed_24 : decode cX6_shadowed 24 = .ok (.goto 4, 3) := by decide +kernel
theorem dX6_shadowed_27 : decode cX6_shadowed 27 = .ok (.iconst 0, 1) := by decide +kernel
theorem dX6_shadowed_28 : decode cX6_shadowed 28 = .ok (.ior, 1) := by decide +kernel
theorem dX6_shadowed_29 : decode cX6_shadowed 29 = .ok (.istore_n 1, 1) := by decide +kernel
theorem dX6_shadowed_30 : decode cX6_shadowed 30 = .ok (.iinc 2 1, 3) := by decide +kernel
theorem dX6_shadowed_33 : decode cX6_shadowed 33 = .ok (.goto (-29), 3) := by decide +kernel
theorem dX6_shadowed_36 : decode cX6_shadowed 36 = .ok (.iload_n 1, 1) := by decide +kernel
theorem dX6_shadowed_37 : decode cX6_shadowed 37 = .ok (.ireturn, 1) := by decide +kernel
theorem dX6_manyDenied_0 : decode cX6_manyDenied 0 = .ok (.iconst 0, 1) := by decide +kernel
theorem dX6_manyDenied_1 : decode cX6_manyDenied 1 = .ok (.istore_n 1, 1) := by decide +kernel
theorem dX6_manyDenied_2 : decode cX6_manyDenied 2 = .ok (.iconst 0, 1) := by decide +kernel
theorem dX6_manyDenied_3 : decode cX6_manyDenied 3 = .ok (.istore_n 2, 1) := by decide +kernel
theorem dX6_manyDenied_4 : decode cX6_manyDenied 4 = .ok (.iload_n 2, 1) := by decide +kernel
theorem dX6_manyDenied_5 : decode cX6_manyDenied 5 = .ok (.bipush 26, 2) := by decide +kernel
theorem dX6_manyDenied_7 : decode cX6_manyDenied 7 = .ok (.if_icmp .ge 31, 3) := by decide +kernel
theorem dX6_manyDenied_10 : decode cX6_manyDenied 10 = .ok (.aload_n 0, 1) := by decide +kernel
theorem dX6_manyDenied_11 : decode cX6_manyDenied 11 = .ok (.iload_n 2, 1) := by decide +kernel
theorem dX6_manyDenied_12 : decode cX6_manyDenied 12 = .ok (.bipush (-9), 2) := by decide +kernel
theorem dX6_manyDenied_14 : decode cX6_manyDenied 14 = .ok (.invokevirtual 132, 3) := by decide +kernel
theorem dX6_manyDenied_17 : decode cX6_manyDenied 17 = .ok (.iload_n 1, 1) := by decide +kernel
theorem dX6_manyDenied_18 : decode cX6_manyDenied 18 = .ok (.aload_n 0, 1) := by decide +kernel
theorem dX6_manyDenied_19 : decode cX6_manyDenied 19 = .ok (.getfield 97, 3) := by decide +kernel
theorem dX6_manyDenied_22 : decode cX6_manyDenied 22 = .ok (.ifCond .le 7, 3) := by decide +kernel
theorem dX6_manyDenied_25 : decode cX6_manyDenied 25 = .ok (.iconst 1, 1) := by decide +kernel
theorem dX6_manyDenied_26 : decode cX6_manyDenied 26 = .ok (.goto 4, 3) := by decide +kernel
theorem dX6_manyDenied_29 : decode cX6_manyDenied 29 = .ok (.iconst 0, 1) := by decide +kernel
theorem dX6_manyDenied_30 : decode cX6_manyDenied 30 = .ok (.iadd, 1) := by decide +kernel
theorem dX6_manyDenied_31 : decode cX6_manyDenied 31 = .ok (.istore_n 1, 1) := by decide +kernel
theorem dX6_manyDenied_32 : decode cX6_manyDenied 32 = .ok (.iinc 2 1, 3) := by decide +kernel
theorem dX6_manyDenied_35 : decode cX6_manyDenied 35 = .ok (.goto (-31), 3) := by decide +kernel
theorem dX6_manyDenied_38 : decode cX6_manyDenied 38 = .ok (.iload_n 1, 1) := by decide +kernel
theorem dX6_manyDenied_39 : decode cX6_manyDenied 39 = .ok (.ireturn, 1) := by decide +kernel
theorem dX6_worthInAll_0 : decode cX6_worthInAll 0 = .ok (.iconst 0, 1) := by decide +kernel
theorem dX6_worthInAll_1 : decode cX6_worthInAll 1 = .ok (.istore_n 1, 1) := by decide +kernel
theorem dX6_worthInAll_2 : decode cX6_worthInAll 2 = .ok (.iconst 0, 1) := by decide +kernel
theorem dX6_worthInAll_3 : decode cX6_worthInAll 3 = .ok (.istore_n 2, 1) := by decide +kernel
theorem dX6_worthInAll_4 : decode cX6_worthInAll 4 = .ok (.iload_n 2, 1) := by decide +kernel
theorem dX6_worthInAll_5 : decode cX6_worthInAll 5 = .ok (.bipush 26, 2) := by decide +kernel
theorem dX6_worthInAll_7 : decode cX6_worthInAll 7 = .ok (.if_icmp .ge 34, 3) := by decide +kernel
theorem dX6_worthInAll_10 : decode cX6_worthInAll 10 = .ok (.aload_n 0, 1) := by decide +kernel
theorem dX6_worthInAll_11 : decode cX6_worthInAll 11 = .ok (.iload_n 2, 1) := by decide +kernel
theorem dX6_worthInAll_12 : decode cX6_worthInAll 12 = .ok (.bipush (-9), 2) := by decide +kernel
theorem dX6_worthInAll_14 : decode cX6_worthInAll 14 = .ok (.invokevirtual 132, 3) := by decide +kernel
theorem dX6_worthInAll_17 : decode cX6_worthInAll 17 = .ok (.iload_n 1, 1) := by decide +kernel
theorem dX6_worthInAll_18 : decode cX6_worthInAll 18 = .ok (.aload_n 0, 1) := by decide +kernel
theorem dX6_worthInAll_19 : decode cX6_worthInAll 19 = .ok (.getfield 97, 3) := by decide +kernel
theorem dX6_worthInAll_22 : decode cX6_worthInAll 22 = .ok (.ifCond .le 7, 3) := by decide +kernel
theorem dX6_worthInAll_25 : decode cX6_worthInAll 25 = .ok (.iconst 0, 1) := by decide +kernel
theorem dX6_worthInAll_26 : decode cX6_worthInAll 26 = .ok (.goto 7, 3) := by decide +kernel
theorem dX6_worthInAll_29 : decode cX6_worthInAll 29 = .ok (.aload_n 0, 1) := by decide +kernel
theorem dX6_worthInAll_30 : decode cX6_worthInAll 30 = .ok (.getfield 100, 3) := by decide +kernel
theorem dX6_worthInAll_33 : decode cX6_worthInAll 33 = .ok (.iadd, 1) := by decide +kernel
theorem dX6_worthInAll_34 : decode cX6_worthInAll 34 = .ok (.istore_n 1, 1) := by decide +kernel
theorem dX6_worthInAll_35 : decode cX6_worthInAll 35 = .ok (.iinc 2 1, 3) := by decide +kernel
theorem dX6_worthInAll_38 : decode cX6_worthInAll 38 = .ok (.goto (-34), 3) := by decide +kernel
theorem dX6_worthInAll_41 : decode cX6_worthInAll 41 = .ok (.iload_n 1, 1) := by decide +kernel
theorem dX6_worthInAll_42 : decode cX6_worthInAll 42 = .ok (.ireturn, 1) := by decide +kernel
theorem dX6_needed_0 : decode cX6_needed 0 = .ok (.iconst 0, 1) := by decide +kernel
theorem dX6_needed_1 : decode cX6_needed 1 = .ok (.istore_n 1, 1) := by decide +kernel
theorem dX6_needed_2 : decode cX6_needed 2 = .ok (.iconst 0, 1) := by decide +kernel
theorem dX6_needed_3 : decode cX6_needed 3 = .ok (.istore_n 2, 1) := by decide +kernel
theorem dX6_needed_4 : decode cX6_needed 4 = .ok (.iload_n 2, 1) := by decide +kernel
theorem dX6_needed_5 : decode cX6_needed 5 = .ok (.aload_n 0, 1) := by decide +kernel
theorem dX6_needed_6 : decode cX6_needed 6 = .ok (.getfield 47, 3) := by decide +kernel
theorem dX6_needed_9 : decode cX6_needed 9 = .ok (.if_icmp .ge 61, 3) := by decide +kernel
theorem dX6_needed_12 : decode cX6_needed 12 = .ok (.iconst 0, 1) := by decide +kernel
theorem dX6_needed_13 : decode cX6_needed 13 = .ok (.istore_n 3, 1) := by decide +kernel
theorem dX6_needed_14 : decode cX6_needed 14 = .ok (.iload_n 3, 1) := by decide +kernel
theorem dX6_needed_15 : decode cX6_needed 15 = .ok (.bipush 26, 2) := by decide +kernel
theorem dX6_needed_17 : decode cX6_needed 17 = .ok (.if_icmp .ge 47, 3) := by decide +kernel
theorem dX6_needed_20 : decode cX6_needed 20 = .ok (.aload_n 0, 1) := by decide +kernel
theorem dX6_needed_21 : decode cX6_needed 21 = .ok (.iload_n 3, 1) := by decide +kernel
theorem dX6_needed_22 : decode cX6_needed 22 = .ok (.bipush (-9), 2) := by decide +kernel
theorem dX6_needed_24 : decode cX6_needed 24 = .ok (.invokevirtual 132, 3) := by decide +kernel
theorem dX6_needed_27 : decode cX6_needed 27 = .ok (.aload_n 0, 1) := by decide +kernel
theorem dX6_needed_28 : decode cX6_needed 28 = .ok (.getfield 100, 3) := by decide +kernel
theorem dX6_needed_31 : decode cX6_needed 31 = .ok (.istore 4, 2) := by decide +kernel
theorem dX6_needed_33 : decode cX6_needed 33 = .ok (.aload_n 0, 1) := by decide +kernel
theorem dX6_needed_34 : decode cX6_needed 34 = .ok (.iload_n 3, 1) := by decide +kernel
theorem dX6_needed_35 : decode cX6_needed 35 = .ok (.iload_n 2, 1) := by decide +kernel
theorem dX6_needed_36 : decode cX6_needed 36 = .ok (.invokevirtual 132, 3) := by decide +kernel
theorem dX6_needed_39 : decode cX6_needed 39 = .ok (.iload_n 1, 1) := by decide +kernel
theorem dX6_needed_40 : decode cX6_needed 40 = .ok (.aload_n 0, 1) := by decide +kernel
theorem dX6_needed_41 : decode cX6_needed 41 = .ok (.getfield 100, 3) := by decide +kernel
theorem dX6_needed_44 : decode cX6_needed 44 = .ok (.iload 4, 2) := by decide +kernel
theorem dX6_needed_46 : decode cX6_needed 46 = .ok (.if_icmp .ne 7, 3) := by decide +kernel
theorem dX6_needed_49 : decode cX6_needed 49 = .ok (.iconst 0, 1) := by decide +kernel
theorem dX6_needed_50 : decode cX6_needed 50 = .ok (.goto 6, 3) := by decide +kernel
theorem dX6_needed_53 : decode cX6_needed 53 = .ok (.iconst 1, 1) := by decide +kernel
theorem dX6_needed_54 : decode cX6_needed 54 = .ok (.iload_n 2, 1) := by decide +kernel
theorem dX6_needed_55 : decode cX6_needed 55 = .ok (.ishl, 1) := by decide +kernel
theorem dX6_needed_56 : decode cX6_needed 56 = .ok (.ior, 1) := by decide +kernel
theorem dX6_needed_57 : decode cX6_needed 57 = .ok (.istore_n 1, 1) := by decide +kernel
theorem dX6_needed_58 : decode cX6_needed 58 = .ok (.iinc 3 1, 3) := by decide +kernel
theorem dX6_needed_61 : decode cX6_needed 61 = .ok (.goto (-47), 3) := by decide +kernel
theorem dX6_needed_64 : decode cX6_needed 64 = .ok (.iinc 2 1, 3) := by decide +kernel
theorem dX6_needed_67 : decode cX6_needed 67 = .ok (.goto (-63), 3) := by decide +kernel
theorem dX6_needed_70 : decode cX6_needed 70 = .ok (.iload_n 1, 1) := by decide +kernel
theorem dX6_needed_71 : decode cX6_needed 71 = .ok (.ireturn, 1) := by decide +kernel
theorem dX6_does_0 : decode cX6_does 0 = .ok (.iload_n 2, 1) := by decide +kernel
theorem dX6_does_1 : decode cX6_does 1 = .ok (.bipush 20, 2) := by decide +kernel
theorem dX6_does_3 : decode cX6_does 3 = .ok (.if_icmp .ne 22, 3) := by decide +kernel
theorem dX6_does_6 : decode cX6_does 6 = .ok (.iload_n 1, 1) := by decide +kernel
theorem dX6_does_7 : decode cX6_does 7 = .ok (.iconst 1, 1) := by decide +kernel
theorem dX6_does_8 : decode cX6_does 8 = .ok (.iadd, 1) := by decide +kernel
theorem dX6_does_9 : decode cX6_does 9 = .ok (.aload_n 0, 1) := by decide +kernel
theorem dX6_does_10 : decode cX6_does 10 = .ok (.getfield 47, 3) := by decide +kernel
theorem dX6_does_13 : decode cX6_does 13 = .ok (.if_icmp .lt 5, 3) := by decide +kernel
theorem dX6_does_16 : decode cX6_does 16 = .ok (.iconst 0, 1) := by decide +kernel
theorem dX6_does_17 : decode cX6_does 17 = .ok (.ireturn, 1) := by decide +kernel
theorem dX6_does_18 : decode cX6_does 18 = .ok (.aload_n 0, 1) := by decide +kernel
theorem dX6_does_19 : decode cX6_does 19 = .ok (.iload_n 1, 1) := by decide +kernel
theorem dX6_does_20 : decode cX6_does 20 = .ok (.invokevirtual 129, 3) := by decide +kernel
theorem dX6_does_23 : decode cX6_does 23 = .ok (.iconst 1, 1) := by decide +kernel
theorem dX6_does_24 : decode cX6_does 24 = .ok (.ireturn, 1) := by decide +kernel
theorem dX6_does_25 : decode cX6_does 25 = .ok (.iload_n 2, 1) := by decide +kernel
theorem dX6_does_26 : decode cX6_does 26 = .ok (.bipush 10, 2) := by decide +kernel
theorem dX6_does_28 : decode cX6_does 28 = .ok (.if_icmp .lt 10, 3) := by decide +kernel
theorem dX6_does_31 : decode cX6_does 31 = .ok (.iload_n 2, 1) := by decide +kernel
theorem dX6_does_32 : decode cX6_does 32 = .ok (.bipush 10, 2) := by decide +kernel
theorem dX6_does_34 : decode cX6_does 34 = .ok (.isub, 1) := by decide +kernel
theorem dX6_does_35 : decode cX6_does 35 = .ok (.goto 4, 3) := by decide +kernel
theorem dX6_does_38 : decode cX6_does 38 = .ok (.iload_n 2, 1) := by decide +kernel
theorem dX6_does_39 : decode cX6_does 39 = .ok (.istore_n 3, 1) := by decide +kernel
theorem dX6_does_40 : decode cX6_does 40 = .ok (.aload_n 0, 1) := by decide +kernel
theorem dX6_does_41 : decode cX6_does 41 = .ok (.iload_n 3, 1) := by decide +kernel
theorem dX6_does_42 : decode cX6_does 42 = .ok (.invokevirtual 116, 3) := by decide +kernel
theorem dX6_does_45 : decode cX6_does 45 = .ok (.ifCond .eq 17, 3) := by decide +kernel
theorem dX6_does_48 : decode cX6_does 48 = .ok (.iload_n 2, 1) := by decide +kernel
theorem dX6_does_49 : decode cX6_does 49 = .ok (.bipush 10, 2) := by decide +kernel
theorem dX6_does_51 : decode cX6_does 51 = .ok (.if_icmp .lt 13, 3) := by decide +kernel
theorem dX6_does_54 : decode cX6_does 54 = .ok (.aload_n 0, 1) := by decide +kernel
theorem dX6_does_55 : decode cX6_does 55 = .ok (.getfield 47, 3) := by decide +kernel
theorem dX6_does_58 : decode cX6_does 58 = .ok (.iconst 1, 1) := by decide +kernel
theorem dX6_does_59 : decode cX6_does 59 = .ok (.if_icmp .ne 5, 3) := by decide +kernel
theorem dX6_does_62 : decode cX6_does 62 = .ok (.iconst 0, 1) := by decide +kernel
theorem dX6_does_63 : decode cX6_does 63 = .ok (.ireturn, 1) := by decide +kernel
theorem dX6_does_64 : decode cX6_does 64 = .ok (.iload_n 2, 1) := by decide +kernel
theorem dX6_does_65 : decode cX6_does 65 = .ok (.bipush 10, 2) := by decide +kernel
theorem dX6_does_67 : decode cX6_does 67 = .ok (.if_icmp .lt 11, 3) := by decide +kernel
theorem dX6_does_70 : decode cX6_does 70 = .ok (.aload_n 0, 1) := by decide +kernel
theorem dX6_does_71 : decode cX6_does 71 = .ok (.iload_n 3, 1) := by decide +kernel
theorem dX6_does_72 : decode cX6_does 72 = .ok (.invokevirtual 125, 3) := by decide +kernel
theorem dX6_does_75 : decode cX6_does 75 = .ok (.goto 14, 3) := by decide +kernel
theorem dX6_does_78 : decode cX6_does 78 = .ok (.aload_n 0, 1) := by decide +kernel
theorem dX6_does_79 : decode cX6_does 79 = .ok (.getfield 19, 3) := by decide +kernel
theorem dX6_does_82 : decode cX6_does 82 = .ok (.iconst 5, 1) := by decide +kernel
theorem dX6_does_83 : decode cX6_does 83 = .ok (.iload_n 3, 1) := by decide +kernel
theorem dX6_does_84 : decode cX6_does 84 = .ok (.imul, 1) := by decide +kernel
theorem dX6_does_85 : decode cX6_does 85 = .ok (.iconst 2, 1) := by decide +kernel
theorem dX6_does_86 : decode cX6_does 86 = .ok (.iadd, 1) := by decide +kernel
theorem dX6_does_87 : decode cX6_does 87 = .ok (.iload_n 1, 1) := by decide +kernel
theorem dX6_does_88 : decode cX6_does 88 = .ok (.iastore, 1) := by decide +kernel
theorem dX6_does_89 : decode cX6_does 89 = .ok (.iconst 1, 1) := by decide +kernel
theorem dX6_does_90 : decode cX6_does 90 = .ok (.ireturn, 1) := by decide +kernel
theorem dX6_isPair_0 : decode cX6_isPair 0 = .ok (.iload_n 1, 1) := by decide +kernel
theorem dX6_isPair_1 : decode cX6_isPair 1 = .ok (.bipush 20, 2) := by decide +kernel
theorem dX6_isPair_3 : decode cX6_isPair 3 = .ok (.if_icmp .ne 12, 3) := by decide +kernel
theorem dX6_isPair_6 : decode cX6_isPair 6 = .ok (.iload_n 0, 1) := by decide +kernel
theorem dX6_isPair_7 : decode cX6_isPair 7 = .ok (.iconst 0, 1) := by decide +kernel
theorem dX6_isPair_8 : decode cX6_isPair 8 = .ok (.iconst 5, 1) := by decide +kernel
theorem dX6_isPair_9 : decode cX6_isPair 9 = .ok (.invokestatic 43, 3) := by decide +kernel
theorem dX6_isPair_12 : decode cX6_isPair 12 = .ok (.goto 51, 3) := by decide +kernel
theorem dX6_isPair_15 : decode cX6_isPair 15 = .ok (.iload_n 1, 1) := by decide +kernel
theorem dX6_isPair_16 : decode cX6_isPair 16 = .ok (.bipush 10, 2) := by decide +kernel
theorem dX6_isPair_18 : decode cX6_isPair 18 = .ok (.bipush 16, 2) := by decide +kernel
theorem dX6_isPair_20 : decode cX6_isPair 20 = .ok (.invokestatic 43, 3) := by decide +kernel
theorem dX6_isPair_23 : decode cX6_isPair 23 = .ok (.ifCond .eq 15, 3) := by decide +kernel
theorem dX6_isPair_26 : decode cX6_isPair 26 = .ok (.iload_n 0, 1) := by decide +kernel
theorem dX6_isPair_27 : decode cX6_isPair 27 = .ok (.ifCond .ne 7, 3) := by decide +kernel
theorem dX6_isPair_30 : decode cX6_isPair 30 = .ok (.iconst 1, 1) := by decide +kernel
theorem dX6_isPair_31 : decode cX6_isPair 31 = .ok (.goto 32, 3) := by decide +kernel
theorem dX6_isPair_34 : decode cX6_isPair 34 = .ok (.iconst 0, 1) := by decide +kernel
theorem dX6_isPair_35 : decode cX6_isPair 35 = .ok (.goto 28, 3) := by decide +kernel
theorem dX6_isPair_38 : decode cX6_isPair 38 = .ok (.iload_n 1, 1) := by decide +kernel
theorem dX6_isPair_39 : decode cX6_isPair 39 = .ok (.iconst 0, 1) := by decide +kernel
theorem dX6_isPair_40 : decode cX6_isPair 40 = .ok (.bipush 6, 2) := by decide +kernel
theorem dX6_isPair_42 : decode cX6_isPair 42 = .ok (.invokestatic 43, 3) := by decide +kernel
theorem dX6_isPair_45 : decode cX6_isPair 45 = .ok (.ifCond .eq 17, 3) := by decide +kernel
theorem dX6_isPair_48 : decode cX6_isPair 48 = .ok (.iload_n 0, 1) := by decide +kernel
theorem dX6_isPair_49 : decode cX6_isPair 49 = .ok (.iconst 1, 1) := by decide +kernel
theorem dX6_isPair_50 : decode cX6_isPair 50 = .ok (.bipush 9, 2) := by decide +kernel
theorem dX6_isPair_52 : decode cX6_isPair 52 = .ok (.invokestatic 43, 3) := by decide +kernel
theorem dX6_isPair_55 : decode cX6_isPair 55 = .ok (.ifCond .eq 7, 3) := by decide +kernel
theorem dX6_isPair_58 : decode cX6_isPair 58 = .ok (.iconst 1, 1) := by decide +kernel
theorem dX6_isPair_59 : decode cX6_isPair 59 = .ok (.goto 4, 3) := by decide +kernel
theorem dX6_isPair_62 : decode cX6_isPair 62 = .ok (.iconst 0, 1) := by decide +kernel
theorem dX6_isPair_63 : decode cX6_isPair 63 = .ok (.ireturn, 1) := by decide +kernel
theorem dX6_goDay_0 : decode cX6_goDay 0 = .ok (.iconst 0, 1) := by decide +kernel
theorem dX6_goDay_1 : decode cX6_goDay 1 = .ok (.istore_n 3, 1) := by decide +kernel
theorem dX6_goDay_2 : decode cX6_goDay 2 = .ok (.iload_n 3, 1) := by decide +kernel
theorem dX6_goDay_3 : decode cX6_goDay 3 = .ok (.iload_n 2, 1) := by decide +kernel
theorem dX6_goDay_4 : decode cX6_goDay 4 = .ok (.if_icmp .ge 40, 3) := by decide +kernel
theorem dX6_goDay_7 : decode cX6_goDay 7 = .ok (.aload_n 0, 1) := by decide +kernel
theorem dX6_goDay_8 : decode cX6_goDay 8 = .ok (.aload_n 0, 1) := by decide +kernel
theorem dX6_goDay_9 : decode cX6_goDay 9 = .ok (.getfield 16, 3) := by decide +kernel
theorem dX6_goDay_12 : decode cX6_goDay 12 = .ok (.iload_n 1, 1) := by decide +kernel
theorem dX6_goDay_13 : decode cX6_goDay 13 = .ok (.iconst 2, 1) := by decide +kernel
theorem dX6_goDay_14 : decode cX6_goDay 14 = .ok (.iload_n 3, 1) := by decide +kernel
theorem dX6_goDay_15 : decode cX6_goDay 15 = .ok (.imul, 1) := by decide +kernel
theorem dX6_goDay_16 : decode cX6_goDay 16 = .ok (.iadd, 1) := by decide +kernel
theorem dX6_goDay_17 : decode cX6_goDay 17 = .ok (.iaload, 1) := by decide +kernel
theorem dX6_goDay_18 : decode cX6_goDay 18 = .ok (.aload_n 0, 1) := by decide +kernel
theorem dX6_goDay_19 : decode cX6_goDay 19 = .ok (.getfield 16, 3) := by decide +kernel
theorem dX6_goDay_22 : decode cX6_goDay 22 = .ok (.iload_n 1, 1) := by decide +kernel
theorem dX6_goDay_23 : decode cX6_goDay 23 = .ok (.iconst 2, 1) := by decide +kernel
theorem dX6_goDay_24 : decode cX6_goDay 24 = .ok (.iload_n 3, 1) := by decide +kernel
theorem dX6_goDay_25 : decode cX6_goDay 25 = .ok (.imul, 1) := by decide +kernel
theorem dX6_goDay_26 : decode cX6_goDay 26 = .ok (.iadd, 1) := by decide +kernel
theorem dX6_goDay_27 : decode cX6_goDay 27 = .ok (.iconst 1, 1) := by decide +kernel
theorem dX6_goDay_28 : decode cX6_goDay 28 = .ok (.iadd, 1) := by decide +kernel
theorem dX6_goDay_29 : decode cX6_goDay 29 = .ok (.iaload, 1) := by decide +kernel
theorem dX6_goDay_30 : decode cX6_goDay 30 = .ok (.invokevirtual 136, 3) := by decide +kernel
theorem dX6_goDay_33 : decode cX6_goDay 33 = .ok (.ifCond .ne 5, 3) := by decide +kernel
theorem dX6_goDay_36 : decode cX6_goDay 36 = .ok (.iload_n 3, 1) := by decide +kernel
theorem dX6_goDay_37 : decode cX6_goDay 37 = .ok (.ireturn, 1) := by decide +kernel
theorem dX6_goDay_38 : decode cX6_goDay 38 = .ok (.iinc 3 1, 3) := by decide +kernel
theorem dX6_goDay_41 : decode cX6_goDay 41 = .ok (.goto (-39), 3) := by decide +kernel
theorem dX6_goDay_44 : decode cX6_goDay 44 = .ok (.bipush (-9), 2) := by decide +kernel
theorem dX6_goDay_46 : decode cX6_goDay 46 = .ok (.ireturn, 1) := by decide +kernel
theorem dX6_day_0 : decode cX6_day 0 = .ok (.aload_n 0, 1) := by decide +kernel
theorem dX6_day_1 : decode cX6_day 1 = .ok (.iconst 0, 1) := by decide +kernel
theorem dX6_day_2 : decode cX6_day 2 = .ok (.putfield 37, 3) := by decide +kernel
theorem dX6_day_5 : decode cX6_day 5 = .ok (.iload_n 1, 1) := by decide +kernel
theorem dX6_day_6 : decode cX6_day 6 = .ok (.invokestatic 57, 3) := by decide +kernel
theorem dX6_day_9 : decode cX6_day 9 = .ok (.ifCond .ne 5, 3) := by decide +kernel
theorem dX6_day_12 : decode cX6_day 12 = .ok (.iconst (-1), 1) := by decide +kernel
theorem dX6_day_13 : decode cX6_day 13 = .ok (.ireturn, 1) := by decide +kernel
theorem dX6_day_14 : decode cX6_day 14 = .ok (.iload_n 2, 1) := by decide +kernel
theorem dX6_day_15 : decode cX6_day 15 = .ok (.invokestatic 61, 3) := by decide +kernel
theorem dX6_day_18 : decode cX6_day 18 = .ok (.ifCond .eq 36, 3) := by decide +kernel
theorem dX6_day_21 : decode cX6_day 21 = .ok (.iload 4, 2) := by decide +kernel
theorem dX6_day_23 : decode cX6_day 23 = .ok (.iconst 0, 1) := by decide +kernel
theorem dX6_day_24 : decode cX6_day 24 = .ok (.bipush 20, 2) := by decide +kernel
theorem dX6_day_26 : decode cX6_day 26 = .ok (.invokestatic 43, 3) := by decide +kernel
theorem dX6_day_29 : decode cX6_day 29 = .ok (.ifCond .eq 25, 3) := by decide +kernel
theorem dX6_day_32 : decode cX6_day 32 = .ok (.iload 5, 2) := by decide +kernel
theorem dX6_day_34 : decode cX6_day 34 = .ok (.iconst 0, 1) := by decide +kernel
theorem dX6_day_35 : decode cX6_day 35 = .ok (.iconst 4, 1) := by decide +kernel
theorem dX6_day_36 : decode cX6_day 36 = .ok (.invokestatic 43, 3) := by decide +kernel
theorem dX6_day_39 : decode cX6_day 39 = .ok (.ifCond .ne 18, 3) := by decide +kernel
theorem dX6_day_42 : decode cX6_day 42 = .ok (.iload 5, 2) := by decide +kernel
theorem dX6_day_44 : decode cX6_day 44 = .ok (.bipush 10, 2) := by decide +kernel
theorem dX6_day_46 : decode cX6_day 46 = .ok (.bipush 35, 2) := by decide +kernel
theorem dX6_day_48 : decode cX6_day 48 = .ok (.invokestatic 43, 3) := by decide +kernel
theorem dX6_day_51 : decode cX6_day 51 = .ok (.ifCond .ne 6, 3) := by decide +kernel
theorem dX6_day_54 : decode cX6_day 54 = .ok (.bipush (-2), 2) := by decide +kernel
theorem dX6_day_56 : decode cX6_day 56 = .ok (.ireturn, 1) := by decide +kernel
theorem dX6_day_57 : decode cX6_day 57 = .ok (.aload_n 0, 1) := by decide +kernel
theorem dX6_day_58 : decode cX6_day 58 = .ok (.iload_n 1, 1) := by decide +kernel
theorem dX6_day_59 : decode cX6_day 59 = .ok (.iload_n 2, 1) := by decide +kernel
theorem dX6_day_60 : decode cX6_day 60 = .ok (.iload_n 3, 1) := by decide +kernel
theorem dX6_day_61 : decode cX6_day 61 = .ok (.iconst 2, 1) := by decide +kernel
theorem dX6_day_62 : decode cX6_day 62 = .ok (.iload 4, 2) := by decide +kernel
theorem dX6_day_64 : decode cX6_day 64 = .ok (.imul, 1) := by decide +kernel
theorem dX6_day_65 : decode cX6_day 65 = .ok (.invokevirtual 64, 3) := by decide +kernel
theorem dX6_day_68 : decode cX6_day 68 = .ok (.istore 6, 2) := by decide +kernel
theorem dX6_day_70 : decode cX6_day 70 = .ok (.iload 6, 2) := by decide +kernel
theorem dX6_day_72 : decode cX6_day 72 = .ok (.ifCond .eq 10, 3) := by decide +kernel
theorem dX6_day_75 : decode cX6_day 75 = .ok (.aload_n 0, 1) := by decide +kernel
theorem dX6_day_76 : decode cX6_day 76 = .ok (.iload 6, 2) := by decide +kernel
theorem dX6_day_78 : decode cX6_day 78 = .ok (.invokevirtual 68, 3) := by decide +kernel
theorem dX6_day_81 : decode cX6_day 81 = .ok (.ireturn, 1) := by decide +kernel
theorem dX6_day_82 : decode cX6_day 82 = .ok (.aload_n 0, 1) := by decide +kernel
theorem dX6_day_83 : decode cX6_day 83 = .ok (.getfield 47, 3) := by decide +kernel
theorem dX6_day_86 : decode cX6_day 86 = .ok (.ifCond .ne 6, 3) := by decide +kernel
theorem dX6_day_89 : decode cX6_day 89 = .ok (.bipush (-3), 2) := by decide +kernel
theorem dX6_day_91 : decode cX6_day 91 = .ok (.ireturn, 1) := by decide +kernel
theorem dX6_day_92 : decode cX6_day 92 = .ok (.bipush 60, 2) := by decide +kernel
theorem dX6_day_94 : decode cX6_day 94 = .ok (.iload_n 1, 1) := by decide +kernel
theorem dX6_day_95 : decode cX6_day 95 = .ok (.imul, 1) := by decide +kernel
theorem dX6_day_96 : decode cX6_day 96 = .ok (.iload_n 3, 1) := by decide +kernel
theorem dX6_day_97 : decode cX6_day 97 = .ok (.iadd, 1) := by decide +kernel
theorem dX6_day_98 : decode cX6_day 98 = .ok (.istore 7, 2) := by decide +kernel
theorem dX6_day_100 : decode cX6_day 100 = .ok (.iconst 0, 1) := by decide +kernel
theorem dX6_day_101 : decode cX6_day 101 = .ok (.istore 8, 2) := by decide +kernel
theorem dX6_day_103 : decode cX6_day 103 = .ok (.iload 8, 2) := by decide +kernel
theorem dX6_day_105 : decode cX6_day 105 = .ok (.iload 4, 2) := by decide +kernel
theorem dX6_day_107 : decode cX6_day 107 = .ok (.if_icmp .ge 44, 3) := by decide +kernel
theorem dX6_day_110 : decode cX6_day 110 = .ok (.aload_n 0, 1) := by decide +kernel
theorem dX6_day_111 : decode cX6_day 111 = .ok (.getfield 16, 3) := by decide +kernel
theorem dX6_day_114 : decode cX6_day 114 = .ok (.iload 7, 2) := by decide +kernel
theorem dX6_day_116 : decode cX6_day 116 = .ok (.iconst 2, 1) := by decide +kernel
theorem dX6_day_117 : decode cX6_day 117 = .ok (.iload 8, 2) := by decide +kernel
theorem dX6_day_119 : decode cX6_day 119 = .ok (.imul, 1) := by decide +kernel
theorem dX6_day_120 : decode cX6_day 120 = .ok (.iadd, 1) := by decide +kernel
theorem dX6_day_121 : decode cX6_day 121 = .ok (.iaload, 1) := by decide +kernel
theorem dX6_day_122 : decode cX6_day 122 = .ok (.aload_n 0, 1) := by decide +kernel
theorem dX6_day_123 : decode cX6_day 123 = .ok (.getfield 16, 3) := by decide +kernel
theorem dX6_day_126 : decode cX6_day 126 = .ok (.iload 7, 2) := by decide +kernel
theorem dX6_day_128 : decode cX6_day 128 = .ok (.iconst 2, 1) := by decide +kernel
theorem dX6_day_129 : decode cX6_day 129 = .ok (.iload 8, 2) := by decide +kernel
theorem dX6_day_131 : decode cX6_day 131 = .ok (.imul, 1) := by decide +kernel
theorem dX6_day_132 : decode cX6_day 132 = .ok (.iadd, 1) := by decide +kernel
theorem dX6_day_133 : decode cX6_day 133 = .ok (.iconst 1, 1) := by decide +kernel
theorem dX6_day_134 : decode cX6_day 134 = .ok (.iadd, 1) := by decide +kernel
theorem dX6_day_135 : decode cX6_day 135 = .ok (.iaload, 1) := by decide +kernel
theorem dX6_day_136 : decode cX6_day 136 = .ok (.invokestatic 139, 3) := by decide +kernel
theorem dX6_day_139 : decode cX6_day 139 = .ok (.ifCond .ne 6, 3) := by decide +kernel
theorem dX6_day_142 : decode cX6_day 142 = .ok (.bipush (-2), 2) := by decide +kernel
theorem dX6_day_144 : decode cX6_day 144 = .ok (.ireturn, 1) := by decide +kernel
theorem dX6_day_145 : decode cX6_day 145 = .ok (.iinc 8 1, 3) := by decide +kernel
theorem dX6_day_148 : decode cX6_day 148 = .ok (.goto (-45), 3) := by decide +kernel
theorem dX6_day_151 : decode cX6_day 151 = .ok (.aload_n 0, 1) := by decide +kernel
theorem dX6_day_152 : decode cX6_day 152 = .ok (.getfield 47, 3) := by decide +kernel
theorem dX6_day_155 : decode cX6_day 155 = .ok (.istore 8, 2) := by decide +kernel
theorem dX6_day_157 : decode cX6_day 157 = .ok (.iconst 0, 1) := by decide +kernel
theorem dX6_day_158 : decode cX6_day 158 = .ok (.istore 9, 2) := by decide +kernel
theorem dX6_day_160 : decode cX6_day 160 = .ok (.iload 9, 2) := by decide +kernel
theorem dX6_day_162 : decode cX6_day 162 = .ok (.bipush 35, 2) := by decide +kernel
theorem dX6_day_164 : decode cX6_day 164 = .ok (.if_icmp .ge 23, 3) := by decide +kernel
theorem dX6_day_167 : decode cX6_day 167 = .ok (.aload_n 0, 1) := by decide +kernel
theorem dX6_day_168 : decode cX6_day 168 = .ok (.getfield 28, 3) := by decide +kernel
end
section
theorem dX6_day_171 : decode cX6_day 171 = .ok (.iload 9, 2) := by decide +kernel
theorem dX6_day_173 : decode cX6_day 173 = .ok (.aload_n 0, 1) := by decide +kernel
theorem dX6_day_174 : decode cX6_day 174 = .ok (.getfield 19, 3) := by decide +kernel
theorem dX6_day_177 : decode cX6_day 177 = .ok (.iload 9, 2) := by decide +kernel
theorem dX6_day_179 : decode cX6_day 179 = .ok (.iaload, 1) := by decide +kernel
theorem dX6_day_180 : decode cX6_day 180 = .ok (.iastore, 1) := by decide +kernel
theorem dX6_day_181 : decode cX6_day 181 = .ok (.iinc 9 1, 3) := by decide +kernel
theorem dX6_day_184 : decode cX6_day 184 = .ok (.goto (-24), 3) := by decide +kernel
theorem dX6_day_187 : decode cX6_day 187 = .ok (.aload_n 0, 1) := by decide +kernel
theorem dX6_day_188 : decode cX6_day 188 = .ok (.iload 7, 2) := by decide +kernel
theorem dX6_day_190 : decode cX6_day 190 = .ok (.iload 4, 2) := by decide +kernel
theorem dX6_day_192 : decode cX6_day 192 = .ok (.invokevirtual 142, 3) := by decide +kernel
theorem dX6_day_195 : decode cX6_day 195 = .ok (.istore 9, 2) := by decide +kernel
theorem dX6_day_197 : decode cX6_day 197 = .ok (.aload_n 0, 1) := by decide +kernel
theorem dX6_day_198 : decode cX6_day 198 = .ok (.iload 5, 2) := by decide +kernel
theorem dX6_day_200 : decode cX6_day 200 = .ok (.invokevirtual 146, 3) := by decide +kernel
theorem dX6_day_203 : decode cX6_day 203 = .ok (.istore 10, 2) := by decide +kernel
theorem dX6_day_205 : decode cX6_day 205 = .ok (.aload_n 0, 1) := by decide +kernel
theorem dX6_day_206 : decode cX6_day 206 = .ok (.iload 8, 2) := by decide +kernel
theorem dX6_day_208 : decode cX6_day 208 = .ok (.putfield 47, 3) := by decide +kernel
theorem dX6_day_211 : decode cX6_day 211 = .ok (.iconst 0, 1) := by decide +kernel
theorem dX6_day_212 : decode cX6_day 212 = .ok (.istore 11, 2) := by decide +kernel
theorem dX6_day_214 : decode cX6_day 214 = .ok (.iload 11, 2) := by decide +kernel
theorem dX6_day_216 : decode cX6_day 216 = .ok (.bipush 35, 2) := by decide +kernel
theorem dX6_day_218 : decode cX6_day 218 = .ok (.if_icmp .ge 23, 3) := by decide +kernel
theorem dX6_day_221 : decode cX6_day 221 = .ok (.aload_n 0, 1) := by decide +kernel
theorem dX6_day_222 : decode cX6_day 222 = .ok (.getfield 19, 3) := by decide +kernel
theorem dX6_day_225 : decode cX6_day 225 = .ok (.iload 11, 2) := by decide +kernel
theorem dX6_day_227 : decode cX6_day 227 = .ok (.aload_n 0, 1) := by decide +kernel
theorem dX6_day_228 : decode cX6_day 228 = .ok (.getfield 28, 3) := by decide +kernel
theorem dX6_day_231 : decode cX6_day 231 = .ok (.iload 11, 2) := by decide +kernel
theorem dX6_day_233 : decode cX6_day 233 = .ok (.iaload, 1) := by decide +kernel
theorem dX6_day_234 : decode cX6_day 234 = .ok (.iastore, 1) := by decide +kernel
theorem dX6_day_235 : decode cX6_day 235 = .ok (.iinc 11 1, 3) := by decide +kernel
theorem dX6_day_238 : decode cX6_day 238 = .ok (.goto (-24), 3) := by decide +kernel
theorem dX6_day_241 : decode cX6_day 241 = .ok (.iload 5, 2) := by decide +kernel
theorem dX6_day_243 : decode cX6_day 243 = .ok (.iconst 1, 1) := by decide +kernel
theorem dX6_day_244 : decode cX6_day 244 = .ok (.if_icmp .ne 8, 3) := by decide +kernel
theorem dX6_day_247 : decode cX6_day 247 = .ok (.iload 9, 2) := by decide +kernel
theorem dX6_day_249 : decode cX6_day 249 = .ok (.goto 20, 3) := by decide +kernel
theorem dX6_day_252 : decode cX6_day 252 = .ok (.iload 9, 2) := by decide +kernel
theorem dX6_day_254 : decode cX6_day 254 = .ok (.bipush (-9), 2) := by decide +kernel
theorem dX6_day_256 : decode cX6_day 256 = .ok (.if_icmp .ne 8, 3) := by decide +kernel
theorem dX6_day_259 : decode cX6_day 259 = .ok (.iload 10, 2) := by decide +kernel
theorem dX6_day_261 : decode cX6_day 261 = .ok (.goto 8, 3) := by decide +kernel
theorem dX6_day_264 : decode cX6_day 264 = .ok (.bipush (-100), 2) := by decide +kernel
theorem dX6_day_266 : decode cX6_day 266 = .ok (.iload 9, 2) := by decide +kernel
theorem dX6_day_268 : decode cX6_day 268 = .ok (.isub, 1) := by decide +kernel
theorem dX6_day_269 : decode cX6_day 269 = .ok (.ireturn, 1) := by decide +kernel
theorem dX6_tellDay_0 : decode cX6_tellDay 0 = .ok (.iload_n 1, 1) := by decide +kernel
theorem dX6_tellDay_1 : decode cX6_tellDay 1 = .ok (.bipush 10, 2) := by decide +kernel
theorem dX6_tellDay_3 : decode cX6_tellDay 3 = .ok (.if_icmp .lt 18, 3) := by decide +kernel
theorem dX6_tellDay_6 : decode cX6_tellDay 6 = .ok (.aload_n 0, 1) := by decide +kernel
theorem dX6_tellDay_7 : decode cX6_tellDay 7 = .ok (.iload_n 1, 1) := by decide +kernel
theorem dX6_tellDay_8 : decode cX6_tellDay 8 = .ok (.bipush 10, 2) := by decide +kernel
theorem dX6_tellDay_10 : decode cX6_tellDay 10 = .ok (.isub, 1) := by decide +kernel
theorem dX6_tellDay_11 : decode cX6_tellDay 11 = .ok (.bipush (-9), 2) := by decide +kernel
theorem dX6_tellDay_13 : decode cX6_tellDay 13 = .ok (.invokevirtual 132, 3) := by decide +kernel
theorem dX6_tellDay_16 : decode cX6_tellDay 16 = .ok (.aload_n 0, 1) := by decide +kernel
theorem dX6_tellDay_17 : decode cX6_tellDay 17 = .ok (.getfield 100, 3) := by decide +kernel
theorem dX6_tellDay_20 : decode cX6_tellDay 20 = .ok (.ireturn, 1) := by decide +kernel
theorem dX6_tellDay_21 : decode cX6_tellDay 21 = .ok (.iload_n 1, 1) := by decide +kernel
theorem dX6_tellDay_22 : decode cX6_tellDay 22 = .ok (.ifCond .ne 10, 3) := by decide +kernel
theorem dX6_tellDay_25 : decode cX6_tellDay 25 = .ok (.aload_n 0, 1) := by decide +kernel
theorem dX6_tellDay_26 : decode cX6_tellDay 26 = .ok (.invokevirtual 149, 3) := by decide +kernel
theorem dX6_tellDay_29 : decode cX6_tellDay 29 = .ok (.goto 31, 3) := by decide +kernel
theorem dX6_tellDay_32 : decode cX6_tellDay 32 = .ok (.iload_n 1, 1) := by decide +kernel
theorem dX6_tellDay_33 : decode cX6_tellDay 33 = .ok (.iconst 2, 1) := by decide +kernel
theorem dX6_tellDay_34 : decode cX6_tellDay 34 = .ok (.if_icmp .ne 10, 3) := by decide +kernel
theorem dX6_tellDay_37 : decode cX6_tellDay 37 = .ok (.aload_n 0, 1) := by decide +kernel
theorem dX6_tellDay_38 : decode cX6_tellDay 38 = .ok (.invokevirtual 153, 3) := by decide +kernel
theorem dX6_tellDay_41 : decode cX6_tellDay 41 = .ok (.goto 19, 3) := by decide +kernel
theorem dX6_tellDay_44 : decode cX6_tellDay 44 = .ok (.iload_n 1, 1) := by decide +kernel
theorem dX6_tellDay_45 : decode cX6_tellDay 45 = .ok (.iconst 3, 1) := by decide +kernel
theorem dX6_tellDay_46 : decode cX6_tellDay 46 = .ok (.if_icmp .ne 10, 3) := by decide +kernel
theorem dX6_tellDay_49 : decode cX6_tellDay 49 = .ok (.aload_n 0, 1) := by decide +kernel
theorem dX6_tellDay_50 : decode cX6_tellDay 50 = .ok (.invokevirtual 156, 3) := by decide +kernel
theorem dX6_tellDay_53 : decode cX6_tellDay 53 = .ok (.goto 7, 3) := by decide +kernel
theorem dX6_tellDay_56 : decode cX6_tellDay 56 = .ok (.aload_n 0, 1) := by decide +kernel
theorem dX6_tellDay_57 : decode cX6_tellDay 57 = .ok (.invokevirtual 159, 3) := by decide +kernel
theorem dX6_tellDay_60 : decode cX6_tellDay 60 = .ok (.ireturn, 1) := by decide +kernel
theorem dX6_ofRun_0 : decode cX6_ofRun 0 = .ok (.iload_n 1, 1) := by decide +kernel
theorem dX6_ofRun_1 : decode cX6_ofRun 1 = .ok (.ifCond .lt 11, 3) := by decide +kernel
theorem dX6_ofRun_4 : decode cX6_ofRun 4 = .ok (.iload_n 1, 1) := by decide +kernel
theorem dX6_ofRun_5 : decode cX6_ofRun 5 = .ok (.aload_n 0, 1) := by decide +kernel
theorem dX6_ofRun_6 : decode cX6_ofRun 6 = .ok (.invokevirtual 156, 3) := by decide +kernel
theorem dX6_ofRun_9 : decode cX6_ofRun 9 = .ok (.if_icmp .lt 5, 3) := by decide +kernel
theorem dX6_ofRun_12 : decode cX6_ofRun 12 = .ok (.iconst (-1), 1) := by decide +kernel
theorem dX6_ofRun_13 : decode cX6_ofRun 13 = .ok (.ireturn, 1) := by decide +kernel
theorem dX6_ofRun_14 : decode cX6_ofRun 14 = .ok (.iconst 0, 1) := by decide +kernel
theorem dX6_ofRun_15 : decode cX6_ofRun 15 = .ok (.istore_n 3, 1) := by decide +kernel
theorem dX6_ofRun_16 : decode cX6_ofRun 16 = .ok (.iload_n 1, 1) := by decide +kernel
theorem dX6_ofRun_17 : decode cX6_ofRun 17 = .ok (.istore 4, 2) := by decide +kernel
theorem dX6_ofRun_19 : decode cX6_ofRun 19 = .ok (.iload 4, 2) := by decide +kernel
theorem dX6_ofRun_21 : decode cX6_ofRun 21 = .ok (.ifCond .le 34, 3) := by decide +kernel
theorem dX6_ofRun_24 : decode cX6_ofRun 24 = .ok (.iinc 3 1, 3) := by decide +kernel
theorem dX6_ofRun_27 : decode cX6_ofRun 27 = .ok (.iload 4, 2) := by decide +kernel
theorem dX6_ofRun_29 : decode cX6_ofRun 29 = .ok (.aload_n 0, 1) := by decide +kernel
theorem dX6_ofRun_30 : decode cX6_ofRun 30 = .ok (.iload_n 3, 1) := by decide +kernel
theorem dX6_ofRun_31 : decode cX6_ofRun 31 = .ok (.invokevirtual 113, 3) := by decide +kernel
theorem dX6_ofRun_34 : decode cX6_ofRun 34 = .ok (.aload_n 0, 1) := by decide +kernel
theorem dX6_ofRun_35 : decode cX6_ofRun 35 = .ok (.iload_n 3, 1) := by decide +kernel
theorem dX6_ofRun_36 : decode cX6_ofRun 36 = .ok (.iconst 1, 1) := by decide +kernel
theorem dX6_ofRun_37 : decode cX6_ofRun 37 = .ok (.isub, 1) := by decide +kernel
theorem dX6_ofRun_38 : decode cX6_ofRun 38 = .ok (.invokevirtual 113, 3) := by decide +kernel
theorem dX6_ofRun_41 : decode cX6_ofRun 41 = .ok (.if_icmp .ne 7, 3) := by decide +kernel
theorem dX6_ofRun_44 : decode cX6_ofRun 44 = .ok (.iconst 0, 1) := by decide +kernel
theorem dX6_ofRun_45 : decode cX6_ofRun 45 = .ok (.goto 4, 3) := by decide +kernel
theorem dX6_ofRun_48 : decode cX6_ofRun 48 = .ok (.iconst 1, 1) := by decide +kernel
theorem dX6_ofRun_49 : decode cX6_ofRun 49 = .ok (.isub, 1) := by decide +kernel
theorem dX6_ofRun_50 : decode cX6_ofRun 50 = .ok (.istore 4, 2) := by decide +kernel
theorem dX6_ofRun_52 : decode cX6_ofRun 52 = .ok (.goto (-33), 3) := by decide +kernel
theorem dX6_ofRun_55 : decode cX6_ofRun 55 = .ok (.iconst 1, 1) := by decide +kernel
theorem dX6_ofRun_56 : decode cX6_ofRun 56 = .ok (.istore 5, 2) := by decide +kernel
theorem dX6_ofRun_58 : decode cX6_ofRun 58 = .ok (.iload_n 3, 1) := by decide +kernel
theorem dX6_ofRun_59 : decode cX6_ofRun 59 = .ok (.iload 5, 2) := by decide +kernel
theorem dX6_ofRun_61 : decode cX6_ofRun 61 = .ok (.iadd, 1) := by decide +kernel
theorem dX6_ofRun_62 : decode cX6_ofRun 62 = .ok (.bipush 26, 2) := by decide +kernel
theorem dX6_ofRun_64 : decode cX6_ofRun 64 = .ok (.if_icmp .ge 25, 3) := by decide +kernel
theorem dX6_ofRun_67 : decode cX6_ofRun 67 = .ok (.aload_n 0, 1) := by decide +kernel
theorem dX6_ofRun_68 : decode cX6_ofRun 68 = .ok (.iload_n 3, 1) := by decide +kernel
theorem dX6_ofRun_69 : decode cX6_ofRun 69 = .ok (.iload 5, 2) := by decide +kernel
theorem dX6_ofRun_71 : decode cX6_ofRun 71 = .ok (.iadd, 1) := by decide +kernel
theorem dX6_ofRun_72 : decode cX6_ofRun 72 = .ok (.invokevirtual 113, 3) := by decide +kernel
theorem dX6_ofRun_75 : decode cX6_ofRun 75 = .ok (.aload_n 0, 1) := by decide +kernel
theorem dX6_ofRun_76 : decode cX6_ofRun 76 = .ok (.iload_n 3, 1) := by decide +kernel
theorem dX6_ofRun_77 : decode cX6_ofRun 77 = .ok (.invokevirtual 113, 3) := by decide +kernel
theorem dX6_ofRun_80 : decode cX6_ofRun 80 = .ok (.if_icmp .ne 9, 3) := by decide +kernel
theorem dX6_ofRun_83 : decode cX6_ofRun 83 = .ok (.iinc 5 1, 3) := by decide +kernel
theorem dX6_ofRun_86 : decode cX6_ofRun 86 = .ok (.goto (-28), 3) := by decide +kernel
theorem dX6_ofRun_89 : decode cX6_ofRun 89 = .ok (.iload_n 2, 1) := by decide +kernel
theorem dX6_ofRun_90 : decode cX6_ofRun 90 = .ok (.ifCond .ne 7, 3) := by decide +kernel
theorem dX6_ofRun_93 : decode cX6_ofRun 93 = .ok (.iload_n 3, 1) := by decide +kernel
theorem dX6_ofRun_94 : decode cX6_ofRun 94 = .ok (.goto 28, 3) := by decide +kernel
theorem dX6_ofRun_97 : decode cX6_ofRun 97 = .ok (.iload_n 2, 1) := by decide +kernel
theorem dX6_ofRun_98 : decode cX6_ofRun 98 = .ok (.iconst 1, 1) := by decide +kernel
theorem dX6_ofRun_99 : decode cX6_ofRun 99 = .ok (.if_icmp .ne 8, 3) := by decide +kernel
theorem dX6_ofRun_102 : decode cX6_ofRun 102 = .ok (.iload 5, 2) := by decide +kernel
theorem dX6_ofRun_104 : decode cX6_ofRun 104 = .ok (.goto 18, 3) := by decide +kernel
theorem dX6_ofRun_107 : decode cX6_ofRun 107 = .ok (.iload_n 2, 1) := by decide +kernel
theorem dX6_ofRun_108 : decode cX6_ofRun 108 = .ok (.iconst 2, 1) := by decide +kernel
theorem dX6_ofRun_109 : decode cX6_ofRun 109 = .ok (.if_icmp .ne 11, 3) := by decide +kernel
theorem dX6_ofRun_112 : decode cX6_ofRun 112 = .ok (.aload_n 0, 1) := by decide +kernel
theorem dX6_ofRun_113 : decode cX6_ofRun 113 = .ok (.iload_n 3, 1) := by decide +kernel
theorem dX6_ofRun_114 : decode cX6_ofRun 114 = .ok (.invokevirtual 113, 3) := by decide +kernel
theorem dX6_ofRun_117 : decode cX6_ofRun 117 = .ok (.goto 5, 3) := by decide +kernel
theorem dX6_ofRun_120 : decode cX6_ofRun 120 = .ok (.bipush (-2), 2) := by decide +kernel
theorem dX6_ofRun_122 : decode cX6_ofRun 122 = .ok (.ireturn, 1) := by decide +kernel
theorem dX6_whole_0 : decode cX6_whole 0 = .ok (.iload_n 1, 1) := by decide +kernel
theorem dX6_whole_1 : decode cX6_whole 1 = .ok (.iconst 0, 1) := by decide +kernel
theorem dX6_whole_2 : decode cX6_whole 2 = .ok (.iconst 4, 1) := by decide +kernel
theorem dX6_whole_3 : decode cX6_whole 3 = .ok (.invokestatic 43, 3) := by decide +kernel
theorem dX6_whole_6 : decode cX6_whole 6 = .ok (.ifCond .ne 6, 3) := by decide +kernel
theorem dX6_whole_9 : decode cX6_whole 9 = .ok (.bipush (-2), 2) := by decide +kernel
theorem dX6_whole_11 : decode cX6_whole 11 = .ok (.ireturn, 1) := by decide +kernel
theorem dX6_whole_12 : decode cX6_whole 12 = .ok (.aload_n 0, 1) := by decide +kernel
theorem dX6_whole_13 : decode cX6_whole 13 = .ok (.getfield 47, 3) := by decide +kernel
theorem dX6_whole_16 : decode cX6_whole 16 = .ok (.ifCond .ne 6, 3) := by decide +kernel
theorem dX6_whole_19 : decode cX6_whole 19 = .ok (.bipush (-3), 2) := by decide +kernel
theorem dX6_whole_21 : decode cX6_whole 21 = .ok (.ireturn, 1) := by decide +kernel
theorem dX6_whole_22 : decode cX6_whole 22 = .ok (.iload_n 1, 1) := by decide +kernel
theorem dX6_whole_23 : decode cX6_whole 23 = .ok (.ifCond .ne 10, 3) := by decide +kernel
theorem dX6_whole_26 : decode cX6_whole 26 = .ok (.aload_n 0, 1) := by decide +kernel
theorem dX6_whole_27 : decode cX6_whole 27 = .ok (.invokevirtual 156, 3) := by decide +kernel
theorem dX6_whole_30 : decode cX6_whole 30 = .ok (.goto 43, 3) := by decide +kernel
theorem dX6_whole_33 : decode cX6_whole 33 = .ok (.iload_n 1, 1) := by decide +kernel
theorem dX6_whole_34 : decode cX6_whole 34 = .ok (.iconst 1, 1) := by decide +kernel
theorem dX6_whole_35 : decode cX6_whole 35 = .ok (.if_icmp .ne 10, 3) := by decide +kernel
theorem dX6_whole_38 : decode cX6_whole 38 = .ok (.aload_n 0, 1) := by decide +kernel
theorem dX6_whole_39 : decode cX6_whole 39 = .ok (.invokevirtual 153, 3) := by decide +kernel
theorem dX6_whole_42 : decode cX6_whole 42 = .ok (.goto 31, 3) := by decide +kernel
theorem dX6_whole_45 : decode cX6_whole 45 = .ok (.iload_n 1, 1) := by decide +kernel
theorem dX6_whole_46 : decode cX6_whole 46 = .ok (.iconst 2, 1) := by decide +kernel
theorem dX6_whole_47 : decode cX6_whole 47 = .ok (.if_icmp .ne 10, 3) := by decide +kernel
theorem dX6_whole_50 : decode cX6_whole 50 = .ok (.aload_n 0, 1) := by decide +kernel
theorem dX6_whole_51 : decode cX6_whole 51 = .ok (.invokevirtual 162, 3) := by decide +kernel
theorem dX6_whole_54 : decode cX6_whole 54 = .ok (.goto 19, 3) := by decide +kernel
theorem dX6_whole_57 : decode cX6_whole 57 = .ok (.iload_n 1, 1) := by decide +kernel
theorem dX6_whole_58 : decode cX6_whole 58 = .ok (.iconst 3, 1) := by decide +kernel
theorem dX6_whole_59 : decode cX6_whole 59 = .ok (.if_icmp .ne 10, 3) := by decide +kernel
theorem dX6_whole_62 : decode cX6_whole 62 = .ok (.aload_n 0, 1) := by decide +kernel
theorem dX6_whole_63 : decode cX6_whole 63 = .ok (.invokevirtual 149, 3) := by decide +kernel
theorem dX6_whole_66 : decode cX6_whole 66 = .ok (.goto 7, 3) := by decide +kernel
theorem dX6_whole_69 : decode cX6_whole 69 = .ok (.aload_n 0, 1) := by decide +kernel
theorem dX6_whole_70 : decode cX6_whole 70 = .ok (.invokevirtual 159, 3) := by decide +kernel
theorem dX6_whole_73 : decode cX6_whole 73 = .ok (.ireturn, 1) := by decide +kernel
theorem dX6_reading_0 : decode cX6_reading 0 = .ok (.aload_n 0, 1) := by decide +kernel
theorem dX6_reading_1 : decode cX6_reading 1 = .ok (.getfield 47, 3) := by decide +kernel
theorem dX6_reading_4 : decode cX6_reading 4 = .ok (.ifCond .ne 6, 3) := by decide +kernel
theorem dX6_reading_7 : decode cX6_reading 7 = .ok (.bipush (-3), 2) := by decide +kernel
theorem dX6_reading_9 : decode cX6_reading 9 = .ok (.ireturn, 1) := by decide +kernel
theorem dX6_reading_10 : decode cX6_reading 10 = .ok (.iload_n 1, 1) := by decide +kernel
theorem dX6_reading_11 : decode cX6_reading 11 = .ok (.invokestatic 122, 3) := by decide +kernel
theorem dX6_reading_14 : decode cX6_reading 14 = .ok (.ifCond .eq 20, 3) := by decide +kernel
theorem dX6_reading_17 : decode cX6_reading 17 = .ok (.iload_n 2, 1) := by decide +kernel
theorem dX6_reading_18 : decode cX6_reading 18 = .ok (.bipush (-9), 2) := by decide +kernel
theorem dX6_reading_20 : decode cX6_reading 20 = .ok (.if_icmp .eq 17, 3) := by decide +kernel
theorem dX6_reading_23 : decode cX6_reading 23 = .ok (.iload_n 2, 1) := by decide +kernel
theorem dX6_reading_24 : decode cX6_reading 24 = .ok (.iconst 0, 1) := by decide +kernel
theorem dX6_reading_25 : decode cX6_reading 25 = .ok (.sipush 200, 3) := by decide +kernel
theorem dX6_reading_28 : decode cX6_reading 28 = .ok (.invokestatic 43, 3) := by decide +kernel
theorem dX6_reading_31 : decode cX6_reading 31 = .ok (.ifCond .ne 6, 3) := by decide +kernel
theorem dX6_reading_34 : decode cX6_reading 34 = .ok (.bipush (-2), 2) := by decide +kernel
theorem dX6_reading_36 : decode cX6_reading 36 = .ok (.ireturn, 1) := by decide +kernel
theorem dX6_reading_37 : decode cX6_reading 37 = .ok (.aload_n 0, 1) := by decide +kernel
theorem dX6_reading_38 : decode cX6_reading 38 = .ok (.getfield 80, 3) := by decide +kernel
theorem dX6_reading_41 : decode cX6_reading 41 = .ok (.bipush 8, 2) := by decide +kernel
theorem dX6_reading_43 : decode cX6_reading 43 = .ok (.if_icmp .ne 6, 3) := by decide +kernel
theorem dX6_reading_46 : decode cX6_reading 46 = .ok (.bipush (-4), 2) := by decide +kernel
theorem dX6_reading_48 : decode cX6_reading 48 = .ok (.ireturn, 1) := by decide +kernel
theorem dX6_reading_49 : decode cX6_reading 49 = .ok (.aload_n 0, 1) := by decide +kernel
theorem dX6_reading_50 : decode cX6_reading 50 = .ok (.getfield 31, 3) := by decide +kernel
theorem dX6_reading_53 : decode cX6_reading 53 = .ok (.aload_n 0, 1) := by decide +kernel
theorem dX6_reading_54 : decode cX6_reading 54 = .ok (.getfield 80, 3) := by decide +kernel
theorem dX6_reading_57 : decode cX6_reading 57 = .ok (.iload_n 1, 1) := by decide +kernel
theorem dX6_reading_58 : decode cX6_reading 58 = .ok (.iastore, 1) := by decide +kernel
theorem dX6_reading_59 : decode cX6_reading 59 = .ok (.aload_n 0, 1) := by decide +kernel
theorem dX6_reading_60 : decode cX6_reading 60 = .ok (.getfield 34, 3) := by decide +kernel
theorem dX6_reading_63 : decode cX6_reading 63 = .ok (.aload_n 0, 1) := by decide +kernel
theorem dX6_reading_64 : decode cX6_reading 64 = .ok (.getfield 80, 3) := by decide +kernel
theorem dX6_reading_67 : decode cX6_reading 67 = .ok (.iload_n 2, 1) := by decide +kernel
theorem dX6_reading_68 : decode cX6_reading 68 = .ok (.iastore, 1) := by decide +kernel
theorem dX6_reading_69 : decode cX6_reading 69 = .ok (.aload_n 0, 1) := by decide +kernel
theorem dX6_reading_70 : decode cX6_reading 70 = .ok (.dup, 1) := by decide +kernel
theorem dX6_reading_71 : decode cX6_reading 71 = .ok (.getfield 80, 3) := by decide +kernel
theorem dX6_reading_74 : decode cX6_reading 74 = .ok (.iconst 1, 1) := by decide +kernel
theorem dX6_reading_75 : decode cX6_reading 75 = .ok (.iadd, 1) := by decide +kernel
theorem dX6_reading_76 : decode cX6_reading 76 = .ok (.putfield 80, 3) := by decide +kernel
theorem dX6_reading_79 : decode cX6_reading 79 = .ok (.aload_n 0, 1) := by decide +kernel
theorem dX6_reading_80 : decode cX6_reading 80 = .ok (.getfield 80, 3) := by decide +kernel
theorem dX6_reading_83 : decode cX6_reading 83 = .ok (.iconst 1, 1) := by decide +kernel
theorem dX6_reading_84 : decode cX6_reading 84 = .ok (.isub, 1) := by decide +kernel
theorem dX6_reading_85 : decode cX6_reading 85 = .ok (.ireturn, 1) := by decide +kernel
theorem dX6_back_0 : decode cX6_back 0 = .ok (.iload_n 1, 1) := by decide +kernel
theorem dX6_back_1 : decode cX6_back 1 = .ok (.iconst 0, 1) := by decide +kernel
theorem dX6_back_2 : decode cX6_back 2 = .ok (.aload_n 0, 1) := by decide +kernel
theorem dX6_back_3 : decode cX6_back 3 = .ok (.getfield 80, 3) := by decide +kernel
theorem dX6_back_6 : decode cX6_back 6 = .ok (.invokestatic 43, 3) := by decide +kernel
theorem dX6_back_9 : decode cX6_back 9 = .ok (.ifCond .ne 6, 3) := by decide +kernel
theorem dX6_back_12 : decode cX6_back 12 = .ok (.bipush (-2), 2) := by decide +kernel
theorem dX6_back_14 : decode cX6_back 14 = .ok (.ireturn, 1) := by decide +kernel
theorem dX6_back_15 : decode cX6_back 15 = .ok (.aload_n 0, 1) := by decide +kernel
theorem dX6_back_16 : decode cX6_back 16 = .ok (.dup, 1) := by decide +kernel
theorem dX6_back_17 : decode cX6_back 17 = .ok (.getfield 80, 3) := by decide +kernel
theorem dX6_back_20 : decode cX6_back 20 = .ok (.iload_n 1, 1) := by decide +kernel
theorem dX6_back_21 : decode cX6_back 21 = .ok (.isub, 1) := by decide +kernel
theorem dX6_back_22 : decode cX6_back 22 = .ok (.putfield 80, 3) := by decide +kernel
theorem dX6_back_25 : decode cX6_back 25 = .ok (.aload_n 0, 1) := by decide +kernel
theorem dX6_back_26 : decode cX6_back 26 = .ok (.getfield 80, 3) := by decide +kernel
theorem dX6_back_29 : decode cX6_back 29 = .ok (.ireturn, 1) := by decide +kernel
theorem dX6_areSo_0 : decode cX6_areSo 0 = .ok (.iconst 0, 1) := by decide +kernel
theorem dX6_areSo_1 : decode cX6_areSo 1 = .ok (.istore_n 1, 1) := by decide +kernel
theorem dX6_areSo_2 : decode cX6_areSo 2 = .ok (.iload_n 1, 1) := by decide +kernel
theorem dX6_areSo_3 : decode cX6_areSo 3 = .ok (.aload_n 0, 1) := by decide +kernel
theorem dX6_areSo_4 : decode cX6_areSo 4 = .ok (.getfield 80, 3) := by decide +kernel
theorem dX6_areSo_7 : decode cX6_areSo 7 = .ok (.if_icmp .ge 36, 3) := by decide +kernel
theorem dX6_areSo_10 : decode cX6_areSo 10 = .ok (.aload_n 0, 1) := by decide +kernel
theorem dX6_areSo_11 : decode cX6_areSo 11 = .ok (.aload_n 0, 1) := by decide +kernel
theorem dX6_areSo_12 : decode cX6_areSo 12 = .ok (.getfield 31, 3) := by decide +kernel
theorem dX6_areSo_15 : decode cX6_areSo 15 = .ok (.iload_n 1, 1) := by decide +kernel
theorem dX6_areSo_16 : decode cX6_areSo 16 = .ok (.iaload, 1) := by decide +kernel
theorem dX6_areSo_17 : decode cX6_areSo 17 = .ok (.bipush (-9), 2) := by decide +kernel
theorem dX6_areSo_19 : decode cX6_areSo 19 = .ok (.invokevirtual 132, 3) := by decide +kernel
theorem dX6_areSo_22 : decode cX6_areSo 22 = .ok (.aload_n 0, 1) := by decide +kernel
theorem dX6_areSo_23 : decode cX6_areSo 23 = .ok (.getfield 100, 3) := by decide +kernel
theorem dX6_areSo_26 : decode cX6_areSo 26 = .ok (.aload_n 0, 1) := by decide +kernel
theorem dX6_areSo_27 : decode cX6_areSo 27 = .ok (.getfield 34, 3) := by decide +kernel
theorem dX6_areSo_30 : decode cX6_areSo 30 = .ok (.iload_n 1, 1) := by decide +kernel
theorem dX6_areSo_31 : decode cX6_areSo 31 = .ok (.iaload, 1) := by decide +kernel
theorem dX6_areSo_32 : decode cX6_areSo 32 = .ok (.if_icmp .eq 5, 3) := by decide +kernel
theorem dX6_areSo_35 : decode cX6_areSo 35 = .ok (.iconst 0, 1) := by decide +kernel
theorem dX6_areSo_36 : decode cX6_areSo 36 = .ok (.ireturn, 1) := by decide +kernel
theorem dX6_areSo_37 : decode cX6_areSo 37 = .ok (.iinc 1 1, 3) := by decide +kernel
theorem dX6_areSo_40 : decode cX6_areSo 40 = .ok (.goto (-38), 3) := by decide +kernel
theorem dX6_areSo_43 : decode cX6_areSo 43 = .ok (.iconst 1, 1) := by decide +kernel
theorem dX6_areSo_44 : decode cX6_areSo 44 = .ok (.ireturn, 1) := by decide +kernel
theorem dX6_kinds_0 : decode cX6_kinds 0 = .ok (.aload_n 0, 1) := by decide +kernel
theorem dX6_kinds_1 : decode cX6_kinds 1 = .ok (.iload_n 1, 1) := by decide +kernel
theorem dX6_kinds_2 : decode cX6_kinds 2 = .ok (.invokevirtual 116, 3) := by decide +kernel
theorem dX6_kinds_5 : decode cX6_kinds 5 = .ok (.ifCond .ne 5, 3) := by decide +kernel
theorem dX6_kinds_8 : decode cX6_kinds 8 = .ok (.iconst (-1), 1) := by decide +kernel
theorem dX6_kinds_9 : decode cX6_kinds 9 = .ok (.ireturn, 1) := by decide +kernel
theorem dX6_kinds_10 : decode cX6_kinds 10 = .ok (.aload_n 0, 1) := by decide +kernel
theorem dX6_kinds_11 : decode cX6_kinds 11 = .ok (.iload_n 1, 1) := by decide +kernel
theorem dX6_kinds_12 : decode cX6_kinds 12 = .ok (.invokevirtual 50, 3) := by decide +kernel
theorem dX6_kinds_15 : decode cX6_kinds 15 = .ok (.istore_n 2, 1) := by decide +kernel
theorem dX6_kinds_16 : decode cX6_kinds 16 = .ok (.iconst 0, 1) := by decide +kernel
theorem dX6_kinds_17 : decode cX6_kinds 17 = .ok (.istore_n 3, 1) := by decide +kernel
theorem dX6_kinds_18 : decode cX6_kinds 18 = .ok (.iconst 0, 1) := by decide +kernel
theorem dX6_kinds_19 : decode cX6_kinds 19 = .ok (.istore 4, 2) := by decide +kernel
theorem dX6_kinds_21 : decode cX6_kinds 21 = .ok (.iload 4, 2) := by decide +kernel
theorem dX6_kinds_23 : decode cX6_kinds 23 = .ok (.iconst 3, 1) := by decide +kernel
theorem dX6_kinds_24 : decode cX6_kinds 24 = .ok (.if_icmp .ge 37, 3) := by decide +kernel
theorem dX6_kinds_27 : decode cX6_kinds 27 = .ok (.aload_n 0, 1) := by decide +kernel
theorem dX6_kinds_28 : decode cX6_kinds 28 = .ok (.getfield 19, 3) := by decide +kernel
theorem dX6_kinds_31 : decode cX6_kinds 31 = .ok (.iconst 5, 1) := by decide +kernel
theorem dX6_kinds_32 : decode cX6_kinds 32 = .ok (.iload_n 1, 1) := by decide +kernel
theorem dX6_kinds_33 : decode cX6_kinds 33 = .ok (.imul, 1) := by decide +kernel
theorem dX6_kinds_34 : decode cX6_kinds 34 = .ok (.iload 4, 2) := by decide +kernel
theorem dX6_kinds_36 : decode cX6_kinds 36 = .ok (.iastore, 1) := by decide +kernel
theorem dX6_kinds_37 : decode cX6_kinds 37 = .ok (.iload_n 3, 1) := by decide +kernel
theorem dX6_kinds_38 : decode cX6_kinds 38 = .ok (.aload_n 0, 1) := by decide +kernel
theorem dX6_kinds_39 : decode cX6_kinds 39 = .ok (.invokevirtual 165, 3) := by decide +kernel
theorem dX6_kinds_42 : decode cX6_kinds 42 = .ok (.ifCond .eq 10, 3) := by decide +kernel
theorem dX6_kinds_45 : decode cX6_kinds 45 = .ok (.iconst 1, 1) := by decide +kernel
theorem dX6_kinds_46 : decode cX6_kinds 46 = .ok (.iload 4, 2) := by decide +kernel
theorem dX6_kinds_48 : decode cX6_kinds 48 = .ok (.ishl, 1) := by decide +kernel
theorem dX6_kinds_49 : decode cX6_kinds 49 = .ok (.goto 4, 3) := by decide +kernel
theorem dX6_kinds_52 : decode cX6_kinds 52 = .ok (.iconst 0, 1) := by decide +kernel
theorem dX6_kinds_53 : decode cX6_kinds 53 = .ok (.ior, 1) := by decide +kernel
theorem dX6_kinds_54 : decode cX6_kinds 54 = .ok (.istore_n 3, 1) := by decide +kernel
theorem dX6_kinds_55 : decode cX6_kinds 55 = .ok (.iinc 4 1, 3) := by decide +kernel
theorem dX6_kinds_58 : decode cX6_kinds 58 = .ok (.goto (-37), 3) := by decide +kernel
theorem dX6_kinds_61 : decode cX6_kinds 61 = .ok (.aload_n 0, 1) := by decide +kernel
theorem dX6_kinds_62 : decode cX6_kinds 62 = .ok (.getfield 19, 3) := by decide +kernel
theorem dX6_kinds_65 : decode cX6_kinds 65 = .ok (.iconst 5, 1) := by decide +kernel
theorem dX6_kinds_66 : decode cX6_kinds 66 = .ok (.iload_n 1, 1) := by decide +kernel
theorem dX6_kinds_67 : decode cX6_kinds 67 = .ok (.imul, 1) := by decide +kernel
theorem dX6_kinds_68 : decode cX6_kinds 68 = .ok (.iload_n 2, 1) := by decide +kernel
theorem dX6_kinds_69 : decode cX6_kinds 69 = .ok (.iastore, 1) := by decide +kernel
theorem dX6_kinds_70 : decode cX6_kinds 70 = .ok (.iload_n 3, 1) := by decide +kernel
theorem dX6_kinds_71 : decode cX6_kinds 71 = .ok (.ireturn, 1) := by decide +kernel
theorem dX6_numbers_0 : decode cX6_numbers 0 = .ok (.aload_n 0, 1) := by decide +kernel
theorem dX6_numbers_1 : decode cX6_numbers 1 = .ok (.iload_n 1, 1) := by decide +kernel
theorem dX6_numbers_2 : decode cX6_numbers 2 = .ok (.invokevirtual 116, 3) := by decide +kernel
theorem dX6_numbers_5 : decode cX6_numbers 5 = .ok (.ifCond .ne 5, 3) := by decide +kernel
theorem dX6_numbers_8 : decode cX6_numbers 8 = .ok (.iconst (-1), 1) := by decide +kernel
theorem dX6_numbers_9 : decode cX6_numbers 9 = .ok (.ireturn, 1) := by decide +kernel
theorem dX6_numbers_10 : decode cX6_numbers 10 = .ok (.aload_n 0, 1) := by decide +kernel
theorem dX6_numbers_11 : decode cX6_numbers 11 = .ok (.iload_n 1, 1) := by decide +kernel
theorem dX6_numbers_12 : decode cX6_numbers 12 = .ok (.invokevirtual 54, 3) := by decide +kernel
theorem dX6_numbers_15 : decode cX6_numbers 15 = .ok (.istore_n 2, 1) := by decide +kernel
theorem dX6_numbers_16 : decode cX6_numbers 16 = .ok (.iconst 0, 1) := by decide +kernel
theorem dX6_numbers_17 : decode cX6_numbers 17 = .ok (.istore_n 3, 1) := by decide +kernel
theorem dX6_numbers_18 : decode cX6_numbers 18 = .ok (.iconst 1, 1) := by decide +kernel
theorem dX6_numbers_19 : decode cX6_numbers 19 = .ok (.istore 4, 2) := by decide +kernel
theorem dX6_numbers_21 : decode cX6_numbers 21 = .ok (.iload 4, 2) := by decide +kernel
theorem dX6_numbers_23 : decode cX6_numbers 23 = .ok (.bipush 9, 2) := by decide +kernel
theorem dX6_numbers_25 : decode cX6_numbers 25 = .ok (.if_icmp .gt 39, 3) := by decide +kernel
theorem dX6_numbers_28 : decode cX6_numbers 28 = .ok (.aload_n 0, 1) := by decide +kernel
theorem dX6_numbers_29 : decode cX6_numbers 29 = .ok (.getfield 19, 3) := by decide +kernel
theorem dX6_numbers_32 : decode cX6_numbers 32 = .ok (.iconst 5, 1) := by decide +kernel
theorem dX6_numbers_33 : decode cX6_numbers 33 = .ok (.iload_n 1, 1) := by decide +kernel
theorem dX6_numbers_34 : decode cX6_numbers 34 = .ok (.imul, 1) := by decide +kernel
theorem dX6_numbers_35 : decode cX6_numbers 35 = .ok (.iconst 2, 1) := by decide +kernel
theorem dX6_numbers_36 : decode cX6_numbers 36 = .ok (.iadd, 1) := by decide +kernel
theorem dX6_numbers_37 : decode cX6_numbers 37 = .ok (.iload 4, 2) := by decide +kernel
theorem dX6_numbers_39 : decode cX6_numbers 39 = .ok (.iastore, 1) := by decide +kernel
theorem dX6_numbers_40 : decode cX6_numbers 40 = .ok (.iload_n 3, 1) := by decide +kernel
theorem dX6_numbers_41 : decode cX6_numbers 41 = .ok (.aload_n 0, 1) := by decide +kernel
theorem dX6_numbers_42 : decode cX6_numbers 42 = .ok (.invokevirtual 165, 3) := by decide +kernel
theorem dX6_numbers_45 : decode cX6_numbers 45 = .ok (.ifCond .eq 10, 3) := by decide +kernel
theorem dX6_numbers_48 : decode cX6_numbers 48 = .ok (.iconst 1, 1) := by decide +kernel
theorem dX6_numbers_49 : decode cX6_numbers 49 = .ok (.iload 4, 2) := by decide +kernel
theorem dX6_numbers_51 : decode cX6_numbers 51 = .ok (.ishl, 1) := by decide +kernel
theorem dX6_numbers_52 : decode cX6_numbers 52 = .ok (.goto 4, 3) := by decide +kernel
theorem dX6_numbers_55 : decode cX6_numbers 55 = .ok (.iconst 0, 1) := by decide +kernel
theorem dX6_numbers_56 : decode cX6_numbers 56 = .ok (.ior, 1) := by decide +kernel
theorem dX6_numbers_57 : decode cX6_numbers 57 = .ok (.istore_n 3, 1) := by decide +kernel
theorem dX6_numbers_58 : decode cX6_numbers 58 = .ok (.iinc 4 1, 3) := by decide +kernel
theorem dX6_numbers_61 : decode cX6_numbers 61 = .ok (.goto (-40), 3) := by decide +kernel
theorem dX6_numbers_64 : decode cX6_numbers 64 = .ok (.aload_n 0, 1) := by decide +kernel
theorem dX6_numbers_65 : decode cX6_numbers 65 = .ok (.getfield 19, 3) := by decide +kernel
theorem dX6_numbers_68 : decode cX6_numbers 68 = .ok (.iconst 5, 1) := by decide +kernel
theorem dX6_numbers_69 : decode cX6_numbers 69 = .ok (.iload_n 1, 1) := by decide +kernel
theorem dX6_numbers_70 : decode cX6_numbers 70 = .ok (.imul, 1) := by decide +kernel
theorem dX6_numbers_71 : decode cX6_numbers 71 = .ok (.iconst 2, 1) := by decide +kernel
theorem dX6_numbers_72 : decode cX6_numbers 72 = .ok (.iadd, 1) := by decide +kernel
theorem dX6_numbers_73 : decode cX6_numbers 73 = .ok (.iload_n 2, 1) := by decide +kernel
theorem dX6_numbers_74 : decode cX6_numbers 74 = .ok (.iastore, 1) := by decide +kernel
theorem dX6_numbers_75 : decode cX6_numbers 75 = .ok (.iload_n 3, 1) := by decide +kernel
theorem dX6_numbers_76 : decode cX6_numbers 76 = .ok (.ireturn, 1) := by decide +kernel
theorem dX6_inLeastTerms_0 : decode cX6_inLeastTerms 0 = .ok (.lload_n 0, 1) := by decide +kernel
theorem dX6_inLeastTerms_1 : decode cX6_inLeastTerms 1 = .ok (.lstore 5, 2) := by decide +kernel
theorem dX6_inLeastTerms_3 : decode cX6_inLeastTerms 3 = .ok (.lload_n 2, 1) := by decide +kernel
theorem dX6_inLeastTerms_4 : decode cX6_inLeastTerms 4 = .ok (.lstore 7, 2) := by decide +kernel
theorem dX6_inLeastTerms_6 : decode cX6_inLeastTerms 6 = .ok (.lload 7, 2) := by decide +kernel
theorem dX6_inLeastTerms_8 : decode cX6_inLeastTerms 8 = .ok (.lconst 0, 1) := by decide +kernel
theorem dX6_inLeastTerms_9 : decode cX6_inLeastTerms 9 = .ok (.lcmp, 1) := by decide +kernel
theorem dX6_inLeastTerms_10 : decode cX6_inLeastTerms 10 = .ok (.ifCond .eq 21, 3) := by decide +kernel
theorem dX6_inLeastTerms_13 : decode cX6_inLeastTerms 13 = .ok (.lload 5, 2) := by decide +kernel
theorem dX6_inLeastTerms_15 : decode cX6_inLeastTerms 15 = .ok (.lload 7, 2) := by decide +kernel
theorem dX6_inLeastTerms_17 : decode cX6_inLeastTerms 17 = .ok (.lrem, 1) := by decide +kernel
theorem dX6_inLeastTerms_18 : decode cX6_inLeastTerms 18 = .ok (.lstore 9, 2) := by decide +kernel
theorem dX6_inLeastTerms_20 : decode cX6_inLeastTerms 20 = .ok (.lload 7, 2) := by decide +kernel
theorem dX6_inLeastTerms_22 : decode cX6_inLeastTerms 22 = .ok (.lstore 5, 2) := by decide +kernel
theorem dX6_inLeastTerms_24 : decode cX6_inLeastTerms 24 = .ok (.lload 9, 2) := by decide +kernel
theorem dX6_inLeastTerms_26 : decode cX6_inLeastTerms 26 = .ok (.lstore 7, 2) := by decide +kernel
theorem dX6_inLeastTerms_28 : decode cX6_inLeastTerms 28 = .ok (.goto (-22), 3) := by decide +kernel
theorem dX6_inLeastTerms_31 : decode cX6_inLeastTerms 31 = .ok (.iload 4, 2) := by decide +kernel
theorem dX6_inLeastTerms_33 : decode cX6_inLeastTerms 33 = .ok (.ifCond .ne 10, 3) := by decide +kernel
theorem dX6_inLeastTerms_36 : decode cX6_inLeastTerms 36 = .ok (.lload_n 0, 1) := by decide +kernel
theorem dX6_inLeastTerms_37 : decode cX6_inLeastTerms 37 = .ok (.lload 5, 2) := by decide +kernel
theorem dX6_inLeastTerms_39 : decode cX6_inLeastTerms 39 = .ok (.ldiv, 1) := by decide +kernel
theorem dX6_inLeastTerms_40 : decode cX6_inLeastTerms 40 = .ok (.goto 7, 3) := by decide +kernel
theorem dX6_inLeastTerms_43 : decode cX6_inLeastTerms 43 = .ok (.lload_n 2, 1) := by decide +kernel
theorem dX6_inLeastTerms_44 : decode cX6_inLeastTerms 44 = .ok (.lload 5, 2) := by decide +kernel
theorem dX6_inLeastTerms_46 : decode cX6_inLeastTerms 46 = .ok (.ldiv, 1) := by decide +kernel
theorem dX6_inLeastTerms_47 : decode cX6_inLeastTerms 47 = .ok (.lreturn, 1) := by decide +kernel
theorem dX6_odds_0 : decode cX6_odds 0 = .ok (.iload_n 1, 1) := by decide +kernel
theorem dX6_odds_1 : decode cX6_odds 1 = .ok (.iconst 0, 1) := by decide +kernel
theorem dX6_odds_2 : decode cX6_odds 2 = .ok (.sipush 200, 3) := by decide +kernel
theorem dX6_odds_5 : decode cX6_odds 5 = .ok (.invokestatic 43, 3) := by decide +kernel
theorem dX6_odds_8 : decode cX6_odds 8 = .ok (.ifCond .eq 19, 3) := by decide +kernel
theorem dX6_odds_11 : decode cX6_odds 11 = .ok (.iload_n 2, 1) := by decide +kernel
theorem dX6_odds_12 : decode cX6_odds 12 = .ok (.iconst 0, 1) := by decide +kernel
theorem dX6_odds_13 : decode cX6_odds 13 = .ok (.iconst 1, 1) := by decide +kernel
theorem dX6_odds_14 : decode cX6_odds 14 = .ok (.invokestatic 43, 3) := by decide +kernel
theorem dX6_odds_17 : decode cX6_odds 17 = .ok (.ifCond .eq 10, 3) := by decide +kernel
theorem dX6_odds_20 : decode cX6_odds 20 = .ok (.aload_n 0, 1) := by decide +kernel
theorem dX6_odds_21 : decode cX6_odds 21 = .ok (.getfield 47, 3) := by decide +kernel
theorem dX6_odds_24 : decode cX6_odds 24 = .ok (.ifCond .ne 7, 3) := by decide +kernel
theorem dX6_odds_27 : decode cX6_odds 27 = .ok (.ldc2_w 41, 3) := by decide +kernel
theorem dX6_odds_30 : decode cX6_odds 30 = .ok (.lreturn, 1) := by decide +kernel
theorem dX6_odds_31 : decode cX6_odds 31 = .ok (.iconst 0, 1) := by decide +kernel
theorem dX6_odds_32 : decode cX6_odds 32 = .ok (.istore_n 3, 1) := by decide +kernel
theorem dX6_odds_33 : decode cX6_odds 33 = .ok (.iconst 0, 1) := by decide +kernel
theorem dX6_odds_34 : decode cX6_odds 34 = .ok (.istore 4, 2) := by decide +kernel
theorem dX6_odds_36 : decode cX6_odds 36 = .ok (.iload 4, 2) := by decide +kernel
theorem dX6_odds_38 : decode cX6_odds 38 = .ok (.bipush 26, 2) := by decide +kernel
theorem dX6_odds_40 : decode cX6_odds 40 = .ok (.if_icmp .ge 40, 3) := by decide +kernel
theorem dX6_odds_43 : decode cX6_odds 43 = .ok (.aload_n 0, 1) := by decide +kernel
theorem dX6_odds_44 : decode cX6_odds 44 = .ok (.iload 4, 2) := by decide +kernel
theorem dX6_odds_46 : decode cX6_odds 46 = .ok (.bipush (-9), 2) := by decide +kernel
theorem dX6_odds_48 : decode cX6_odds 48 = .ok (.invokevirtual 132, 3) := by decide +kernel
theorem dX6_odds_51 : decode cX6_odds 51 = .ok (.iload_n 3, 1) := by decide +kernel
theorem dX6_odds_52 : decode cX6_odds 52 = .ok (.aload_n 0, 1) := by decide +kernel
theorem dX6_odds_53 : decode cX6_odds 53 = .ok (.getfield 97, 3) := by decide +kernel
theorem dX6_odds_56 : decode cX6_odds 56 = .ok (.ifCond .ne 15, 3) := by decide +kernel
theorem dX6_odds_59 : decode cX6_odds 59 = .ok (.aload_n 0, 1) := by decide +kernel
theorem dX6_odds_60 : decode cX6_odds 60 = .ok (.getfield 100, 3) := by decide +kernel
theorem dX6_odds_63 : decode cX6_odds 63 = .ok (.iload_n 1, 1) := by decide +kernel
theorem dX6_odds_64 : decode cX6_odds 64 = .ok (.if_icmp .lt 7, 3) := by decide +kernel
theorem dX6_odds_67 : decode cX6_odds 67 = .ok (.iconst 1, 1) := by decide +kernel
theorem dX6_odds_68 : decode cX6_odds 68 = .ok (.goto 4, 3) := by decide +kernel
theorem dX6_odds_71 : decode cX6_odds 71 = .ok (.iconst 0, 1) := by decide +kernel
theorem dX6_odds_72 : decode cX6_odds 72 = .ok (.iadd, 1) := by decide +kernel
theorem dX6_odds_73 : decode cX6_odds 73 = .ok (.istore_n 3, 1) := by decide +kernel
theorem dX6_odds_74 : decode cX6_odds 74 = .ok (.iinc 4 1, 3) := by decide +kernel
theorem dX6_odds_77 : decode cX6_odds 77 = .ok (.goto (-41), 3) := by decide +kernel
theorem dX6_odds_80 : decode cX6_odds 80 = .ok (.iload_n 3, 1) := by decide +kernel
theorem dX6_odds_81 : decode cX6_odds 81 = .ok (.i2l, 1) := by decide +kernel
theorem dX6_odds_82 : decode cX6_odds 82 = .ok (.ldc2_w 169, 3) := by decide +kernel
theorem dX6_odds_85 : decode cX6_odds 85 = .ok (.iload_n 2, 1) := by decide +kernel
theorem dX6_odds_86 : decode cX6_odds 86 = .ok (.invokestatic 171, 3) := by decide +kernel
theorem dX6_odds_89 : decode cX6_odds 89 = .ok (.lreturn, 1) := by decide +kernel
theorem dX6_sheet_0 : decode cX6_sheet 0 = .ok (.aload_n 0, 1) := by decide +kernel
theorem dX6_sheet_1 : decode cX6_sheet 1 = .ok (.iconst 0, 1) := by decide +kernel
theorem dX6_sheet_2 : decode cX6_sheet 2 = .ok (.putfield 37, 3) := by decide +kernel
theorem dX6_sheet_5 : decode cX6_sheet 5 = .ok (.iload_n 1, 1) := by decide +kernel
theorem dX6_sheet_6 : decode cX6_sheet 6 = .ok (.invokestatic 57, 3) := by decide +kernel
theorem dX6_sheet_9 : decode cX6_sheet 9 = .ok (.ifCond .ne 5, 3) := by decide +kernel
theorem dX6_sheet_12 : decode cX6_sheet 12 = .ok (.iconst (-1), 1) := by decide +kernel
theorem dX6_sheet_13 : decode cX6_sheet 13 = .ok (.ireturn, 1) := by decide +kernel
theorem dX6_sheet_14 : decode cX6_sheet 14 = .ok (.iload_n 2, 1) := by decide +kernel
theorem dX6_sheet_15 : decode cX6_sheet 15 = .ok (.invokestatic 61, 3) := by decide +kernel
theorem dX6_sheet_18 : decode cX6_sheet 18 = .ok (.ifCond .eq 9, 3) := by decide +kernel
theorem dX6_sheet_21 : decode cX6_sheet 21 = .ok (.iload_n 3, 1) := by decide +kernel
theorem dX6_sheet_22 : decode cX6_sheet 22 = .ok (.bipush 60, 2) := by decide +kernel
theorem dX6_sheet_24 : decode cX6_sheet 24 = .ok (.if_icmp .le 6, 3) := by decide +kernel
theorem dX6_sheet_27 : decode cX6_sheet 27 = .ok (.bipush (-2), 2) := by decide +kernel
theorem dX6_sheet_29 : decode cX6_sheet 29 = .ok (.ireturn, 1) := by decide +kernel
theorem dX6_sheet_30 : decode cX6_sheet 30 = .ok (.iload_n 3, 1) := by decide +kernel
theorem dX6_sheet_31 : decode cX6_sheet 31 = .ok (.ifCond .ge 9, 3) := by decide +kernel
theorem dX6_sheet_34 : decode cX6_sheet 34 = .ok (.aload_n 0, 1) := by decide +kernel
theorem dX6_sheet_35 : decode cX6_sheet 35 = .ok (.iconst 4, 1) := by decide +kernel
theorem dX6_sheet_36 : decode cX6_sheet 36 = .ok (.invokevirtual 68, 3) := by decide +kernel
theorem dX6_sheet_39 : decode cX6_sheet 39 = .ok (.ireturn, 1) := by decide +kernel
theorem dX6_sheet_40 : decode cX6_sheet 40 = .ok (.aload_n 0, 1) := by decide +kernel
theorem dX6_sheet_41 : decode cX6_sheet 41 = .ok (.getfield 9, 3) := by decide +kernel
theorem dX6_sheet_44 : decode cX6_sheet 44 = .ok (.iload_n 1, 1) := by decide +kernel
theorem dX6_sheet_45 : decode cX6_sheet 45 = .ok (.iload_n 2, 1) := by decide +kernel
theorem dX6_sheet_46 : decode cX6_sheet 46 = .ok (.iastore, 1) := by decide +kernel
theorem dX6_sheet_47 : decode cX6_sheet 47 = .ok (.aload_n 0, 1) := by decide +kernel
theorem dX6_sheet_48 : decode cX6_sheet 48 = .ok (.getfield 13, 3) := by decide +kernel
theorem dX6_sheet_51 : decode cX6_sheet 51 = .ok (.iload_n 1, 1) := by decide +kernel
theorem dX6_sheet_52 : decode cX6_sheet 52 = .ok (.iload_n 3, 1) := by decide +kernel
theorem dX6_sheet_53 : decode cX6_sheet 53 = .ok (.iastore, 1) := by decide +kernel
theorem dX6_sheet_54 : decode cX6_sheet 54 = .ok (.iconst 0, 1) := by decide +kernel
theorem dX6_sheet_55 : decode cX6_sheet 55 = .ok (.istore 4, 2) := by decide +kernel
theorem dX6_sheet_57 : decode cX6_sheet 57 = .ok (.iload 4, 2) := by decide +kernel
theorem dX6_sheet_59 : decode cX6_sheet 59 = .ok (.bipush 60, 2) := by decide +kernel
theorem dX6_sheet_61 : decode cX6_sheet 61 = .ok (.if_icmp .ge 22, 3) := by decide +kernel
theorem dX6_sheet_64 : decode cX6_sheet 64 = .ok (.aload_n 0, 1) := by decide +kernel
theorem dX6_sheet_65 : decode cX6_sheet 65 = .ok (.getfield 16, 3) := by decide +kernel
theorem dX6_sheet_68 : decode cX6_sheet 68 = .ok (.bipush 60, 2) := by decide +kernel
theorem dX6_sheet_70 : decode cX6_sheet 70 = .ok (.iload_n 1, 1) := by decide +kernel
theorem dX6_sheet_71 : decode cX6_sheet 71 = .ok (.imul, 1) := by decide +kernel
theorem dX6_sheet_72 : decode cX6_sheet 72 = .ok (.iload 4, 2) := by decide +kernel
theorem dX6_sheet_74 : decode cX6_sheet 74 = .ok (.iadd, 1) := by decide +kernel
theorem dX6_sheet_75 : decode cX6_sheet 75 = .ok (.iconst 0, 1) := by decide +kernel
theorem dX6_sheet_76 : decode cX6_sheet 76 = .ok (.iastore, 1) := by decide +kernel
theorem dX6_sheet_77 : decode cX6_sheet 77 = .ok (.iinc 4 1, 3) := by decide +kernel
theorem dX6_sheet_80 : decode cX6_sheet 80 = .ok (.goto (-23), 3) := by decide +kernel
theorem dX6_sheet_83 : decode cX6_sheet 83 = .ok (.iconst 1, 1) := by decide +kernel
theorem dX6_sheet_84 : decode cX6_sheet 84 = .ok (.ireturn, 1) := by decide +kernel
theorem dX6_lose_0 : decode cX6_lose 0 = .ok (.iload_n 1, 1) := by decide +kernel
theorem dX6_lose_1 : decode cX6_lose 1 = .ok (.invokestatic 57, 3) := by decide +kernel
theorem dX6_lose_4 : decode cX6_lose 4 = .ok (.ifCond .ne 5, 3) := by decide +kernel
theorem dX6_lose_7 : decode cX6_lose 7 = .ok (.iconst (-1), 1) := by decide +kernel
theorem dX6_lose_8 : decode cX6_lose 8 = .ok (.ireturn, 1) := by decide +kernel
theorem dX6_lose_9 : decode cX6_lose 9 = .ok (.aload_n 0, 1) := by decide +kernel
theorem dX6_lose_10 : decode cX6_lose 10 = .ok (.getfield 9, 3) := by decide +kernel
theorem dX6_lose_13 : decode cX6_lose 13 = .ok (.iload_n 1, 1) := by decide +kernel
theorem dX6_lose_14 : decode cX6_lose 14 = .ok (.iaload, 1) := by decide +kernel
theorem dX6_lose_15 : decode cX6_lose 15 = .ok (.bipush (-9), 2) := by decide +kernel
theorem dX6_lose_17 : decode cX6_lose 17 = .ok (.if_icmp .ne 7, 3) := by decide +kernel
theorem dX6_lose_20 : decode cX6_lose 20 = .ok (.iconst 0, 1) := by decide +kernel
theorem dX6_lose_21 : decode cX6_lose 21 = .ok (.goto 4, 3) := by decide +kernel
theorem dX6_lose_24 : decode cX6_lose 24 = .ok (.iconst 1, 1) := by decide +kernel
theorem dX6_lose_25 : decode cX6_lose 25 = .ok (.istore_n 2, 1) := by decide +kernel
theorem dX6_lose_26 : decode cX6_lose 26 = .ok (.aload_n 0, 1) := by decide +kernel
theorem dX6_lose_27 : decode cX6_lose 27 = .ok (.getfield 9, 3) := by decide +kernel
theorem dX6_lose_30 : decode cX6_lose 30 = .ok (.iload_n 1, 1) := by decide +kernel
theorem dX6_lose_31 : decode cX6_lose 31 = .ok (.bipush (-9), 2) := by decide +kernel
theorem dX6_lose_33 : decode cX6_lose 33 = .ok (.iastore, 1) := by decide +kernel
theorem dX6_lose_34 : decode cX6_lose 34 = .ok (.iload_n 2, 1) := by decide +kernel
theorem dX6_lose_35 : decode cX6_lose 35 = .ok (.ireturn, 1) := by decide +kernel
theorem dX6_put_0 : decode cX6_put 0 = .ok (.aload_n 0, 1) := by decide +kernel
theorem dX6_put_1 : decode cX6_put 1 = .ok (.iconst 0, 1) := by decide +kernel
theorem dX6_put_2 : decode cX6_put 2 = .ok (.putfield 37, 3) := by decide +kernel
theorem dX6_put_5 : decode cX6_put 5 = .ok (.iload_n 1, 1) := by decide +kernel
theorem dX6_put_6 : decode cX6_put 6 = .ok (.invokestatic 57, 3) := by decide +kernel
theorem dX6_put_9 : decode cX6_put 9 = .ok (.ifCond .ne 5, 3) := by decide +kernel
theorem dX6_put_12 : decode cX6_put 12 = .ok (.iconst (-1), 1) := by decide +kernel
theorem dX6_put_13 : decode cX6_put 13 = .ok (.ireturn, 1) := by decide +kernel
theorem dX6_put_14 : decode cX6_put 14 = .ok (.aload_n 0, 1) := by decide +kernel
theorem dX6_put_15 : decode cX6_put 15 = .ok (.getfield 9, 3) := by decide +kernel
theorem dX6_put_18 : decode cX6_put 18 = .ok (.iload_n 1, 1) := by decide +kernel
theorem dX6_put_19 : decode cX6_put 19 = .ok (.iaload, 1) := by decide +kernel
theorem dX6_put_20 : decode cX6_put 20 = .ok (.bipush (-9), 2) := by decide +kernel
theorem dX6_put_22 : decode cX6_put 22 = .ok (.if_icmp .ne 9, 3) := by decide +kernel
theorem dX6_put_25 : decode cX6_put 25 = .ok (.aload_n 0, 1) := by decide +kernel
theorem dX6_put_26 : decode cX6_put 26 = .ok (.iconst 1, 1) := by decide +kernel
theorem dX6_put_27 : decode cX6_put 27 = .ok (.invokevirtual 68, 3) := by decide +kernel
theorem dX6_put_30 : decode cX6_put 30 = .ok (.ireturn, 1) := by decide +kernel
theorem dX6_put_31 : decode cX6_put 31 = .ok (.iload_n 2, 1) := by decide +kernel
theorem dX6_put_32 : decode cX6_put 32 = .ok (.iconst 0, 1) := by decide +kernel
theorem dX6_put_33 : decode cX6_put 33 = .ok (.aload_n 0, 1) := by decide +kernel
theorem dX6_put_34 : decode cX6_put 34 = .ok (.getfield 13, 3) := by decide +kernel
theorem dX6_put_37 : decode cX6_put 37 = .ok (.iload_n 1, 1) := by decide +kernel
theorem dX6_put_38 : decode cX6_put 38 = .ok (.iaload, 1) := by decide +kernel
theorem dX6_put_39 : decode cX6_put 39 = .ok (.iconst 1, 1) := by decide +kernel
theorem dX6_put_40 : decode cX6_put 40 = .ok (.isub, 1) := by decide +kernel
theorem dX6_put_41 : decode cX6_put 41 = .ok (.invokestatic 43, 3) := by decide +kernel
theorem dX6_put_44 : decode cX6_put 44 = .ok (.ifCond .ne 9, 3) := by decide +kernel
theorem dX6_put_47 : decode cX6_put 47 = .ok (.aload_n 0, 1) := by decide +kernel
theorem dX6_put_48 : decode cX6_put 48 = .ok (.iconst 3, 1) := by decide +kernel
theorem dX6_put_49 : decode cX6_put 49 = .ok (.invokevirtual 68, 3) := by decide +kernel
theorem dX6_put_52 : decode cX6_put 52 = .ok (.ireturn, 1) := by decide +kernel
theorem dX6_put_53 : decode cX6_put 53 = .ok (.aload_n 0, 1) := by decide +kernel
theorem dX6_put_54 : decode cX6_put 54 = .ok (.getfield 16, 3) := by decide +kernel
theorem dX6_put_57 : decode cX6_put 57 = .ok (.bipush 60, 2) := by decide +kernel
theorem dX6_put_59 : decode cX6_put 59 = .ok (.iload_n 1, 1) := by decide +kernel
theorem dX6_put_60 : decode cX6_put 60 = .ok (.imul, 1) := by decide +kernel
theorem dX6_put_61 : decode cX6_put 61 = .ok (.iload_n 2, 1) := by decide +kernel
theorem dX6_put_62 : decode cX6_put 62 = .ok (.iadd, 1) := by decide +kernel
theorem dX6_put_63 : decode cX6_put 63 = .ok (.aload_n 0, 1) := by decide +kernel
theorem dX6_put_64 : decode cX6_put 64 = .ok (.getfield 9, 3) := by decide +kernel
theorem dX6_put_67 : decode cX6_put 67 = .ok (.iload_n 1, 1) := by decide +kernel
theorem dX6_put_68 : decode cX6_put 68 = .ok (.iaload, 1) := by decide +kernel
theorem dX6_put_69 : decode cX6_put 69 = .ok (.ifCond .ne 8, 3) := by decide +kernel
theorem dX6_put_72 : decode cX6_put 72 = .ok (.iload_n 3, 1) := by decide +kernel
theorem dX6_put_73 : decode cX6_put 73 = .ok (.i2b, 1) := by decide +kernel
theorem dX6_put_74 : decode cX6_put 74 = .ok (.goto 19, 3) := by decide +kernel
theorem dX6_put_77 : decode cX6_put 77 = .ok (.aload_n 0, 1) := by decide +kernel
theorem dX6_put_78 : decode cX6_put 78 = .ok (.getfield 9, 3) := by decide +kernel
theorem dX6_put_81 : decode cX6_put 81 = .ok (.iload_n 1, 1) := by decide +kernel
theorem dX6_put_82 : decode cX6_put 82 = .ok (.iaload, 1) := by decide +kernel
theorem dX6_put_83 : decode cX6_put 83 = .ok (.iconst 1, 1) := by decide +kernel
theorem dX6_put_84 : decode cX6_put 84 = .ok (.if_icmp .ne 8, 3) := by decide +kernel
theorem dX6_put_87 : decode cX6_put 87 = .ok (.iload_n 3, 1) := by decide +kernel
theorem dX6_put_88 : decode cX6_put 88 = .ok (.i2s, 1) := by decide +kernel
theorem dX6_put_89 : decode cX6_put 89 = .ok (.goto 4, 3) := by decide +kernel
theorem dX6_put_92 : decode cX6_put 92 = .ok (.iload_n 3, 1) := by decide +kernel
theorem dX6_put_93 : decode cX6_put 93 = .ok (.iastore, 1) := by decide +kernel
theorem dX6_put_94 : decode cX6_put 94 = .ok (.iconst 1, 1) := by decide +kernel
theorem dX6_put_95 : decode cX6_put 95 = .ok (.ireturn, 1) := by decide +kernel
theorem dX6_cell_0 : decode cX6_cell 0 = .ok (.aload_n 0, 1) := by decide +kernel
theorem dX6_cell_1 : decode cX6_cell 1 = .ok (.iconst 0, 1) := by decide +kernel
theorem dX6_cell_2 : decode cX6_cell 2 = .ok (.putfield 37, 3) := by decide +kernel
theorem dX6_cell_5 : decode cX6_cell 5 = .ok (.iload_n 1, 1) := by decide +kernel
theorem dX6_cell_6 : decode cX6_cell 6 = .ok (.invokestatic 57, 3) := by decide +kernel
theorem dX6_cell_9 : decode cX6_cell 9 = .ok (.ifCond .eq 10, 3) := by decide +kernel
theorem dX6_cell_12 : decode cX6_cell 12 = .ok (.iload_n 3, 1) := by decide +kernel
theorem dX6_cell_13 : decode cX6_cell 13 = .ok (.invokestatic 61, 3) := by decide +kernel
theorem dX6_cell_16 : decode cX6_cell 16 = .ok (.ifCond .ne 7, 3) := by decide +kernel
theorem dX6_cell_19 : decode cX6_cell 19 = .ok (.ldc2_w 41, 3) := by decide +kernel
theorem dX6_cell_22 : decode cX6_cell 22 = .ok (.lreturn, 1) := by decide +kernel
theorem dX6_cell_23 : decode cX6_cell 23 = .ok (.aload_n 0, 1) := by decide +kernel
theorem dX6_cell_24 : decode cX6_cell 24 = .ok (.getfield 9, 3) := by decide +kernel
theorem dX6_cell_27 : decode cX6_cell 27 = .ok (.iload_n 1, 1) := by decide +kernel
theorem dX6_cell_28 : decode cX6_cell 28 = .ok (.iaload, 1) := by decide +kernel
theorem dX6_cell_29 : decode cX6_cell 29 = .ok (.bipush (-9), 2) := by decide +kernel
theorem dX6_cell_31 : decode cX6_cell 31 = .ok (.if_icmp .eq 19, 3) := by decide +kernel
theorem dX6_cell_34 : decode cX6_cell 34 = .ok (.aload_n 0, 1) := by decide +kernel
theorem dX6_cell_35 : decode cX6_cell 35 = .ok (.getfield 9, 3) := by decide +kernel
theorem dX6_cell_38 : decode cX6_cell 38 = .ok (.iload_n 1, 1) := by decide +kernel
theorem dX6_cell_39 : decode cX6_cell 39 = .ok (.iaload, 1) := by decide +kernel
theorem dX6_cell_40 : decode cX6_cell 40 = .ok (.iload_n 3, 1) := by decide +kernel
theorem dX6_cell_41 : decode cX6_cell 41 = .ok (.if_icmp .eq 9, 3) := by decide +kernel
theorem dX6_cell_44 : decode cX6_cell 44 = .ok (.aload_n 0, 1) := by decide +kernel
theorem dX6_cell_45 : decode cX6_cell 45 = .ok (.iconst 2, 1) := by decide +kernel
theorem dX6_cell_46 : decode cX6_cell 46 = .ok (.invokevirtual 175, 3) := by decide +kernel
theorem dX6_cell_49 : decode cX6_cell 49 = .ok (.lreturn, 1) := by decide +kernel
theorem dX6_cell_50 : decode cX6_cell 50 = .ok (.aload_n 0, 1) := by decide +kernel
theorem dX6_cell_51 : decode cX6_cell 51 = .ok (.getfield 9, 3) := by decide +kernel
theorem dX6_cell_54 : decode cX6_cell 54 = .ok (.iload_n 1, 1) := by decide +kernel
theorem dX6_cell_55 : decode cX6_cell 55 = .ok (.iaload, 1) := by decide +kernel
theorem dX6_cell_56 : decode cX6_cell 56 = .ok (.bipush (-9), 2) := by decide +kernel
theorem dX6_cell_58 : decode cX6_cell 58 = .ok (.if_icmp .ne 9, 3) := by decide +kernel
theorem dX6_cell_61 : decode cX6_cell 61 = .ok (.aload_n 0, 1) := by decide +kernel
theorem dX6_cell_62 : decode cX6_cell 62 = .ok (.iconst 1, 1) := by decide +kernel
theorem dX6_cell_63 : decode cX6_cell 63 = .ok (.invokevirtual 175, 3) := by decide +kernel
theorem dX6_cell_66 : decode cX6_cell 66 = .ok (.lreturn, 1) := by decide +kernel
theorem dX6_cell_67 : decode cX6_cell 67 = .ok (.iload_n 2, 1) := by decide +kernel
theorem dX6_cell_68 : decode cX6_cell 68 = .ok (.iconst 0, 1) := by decide +kernel
theorem dX6_cell_69 : decode cX6_cell 69 = .ok (.aload_n 0, 1) := by decide +kernel
theorem dX6_cell_70 : decode cX6_cell 70 = .ok (.getfield 13, 3) := by decide +kernel
theorem dX6_cell_73 : decode cX6_cell 73 = .ok (.iload_n 1, 1) := by decide +kernel
theorem dX6_cell_74 : decode cX6_cell 74 = .ok (.iaload, 1) := by decide +kernel
theorem dX6_cell_75 : decode cX6_cell 75 = .ok (.iconst 1, 1) := by decide +kernel
theorem dX6_cell_76 : decode cX6_cell 76 = .ok (.isub, 1) := by decide +kernel
theorem dX6_cell_77 : decode cX6_cell 77 = .ok (.invokestatic 43, 3) := by decide +kernel
theorem dX6_cell_80 : decode cX6_cell 80 = .ok (.ifCond .ne 9, 3) := by decide +kernel
theorem dX6_cell_83 : decode cX6_cell 83 = .ok (.aload_n 0, 1) := by decide +kernel
theorem dX6_cell_84 : decode cX6_cell 84 = .ok (.iconst 3, 1) := by decide +kernel
theorem dX6_cell_85 : decode cX6_cell 85 = .ok (.invokevirtual 175, 3) := by decide +kernel
theorem dX6_cell_88 : decode cX6_cell 88 = .ok (.lreturn, 1) := by decide +kernel
theorem dX6_cell_89 : decode cX6_cell 89 = .ok (.aload_n 0, 1) := by decide +kernel
theorem dX6_cell_90 : decode cX6_cell 90 = .ok (.getfield 16, 3) := by decide +kernel
theorem dX6_cell_93 : decode cX6_cell 93 = .ok (.bipush 60, 2) := by decide +kernel
theorem dX6_cell_95 : decode cX6_cell 95 = .ok (.iload_n 1, 1) := by decide +kernel
theorem dX6_cell_96 : decode cX6_cell 96 = .ok (.imul, 1) := by decide +kernel
theorem dX6_cell_97 : decode cX6_cell 97 = .ok (.iload_n 2, 1) := by decide +kernel
theorem dX6_cell_98 : decode cX6_cell 98 = .ok (.iadd, 1) := by decide +kernel
theorem dX6_cell_99 : decode cX6_cell 99 = .ok (.iaload, 1) := by decide +kernel
theorem dX6_cell_100 : decode cX6_cell 100 = .ok (.i2l, 1) := by decide +kernel
theorem dX6_cell_101 : decode cX6_cell 101 = .ok (.lreturn, 1) := by decide +kernel
theorem dX6_copy_0 : decode cX6_copy 0 = .ok (.aload_n 0, 1) := by decide +kernel
theorem dX6_copy_1 : decode cX6_copy 1 = .ok (.iconst 0, 1) := by decide +kernel
theorem dX6_copy_2 : decode cX6_copy 2 = .ok (.putfield 37, 3) := by decide +kernel
theorem dX6_copy_5 : decode cX6_copy 5 = .ok (.iload_n 1, 1) := by decide +kernel
theorem dX6_copy_6 : decode cX6_copy 6 = .ok (.invokestatic 57, 3) := by decide +kernel
theorem dX6_copy_9 : decode cX6_copy 9 = .ok (.ifCond .eq 10, 3) := by decide +kernel
theorem dX6_copy_12 : decode cX6_copy 12 = .ok (.iload_n 3, 1) := by decide +kernel
theorem dX6_copy_13 : decode cX6_copy 13 = .ok (.invokestatic 57, 3) := by decide +kernel
theorem dX6_copy_16 : decode cX6_copy 16 = .ok (.ifCond .ne 5, 3) := by decide +kernel
theorem dX6_copy_19 : decode cX6_copy 19 = .ok (.iconst (-1), 1) := by decide +kernel
theorem dX6_copy_20 : decode cX6_copy 20 = .ok (.ireturn, 1) := by decide +kernel
theorem dX6_copy_21 : decode cX6_copy 21 = .ok (.aload_n 0, 1) := by decide +kernel
theorem dX6_copy_22 : decode cX6_copy 22 = .ok (.getfield 9, 3) := by decide +kernel
theorem dX6_copy_25 : decode cX6_copy 25 = .ok (.iload_n 1, 1) := by decide +kernel
theorem dX6_copy_26 : decode cX6_copy 26 = .ok (.iaload, 1) := by decide +kernel
theorem dX6_copy_27 : decode cX6_copy 27 = .ok (.bipush (-9), 2) := by decide +kernel
theorem dX6_copy_29 : decode cX6_copy 29 = .ok (.if_icmp .eq 14, 3) := by decide +kernel
theorem dX6_copy_32 : decode cX6_copy 32 = .ok (.aload_n 0, 1) := by decide +kernel
theorem dX6_copy_33 : decode cX6_copy 33 = .ok (.getfield 9, 3) := by decide +kernel
theorem dX6_copy_36 : decode cX6_copy 36 = .ok (.iload_n 3, 1) := by decide +kernel
theorem dX6_copy_37 : decode cX6_copy 37 = .ok (.iaload, 1) := by decide +kernel
theorem dX6_copy_38 : decode cX6_copy 38 = .ok (.bipush (-9), 2) := by decide +kernel
theorem dX6_copy_40 : decode cX6_copy 40 = .ok (.if_icmp .ne 9, 3) := by decide +kernel
theorem dX6_copy_43 : decode cX6_copy 43 = .ok (.aload_n 0, 1) := by decide +kernel
theorem dX6_copy_44 : decode cX6_copy 44 = .ok (.iconst 1, 1) := by decide +kernel
theorem dX6_copy_45 : decode cX6_copy 45 = .ok (.invokevirtual 68, 3) := by decide +kernel
theorem dX6_copy_48 : decode cX6_copy 48 = .ok (.ireturn, 1) := by decide +kernel
theorem dX6_copy_49 : decode cX6_copy 49 = .ok (.aload_n 0, 1) := by decide +kernel
theorem dX6_copy_50 : decode cX6_copy 50 = .ok (.getfield 9, 3) := by decide +kernel
theorem dX6_copy_53 : decode cX6_copy 53 = .ok (.iload_n 1, 1) := by decide +kernel
theorem dX6_copy_54 : decode cX6_copy 54 = .ok (.iaload, 1) := by decide +kernel
theorem dX6_copy_55 : decode cX6_copy 55 = .ok (.aload_n 0, 1) := by decide +kernel
theorem dX6_copy_56 : decode cX6_copy 56 = .ok (.getfield 9, 3) := by decide +kernel
theorem dX6_copy_59 : decode cX6_copy 59 = .ok (.iload_n 3, 1) := by decide +kernel
theorem dX6_copy_60 : decode cX6_copy 60 = .ok (.iaload, 1) := by decide +kernel
theorem dX6_copy_61 : decode cX6_copy 61 = .ok (.if_icmp .eq 9, 3) := by decide +kernel
theorem dX6_copy_64 : decode cX6_copy 64 = .ok (.aload_n 0, 1) := by decide +kernel
theorem dX6_copy_65 : decode cX6_copy 65 = .ok (.iconst 2, 1) := by decide +kernel
theorem dX6_copy_66 : decode cX6_copy 66 = .ok (.invokevirtual 68, 3) := by decide +kernel
theorem dX6_copy_69 : decode cX6_copy 69 = .ok (.ireturn, 1) := by decide +kernel
theorem dX6_copy_70 : decode cX6_copy 70 = .ok (.iload_n 2, 1) := by decide +kernel
theorem dX6_copy_71 : decode cX6_copy 71 = .ok (.ifCond .lt 38, 3) := by decide +kernel
theorem dX6_copy_74 : decode cX6_copy 74 = .ok (.iload 4, 2) := by decide +kernel
theorem dX6_copy_76 : decode cX6_copy 76 = .ok (.ifCond .lt 33, 3) := by decide +kernel
theorem dX6_copy_79 : decode cX6_copy 79 = .ok (.iload 5, 2) := by decide +kernel
theorem dX6_copy_81 : decode cX6_copy 81 = .ok (.ifCond .lt 28, 3) := by decide +kernel
theorem dX6_copy_84 : decode cX6_copy 84 = .ok (.iload_n 2, 1) := by decide +kernel
theorem dX6_copy_85 : decode cX6_copy 85 = .ok (.aload_n 0, 1) := by decide +kernel
theorem dX6_copy_86 : decode cX6_copy 86 = .ok (.getfield 13, 3) := by decide +kernel
theorem dX6_copy_89 : decode cX6_copy 89 = .ok (.iload_n 1, 1) := by decide +kernel
theorem dX6_copy_90 : decode cX6_copy 90 = .ok (.iaload, 1) := by decide +kernel
theorem dX6_copy_91 : decode cX6_copy 91 = .ok (.if_icmp .gt 18, 3) := by decide +kernel
theorem dX6_copy_94 : decode cX6_copy 94 = .ok (.iload 4, 2) := by decide +kernel
theorem dX6_copy_96 : decode cX6_copy 96 = .ok (.aload_n 0, 1) := by decide +kernel
theorem dX6_copy_97 : decode cX6_copy 97 = .ok (.getfield 13, 3) := by decide +kernel
theorem dX6_copy_100 : decode cX6_copy 100 = .ok (.iload_n 3, 1) := by decide +kernel
theorem dX6_copy_101 : decode cX6_copy 101 = .ok (.iaload, 1) := by decide +kernel
theorem dX6_copy_102 : decode cX6_copy 102 = .ok (.if_icmp .gt 7, 3) := by decide +kernel
theorem dX6_copy_105 : decode cX6_copy 105 = .ok (.iconst 1, 1) := by decide +kernel
theorem dX6_copy_106 : decode cX6_copy 106 = .ok (.goto 4, 3) := by decide +kernel
theorem dX6_copy_109 : decode cX6_copy 109 = .ok (.iconst 0, 1) := by decide +kernel
theorem dX6_copy_110 : decode cX6_copy 110 = .ok (.istore 6, 2) := by decide +kernel
theorem dX6_copy_112 : decode cX6_copy 112 = .ok (.iload 6, 2) := by decide +kernel
theorem dX6_copy_114 : decode cX6_copy 114 = .ok (.ifCond .eq 30, 3) := by decide +kernel
theorem dX6_copy_117 : decode cX6_copy 117 = .ok (.iload 5, 2) := by decide +kernel
theorem dX6_copy_119 : decode cX6_copy 119 = .ok (.aload_n 0, 1) := by decide +kernel
theorem dX6_copy_120 : decode cX6_copy 120 = .ok (.getfield 13, 3) := by decide +kernel
theorem dX6_copy_123 : decode cX6_copy 123 = .ok (.iload_n 1, 1) := by decide +kernel
theorem dX6_copy_124 : decode cX6_copy 124 = .ok (.iaload, 1) := by decide +kernel
theorem dX6_copy_125 : decode cX6_copy 125 = .ok (.iload_n 2, 1) := by decide +kernel
theorem dX6_copy_126 : decode cX6_copy 126 = .ok (.isub, 1) := by decide +kernel
theorem dX6_copy_127 : decode cX6_copy 127 = .ok (.if_icmp .gt 17, 3) := by decide +kernel
theorem dX6_copy_130 : decode cX6_copy 130 = .ok (.iload 5, 2) := by decide +kernel
theorem dX6_copy_132 : decode cX6_copy 132 = .ok (.aload_n 0, 1) := by decide +kernel
theorem dX6_copy_133 : decode cX6_copy 133 = .ok (.getfield 13, 3) := by decide +kernel
theorem dX6_copy_136 : decode cX6_copy 136 = .ok (.iload_n 3, 1) := by decide +kernel
theorem dX6_copy_137 : decode cX6_copy 137 = .ok (.iaload, 1) := by decide +kernel
theorem dX6_copy_138 : decode cX6_copy 138 = .ok (.iload 4, 2) := by decide +kernel
theorem dX6_copy_140 : decode cX6_copy 140 = .ok (.isub, 1) := by decide +kernel
theorem dX6_copy_141 : decode cX6_copy 141 = .ok (.if_icmp .le 9, 3) := by decide +kernel
theorem dX6_copy_144 : decode cX6_copy 144 = .ok (.aload_n 0, 1) := by decide +kernel
theorem dX6_copy_145 : decode cX6_copy 145 = .ok (.iconst 3, 1) := by decide +kernel
theorem dX6_copy_146 : decode cX6_copy 146 = .ok (.invokevirtual 68, 3) := by decide +kernel
theorem dX6_copy_149 : decode cX6_copy 149 = .ok (.ireturn, 1) := by decide +kernel
theorem dX6_copy_150 : decode cX6_copy 150 = .ok (.iload_n 2, 1) := by decide +kernel
theorem dX6_copy_151 : decode cX6_copy 151 = .ok (.iload 4, 2) := by decide +kernel
theorem dX6_copy_153 : decode cX6_copy 153 = .ok (.if_icmp .ge 7, 3) := by decide +kernel
theorem dX6_copy_156 : decode cX6_copy 156 = .ok (.iconst 1, 1) := by decide +kernel
theorem dX6_copy_157 : decode cX6_copy 157 = .ok (.goto 4, 3) := by decide +kernel
theorem dX6_copy_160 : decode cX6_copy 160 = .ok (.iconst 0, 1) := by decide +kernel
theorem dX6_copy_161 : decode cX6_copy 161 = .ok (.istore 7, 2) := by decide +kernel
theorem dX6_copy_163 : decode cX6_copy 163 = .ok (.iconst 0, 1) := by decide +kernel
theorem dX6_copy_164 : decode cX6_copy 164 = .ok (.istore 8, 2) := by decide +kernel
theorem dX6_copy_166 : decode cX6_copy 166 = .ok (.iload 8, 2) := by decide +kernel
theorem dX6_copy_168 : decode cX6_copy 168 = .ok (.iload 5, 2) := by decide +kernel
theorem dX6_copy_170 : decode cX6_copy 170 = .ok (.if_icmp .ge 57, 3) := by decide +kernel
theorem dX6_copy_173 : decode cX6_copy 173 = .ok (.iload 7, 2) := by decide +kernel
theorem dX6_copy_175 : decode cX6_copy 175 = .ok (.ifCond .eq 13, 3) := by decide +kernel
theorem dX6_copy_178 : decode cX6_copy 178 = .ok (.iload 5, 2) := by decide +kernel
theorem dX6_copy_180 : decode cX6_copy 180 = .ok (.iconst 1, 1) := by decide +kernel
theorem dX6_copy_181 : decode cX6_copy 181 = .ok (.isub, 1) := by decide +kernel
theorem dX6_copy_182 : decode cX6_copy 182 = .ok (.iload 8, 2) := by decide +kernel
theorem dX6_copy_184 : decode cX6_copy 184 = .ok (.isub, 1) := by decide +kernel
theorem dX6_copy_185 : decode cX6_copy 185 = .ok (.goto 5, 3) := by decide +kernel
theorem dX6_copy_188 : decode cX6_copy 188 = .ok (.iload 8, 2) := by decide +kernel
theorem dX6_copy_190 : decode cX6_copy 190 = .ok (.istore 9, 2) := by decide +kernel
theorem dX6_copy_192 : decode cX6_copy 192 = .ok (.aload_n 0, 1) := by decide +kernel
theorem dX6_copy_193 : decode cX6_copy 193 = .ok (.getfield 16, 3) := by decide +kernel
theorem dX6_copy_196 : decode cX6_copy 196 = .ok (.bipush 60, 2) := by decide +kernel
theorem dX6_copy_198 : decode cX6_copy 198 = .ok (.iload_n 3, 1) := by decide +kernel
theorem dX6_copy_199 : decode cX6_copy 199 = .ok (.imul, 1) := by decide +kernel
theorem dX6_copy_200 : decode cX6_copy 200 = .ok (.iload 4, 2) := by decide +kernel
theorem dX6_copy_202 : decode cX6_copy 202 = .ok (.iadd, 1) := by decide +kernel
theorem dX6_copy_203 : decode cX6_copy 203 = .ok (.iload 9, 2) := by decide +kernel
theorem dX6_copy_205 : decode cX6_copy 205 = .ok (.iadd, 1) := by decide +kernel
theorem dX6_copy_206 : decode cX6_copy 206 = .ok (.aload_n 0, 1) := by decide +kernel
theorem dX6_copy_207 : decode cX6_copy 207 = .ok (.getfield 16, 3) := by decide +kernel
theorem dX6_copy_210 : decode cX6_copy 210 = .ok (.bipush 60, 2) := by decide +kernel
theorem dX6_copy_212 : decode cX6_copy 212 = .ok (.iload_n 1, 1) := by decide +kernel
theorem dX6_copy_213 : decode cX6_copy 213 = .ok (.imul, 1) := by decide +kernel
theorem dX6_copy_214 : decode cX6_copy 214 = .ok (.iload_n 2, 1) := by decide +kernel
theorem dX6_copy_215 : decode cX6_copy 215 = .ok (.iadd, 1) := by decide +kernel
theorem dX6_copy_216 : decode cX6_copy 216 = .ok (.iload 9, 2) := by decide +kernel
theorem dX6_copy_218 : decode cX6_copy 218 = .ok (.iadd, 1) := by decide +kernel
theorem dX6_copy_219 : decode cX6_copy 219 = .ok (.iaload, 1) := by decide +kernel
theorem dX6_copy_220 : decode cX6_copy 220 = .ok (.iastore, 1) := by decide +kernel
theorem dX6_copy_221 : decode cX6_copy 221 = .ok (.iinc 8 1, 3) := by decide +kernel
theorem dX6_copy_224 : decode cX6_copy 224 = .ok (.goto (-58), 3) := by decide +kernel
theorem dX6_copy_227 : decode cX6_copy 227 = .ok (.iload 5, 2) := by decide +kernel
theorem dX6_copy_229 : decode cX6_copy 229 = .ok (.ireturn, 1) := by decide +kernel
theorem dX6_begins_0 : decode cX6_begins 0 = .ok (.aload_n 0, 1) := by decide +kernel
theorem dX6_begins_1 : decode cX6_begins 1 = .ok (.bipush 31, 2) := by decide +kernel
theorem dX6_begins_3 : decode cX6_begins 3 = .ok (.aload_n 0, 1) := by decide +kernel
theorem dX6_begins_4 : decode cX6_begins 4 = .ok (.getfield 179, 3) := by decide +kernel
theorem dX6_begins_7 : decode cX6_begins 7 = .ok (.imul, 1) := by decide +kernel
theorem dX6_begins_8 : decode cX6_begins 8 = .ok (.iload_n 1, 1) := by decide +kernel
theorem dX6_begins_9 : decode cX6_begins 9 = .ok (.iadd, 1) := by decide +kernel
theorem dX6_begins_10 : decode cX6_begins 10 = .ok (.putfield 179, 3) := by decide +kernel
theorem dX6_begins_13 : decode cX6_begins 13 = .ok (.return_, 1) := by decide +kernel
theorem dX6_tell_0 : decode cX6_tell 0 = .ok (.aload_n 0, 1) := by decide +kernel
theorem dX6_tell_1 : decode cX6_tell 1 = .ok (.iload_n 1, 1) := by decide +kernel
theorem dX6_tell_2 : decode cX6_tell 2 = .ok (.invokevirtual 116, 3) := by decide +kernel
theorem dX6_tell_5 : decode cX6_tell 5 = .ok (.ifCond .ne 5, 3) := by decide +kernel
theorem dX6_tell_8 : decode cX6_tell 8 = .ok (.iconst (-1), 1) := by decide +kernel
theorem dX6_tell_9 : decode cX6_tell 9 = .ok (.ireturn, 1) := by decide +kernel
theorem dX6_tell_10 : decode cX6_tell 10 = .ok (.aload_n 0, 1) := by decide +kernel
theorem dX6_tell_11 : decode cX6_tell 11 = .ok (.iload_n 1, 1) := by decide +kernel
theorem dX6_tell_12 : decode cX6_tell 12 = .ok (.invokevirtual 54, 3) := by decide +kernel
theorem dX6_tell_15 : decode cX6_tell 15 = .ok (.istore_n 2, 1) := by decide +kernel
theorem dX6_tell_16 : decode cX6_tell 16 = .ok (.aload_n 0, 1) := by decide +kernel
theorem dX6_tell_17 : decode cX6_tell 17 = .ok (.iload_n 1, 1) := by decide +kernel
theorem dX6_tell_18 : decode cX6_tell 18 = .ok (.invokevirtual 50, 3) := by decide +kernel
theorem dX6_tell_21 : decode cX6_tell 21 = .ok (.lookupswitch 69 #[(1, 27), (2, 42)], 27) := by decide +kernel
theorem dX6_tell_48 : decode cX6_tell 48 = .ok (.aload_n 0, 1) := by decide +kernel
theorem dX6_tell_49 : decode cX6_tell 49 = .ok (.iconst 2, 1) := by decide +kernel
theorem dX6_tell_50 : decode cX6_tell 50 = .ok (.invokevirtual 182, 3) := by decide +kernel
theorem dX6_tell_53 : decode cX6_tell 53 = .ok (.aload_n 0, 1) := by decide +kernel
theorem dX6_tell_54 : decode cX6_tell 54 = .ok (.iconst 1, 1) := by decide +kernel
theorem dX6_tell_55 : decode cX6_tell 55 = .ok (.invokevirtual 182, 3) := by decide +kernel
theorem dX6_tell_58 : decode cX6_tell 58 = .ok (.iload_n 2, 1) := by decide +kernel
theorem dX6_tell_59 : decode cX6_tell 59 = .ok (.bipush 100, 2) := by decide +kernel
theorem dX6_tell_61 : decode cX6_tell 61 = .ok (.iadd, 1) := by decide +kernel
theorem dX6_tell_62 : decode cX6_tell 62 = .ok (.ireturn, 1) := by decide +kernel
theorem dX6_tell_63 : decode cX6_tell 63 = .ok (.aload_n 0, 1) := by decide +kernel
theorem dX6_tell_64 : decode cX6_tell 64 = .ok (.iconst 3, 1) := by decide +kernel
theorem dX6_tell_65 : decode cX6_tell 65 = .ok (.invokevirtual 182, 3) := by decide +kernel
theorem dX6_tell_68 : decode cX6_tell 68 = .ok (.aload_n 0, 1) := by decide +kernel
theorem dX6_tell_69 : decode cX6_tell 69 = .ok (.iconst 2, 1) := by decide +kernel
theorem dX6_tell_70 : decode cX6_tell 70 = .ok (.invokevirtual 182, 3) := by decide +kernel
theorem dX6_tell_73 : decode cX6_tell 73 = .ok (.aload_n 0, 1) := by decide +kernel
theorem dX6_tell_74 : decode cX6_tell 74 = .ok (.iconst 1, 1) := by decide +kernel
theorem dX6_tell_75 : decode cX6_tell 75 = .ok (.invokevirtual 182, 3) := by decide +kernel
theorem dX6_tell_78 : decode cX6_tell 78 = .ok (.aload_n 0, 1) := by decide +kernel
theorem dX6_tell_79 : decode cX6_tell 79 = .ok (.iconst 1, 1) := by decide +kernel
theorem dX6_tell_80 : decode cX6_tell 80 = .ok (.invokevirtual 182, 3) := by decide +kernel
theorem dX6_tell_83 : decode cX6_tell 83 = .ok (.iconst 2, 1) := by decide +kernel
theorem dX6_tell_84 : decode cX6_tell 84 = .ok (.iload_n 2, 1) := by decide +kernel
theorem dX6_tell_85 : decode cX6_tell 85 = .ok (.imul, 1) := by decide +kernel
theorem dX6_tell_86 : decode cX6_tell 86 = .ok (.bipush 100, 2) := by decide +kernel
theorem dX6_tell_88 : decode cX6_tell 88 = .ok (.iadd, 1) := by decide +kernel
theorem dX6_tell_89 : decode cX6_tell 89 = .ok (.ireturn, 1) := by decide +kernel
theorem dX6_tell_90 : decode cX6_tell 90 = .ok (.aload_n 0, 1) := by decide +kernel
theorem dX6_tell_91 : decode cX6_tell 91 = .ok (.iconst 1, 1) := by decide +kernel
theorem dX6_tell_92 : decode cX6_tell 92 = .ok (.invokevirtual 182, 3) := by decide +kernel
theorem dX6_tell_95 : decode cX6_tell 95 = .ok (.iload_n 2, 1) := by decide +kernel
theorem dX6_tell_96 : decode cX6_tell 96 = .ok (.ireturn, 1) := by decide +kernel
theorem dX6_cite_0 : decode cX6_cite 0 = .ok (.aload_n 0, 1) := by decide +kernel
theorem dX6_cite_1 : decode cX6_cite 1 = .ok (.iload_n 1, 1) := by decide +kernel
theorem dX6_cite_2 : decode cX6_cite 2 = .ok (.invokevirtual 116, 3) := by decide +kernel
theorem dX6_cite_5 : decode cX6_cite 5 = .ok (.ifCond .ne 5, 3) := by decide +kernel
theorem dX6_cite_8 : decode cX6_cite 8 = .ok (.iconst (-1), 1) := by decide +kernel
theorem dX6_cite_9 : decode cX6_cite 9 = .ok (.ireturn, 1) := by decide +kernel
theorem dX6_cite_10 : decode cX6_cite 10 = .ok (.aload_n 0, 1) := by decide +kernel
theorem dX6_cite_11 : decode cX6_cite 11 = .ok (.aload_n 0, 1) := by decide +kernel
theorem dX6_cite_12 : decode cX6_cite 12 = .ok (.iload_n 1, 1) := by decide +kernel
theorem dX6_cite_13 : decode cX6_cite 13 = .ok (.invokevirtual 50, 3) := by decide +kernel
theorem dX6_cite_16 : decode cX6_cite 16 = .ok (.iconst 2, 1) := by decide +kernel
theorem dX6_cite_17 : decode cX6_cite 17 = .ok (.if_icmp .ne 7, 3) := by decide +kernel
theorem dX6_cite_20 : decode cX6_cite 20 = .ok (.iconst 5, 1) := by decide +kernel
theorem dX6_cite_21 : decode cX6_cite 21 = .ok (.goto 4, 3) := by decide +kernel
theorem dX6_cite_24 : decode cX6_cite 24 = .ok (.iconst 4, 1) := by decide +kernel
theorem dX6_cite_25 : decode cX6_cite 25 = .ok (.invokevirtual 182, 3) := by decide +kernel
theorem dX6_cite_28 : decode cX6_cite 28 = .ok (.aload_n 0, 1) := by decide +kernel
theorem dX6_cite_29 : decode cX6_cite 29 = .ok (.iload_n 1, 1) := by decide +kernel
theorem dX6_cite_30 : decode cX6_cite 30 = .ok (.invokevirtual 50, 3) := by decide +kernel
theorem dX6_cite_33 : decode cX6_cite 33 = .ok (.iconst 2, 1) := by decide +kernel
theorem dX6_cite_34 : decode cX6_cite 34 = .ok (.if_icmp .ne 8, 3) := by decide +kernel
theorem dX6_cite_37 : decode cX6_cite 37 = .ok (.bipush 60, 2) := by decide +kernel
theorem dX6_cite_39 : decode cX6_cite 39 = .ok (.goto 13, 3) := by decide +kernel
theorem dX6_cite_42 : decode cX6_cite 42 = .ok (.aload_n 0, 1) := by decide +kernel
theorem dX6_cite_43 : decode cX6_cite 43 = .ok (.getfield 19, 3) := by decide +kernel
theorem dX6_cite_46 : decode cX6_cite 46 = .ok (.iconst 5, 1) := by decide +kernel
theorem dX6_cite_47 : decode cX6_cite 47 = .ok (.iload_n 1, 1) := by decide +kernel
theorem dX6_cite_48 : decode cX6_cite 48 = .ok (.imul, 1) := by decide +kernel
theorem dX6_cite_49 : decode cX6_cite 49 = .ok (.iconst 3, 1) := by decide +kernel
theorem dX6_cite_50 : decode cX6_cite 50 = .ok (.iadd, 1) := by decide +kernel
theorem dX6_cite_51 : decode cX6_cite 51 = .ok (.iaload, 1) := by decide +kernel
theorem dX6_cite_52 : decode cX6_cite 52 = .ok (.ireturn, 1) := by decide +kernel
theorem dX6_as_0 : decode cX6_as 0 = .ok (.aload_n 0, 1) := by decide +kernel
theorem dX6_as_1 : decode cX6_as 1 = .ok (.iconst 0, 1) := by decide +kernel
theorem dX6_as_2 : decode cX6_as 2 = .ok (.putfield 37, 3) := by decide +kernel
theorem dX6_as_5 : decode cX6_as 5 = .ok (.aload_n 0, 1) := by decide +kernel
theorem dX6_as_6 : decode cX6_as 6 = .ok (.iload_n 1, 1) := by decide +kernel
theorem dX6_as_7 : decode cX6_as 7 = .ok (.invokevirtual 116, 3) := by decide +kernel
theorem dX6_as_10 : decode cX6_as 10 = .ok (.ifCond .ne 5, 3) := by decide +kernel
theorem dX6_as_13 : decode cX6_as 13 = .ok (.iconst (-1), 1) := by decide +kernel
theorem dX6_as_14 : decode cX6_as 14 = .ok (.ireturn, 1) := by decide +kernel
theorem dX6_as_15 : decode cX6_as 15 = .ok (.iload_n 2, 1) := by decide +kernel
theorem dX6_as_16 : decode cX6_as 16 = .ok (.iconst 0, 1) := by decide +kernel
theorem dX6_as_17 : decode cX6_as 17 = .ok (.iconst 2, 1) := by decide +kernel
theorem dX6_as_18 : decode cX6_as 18 = .ok (.invokestatic 43, 3) := by decide +kernel
theorem dX6_as_21 : decode cX6_as 21 = .ok (.ifCond .ne 6, 3) := by decide +kernel
theorem dX6_as_24 : decode cX6_as 24 = .ok (.bipush (-2), 2) := by decide +kernel
theorem dX6_as_26 : decode cX6_as 26 = .ok (.ireturn, 1) := by decide +kernel
theorem dX6_as_27 : decode cX6_as 27 = .ok (.aload_n 0, 1) := by decide +kernel
theorem dX6_as_28 : decode cX6_as 28 = .ok (.iload_n 1, 1) := by decide +kernel
theorem dX6_as_29 : decode cX6_as 29 = .ok (.invokevirtual 50, 3) := by decide +kernel
theorem dX6_as_32 : decode cX6_as 32 = .ok (.iload_n 2, 1) := by decide +kernel
theorem dX6_as_33 : decode cX6_as 33 = .ok (.if_icmp .lt 7, 3) := by decide +kernel
theorem dX6_as_36 : decode cX6_as 36 = .ok (.iconst 1, 1) := by decide +kernel
theorem dX6_as_37 : decode cX6_as 37 = .ok (.goto 8, 3) := by decide +kernel
theorem dX6_as_40 : decode cX6_as 40 = .ok (.aload_n 0, 1) := by decide +kernel
theorem dX6_as_41 : decode cX6_as 41 = .ok (.iconst 2, 1) := by decide +kernel
theorem dX6_as_42 : decode cX6_as 42 = .ok (.invokevirtual 68, 3) := by decide +kernel
theorem dX6_as_45 : decode cX6_as 45 = .ok (.ireturn, 1) := by decide +kernel
theorem dX6_trace_0 : decode cX6_trace 0 = .ok (.aload_n 0, 1) := by decide +kernel
theorem dX6_trace_1 : decode cX6_trace 1 = .ok (.getfield 179, 3) := by decide +kernel
theorem dX6_trace_4 : decode cX6_trace 4 = .ok (.ireturn, 1) := by decide +kernel
theorem dX6_fault_0 : decode cX6_fault 0 = .ok (.aload_n 0, 1) := by decide +kernel
theorem dX6_fault_1 : decode cX6_fault 1 = .ok (.getfield 37, 3) := by decide +kernel
theorem dX6_fault_4 : decode cX6_fault 4 = .ok (.ireturn, 1) := by decide +kernel
theorem dX6_many_0 : decode cX6_many 0 = .ok (.iload_n 1, 1) := by decide +kernel
theorem dX6_many_1 : decode cX6_many 1 = .ok (.tableswitch 42 0 2 #[27, 32, 37], 27) := by decide +kernel
theorem dX6_many_28 : decode cX6_many 28 = .ok (.aload_n 0, 1) := by decide +kernel
theorem dX6_many_29 : decode cX6_many 29 = .ok (.getfield 47, 3) := by decide +kernel
theorem dX6_many_32 : decode cX6_many 32 = .ok (.ireturn, 1) := by decide +kernel
theorem dX6_many_33 : decode cX6_many 33 = .ok (.aload_n 0, 1) := by decide +kernel
theorem dX6_many_34 : decode cX6_many 34 = .ok (.invokevirtual 156, 3) := by decide +kernel
theorem dX6_many_37 : decode cX6_many 37 = .ok (.ireturn, 1) := by decide +kernel
theorem dX6_many_38 : decode cX6_many 38 = .ok (.aload_n 0, 1) := by decide +kernel
theorem dX6_many_39 : decode cX6_many 39 = .ok (.getfield 80, 3) := by decide +kernel
end
section
theorem dX6_many_42 : decode cX6_many 42 = .ok (.ireturn, 1) := by decide +kernel
theorem dX6_many_43 : decode cX6_many 43 = .ok (.bipush (-2), 2) := by decide +kernel
theorem dX6_many_45 : decode cX6_many 45 = .ok (.ireturn, 1) := by decide +kernel
theorem dJ9_max_7cf53_0 : decode cJ9_max_7cf53 0 = .ok (.iload_n 0, 1) := by decide +kernel
theorem dJ9_max_7cf53_1 : decode cJ9_max_7cf53 1 = .ok (.iload_n 1, 1) := by decide +kernel
theorem dJ9_max_7cf53_2 : decode cJ9_max_7cf53 2 = .ok (.if_icmp .lt 7, 3) := by decide +kernel
theorem dJ9_max_7cf53_5 : decode cJ9_max_7cf53 5 = .ok (.iload_n 0, 1) := by decide +kernel
theorem dJ9_max_7cf53_6 : decode cJ9_max_7cf53 6 = .ok (.goto 4, 3) := by decide +kernel
theorem dJ9_max_7cf53_9 : decode cJ9_max_7cf53 9 = .ok (.iload_n 1, 1) := by decide +kernel
theorem dJ9_max_7cf53_10 : decode cJ9_max_7cf53 10 = .ok (.ireturn, 1) := by decide +kernel
theorem dJ9_min_7cf53_0 : decode cJ9_min_7cf53 0 = .ok (.iload_n 0, 1) := by decide +kernel
theorem dJ9_min_7cf53_1 : decode cJ9_min_7cf53 1 = .ok (.iload_n 1, 1) := by decide +kernel
theorem dJ9_min_7cf53_2 : decode cJ9_min_7cf53 2 = .ok (.if_icmp .gt 7, 3) := by decide +kernel
theorem dJ9_min_7cf53_5 : decode cJ9_min_7cf53 5 = .ok (.iload_n 0, 1) := by decide +kernel
theorem dJ9_min_7cf53_6 : decode cJ9_min_7cf53 6 = .ok (.goto 4, 3) := by decide +kernel
theorem dJ9_min_7cf53_9 : decode cJ9_min_7cf53 9 = .ok (.iload_n 1, 1) := by decide +kernel
theorem dJ9_min_7cf53_10 : decode cJ9_min_7cf53 10 = .ok (.ireturn, 1) := by decide +kernel
theorem dL_law_0 : decode cL_law 0 = .ok (.new 7, 3) := by decide +kernel
theorem dL_law_3 : decode cL_law 3 = .ok (.dup, 1) := by decide +kernel
theorem dL_law_4 : decode cL_law 4 = .ok (.invokespecial 9, 3) := by decide +kernel
theorem dL_law_7 : decode cL_law 7 = .ok (.astore_n 1, 1) := by decide +kernel
theorem dL_law_8 : decode cL_law 8 = .ok (.new 10, 3) := by decide +kernel
theorem dL_law_11 : decode cL_law 11 = .ok (.dup, 1) := by decide +kernel
theorem dL_law_12 : decode cL_law 12 = .ok (.invokespecial 12, 3) := by decide +kernel
theorem dL_law_15 : decode cL_law 15 = .ok (.astore_n 2, 1) := by decide +kernel
theorem dL_law_16 : decode cL_law 16 = .ok (.iconst 0, 1) := by decide +kernel
theorem dL_law_17 : decode cL_law 17 = .ok (.istore_n 3, 1) := by decide +kernel
theorem dL_law_18 : decode cL_law 18 = .ok (.iload_n 3, 1) := by decide +kernel
theorem dL_law_19 : decode cL_law 19 = .ok (.aload_n 0, 1) := by decide +kernel
theorem dL_law_20 : decode cL_law 20 = .ok (.arraylength, 1) := by decide +kernel
theorem dL_law_21 : decode cL_law 21 = .ok (.bipush 7, 2) := by decide +kernel
theorem dL_law_23 : decode cL_law 23 = .ok (.isub, 1) := by decide +kernel
theorem dL_law_24 : decode cL_law 24 = .ok (.if_icmp .gt 1033, 3) := by decide +kernel
theorem dL_law_27 : decode cL_law 27 = .ok (.aload_n 0, 1) := by decide +kernel
theorem dL_law_28 : decode cL_law 28 = .ok (.iload_n 3, 1) := by decide +kernel
theorem dL_law_29 : decode cL_law 29 = .ok (.iaload, 1) := by decide +kernel
theorem dL_law_30 : decode cL_law 30 = .ok (.bipush 31, 2) := by decide +kernel
theorem dL_law_32 : decode cL_law 32 = .ok (.iand, 1) := by decide +kernel
theorem dL_law_33 : decode cL_law 33 = .ok (.tableswitch 1018 0 26 #[123, 176, 209, 242, 317, 340, 363, 386, 419, 482, 515, 538, 571, 594, 617, 640, 674, 717, 740, 783, 827, 890, 913, 936, 969, 982, 995], 123) := by decide +kernel
theorem dL_law_156 : decode cL_law 156 = .ok (.aload_n 1, 1) := by decide +kernel
theorem dL_law_157 : decode cL_law 157 = .ok (.aload_n 0, 1) := by decide +kernel
theorem dL_law_158 : decode cL_law 158 = .ok (.iload_n 3, 1) := by decide +kernel
theorem dL_law_159 : decode cL_law 159 = .ok (.iconst 1, 1) := by decide +kernel
theorem dL_law_160 : decode cL_law 160 = .ok (.iadd, 1) := by decide +kernel
theorem dL_law_161 : decode cL_law 161 = .ok (.iaload, 1) := by decide +kernel
theorem dL_law_162 : decode cL_law 162 = .ok (.aload_n 0, 1) := by decide +kernel
theorem dL_law_163 : decode cL_law 163 = .ok (.iload_n 3, 1) := by decide +kernel
theorem dL_law_164 : decode cL_law 164 = .ok (.iconst 2, 1) := by decide +kernel
theorem dL_law_165 : decode cL_law 165 = .ok (.iadd, 1) := by decide +kernel
theorem dL_law_166 : decode cL_law 166 = .ok (.iaload, 1) := by decide +kernel
theorem dL_law_167 : decode cL_law 167 = .ok (.aload_n 0, 1) := by decide +kernel
theorem dL_law_168 : decode cL_law 168 = .ok (.iload_n 3, 1) := by decide +kernel
theorem dL_law_169 : decode cL_law 169 = .ok (.iconst 3, 1) := by decide +kernel
theorem dL_law_170 : decode cL_law 170 = .ok (.iadd, 1) := by decide +kernel
theorem dL_law_171 : decode cL_law 171 = .ok (.iaload, 1) := by decide +kernel
theorem dL_law_172 : decode cL_law 172 = .ok (.aload_n 0, 1) := by decide +kernel
theorem dL_law_173 : decode cL_law 173 = .ok (.iload_n 3, 1) := by decide +kernel
theorem dL_law_174 : decode cL_law 174 = .ok (.iconst 4, 1) := by decide +kernel
theorem dL_law_175 : decode cL_law 175 = .ok (.iadd, 1) := by decide +kernel
theorem dL_law_176 : decode cL_law 176 = .ok (.iaload, 1) := by decide +kernel
theorem dL_law_177 : decode cL_law 177 = .ok (.invokevirtual 13, 3) := by decide +kernel
theorem dL_law_180 : decode cL_law 180 = .ok (.aload_n 2, 1) := by decide +kernel
theorem dL_law_181 : decode cL_law 181 = .ok (.aload_n 0, 1) := by decide +kernel
theorem dL_law_182 : decode cL_law 182 = .ok (.iload_n 3, 1) := by decide +kernel
theorem dL_law_183 : decode cL_law 183 = .ok (.iconst 1, 1) := by decide +kernel
theorem dL_law_184 : decode cL_law 184 = .ok (.iadd, 1) := by decide +kernel
theorem dL_law_185 : decode cL_law 185 = .ok (.iaload, 1) := by decide +kernel
theorem dL_law_186 : decode cL_law 186 = .ok (.aload_n 0, 1) := by decide +kernel
theorem dL_law_187 : decode cL_law 187 = .ok (.iload_n 3, 1) := by decide +kernel
theorem dL_law_188 : decode cL_law 188 = .ok (.iconst 2, 1) := by decide +kernel
theorem dL_law_189 : decode cL_law 189 = .ok (.iadd, 1) := by decide +kernel
theorem dL_law_190 : decode cL_law 190 = .ok (.iaload, 1) := by decide +kernel
theorem dL_law_191 : decode cL_law 191 = .ok (.aload_n 0, 1) := by decide +kernel
theorem dL_law_192 : decode cL_law 192 = .ok (.iload_n 3, 1) := by decide +kernel
theorem dL_law_193 : decode cL_law 193 = .ok (.iconst 3, 1) := by decide +kernel
theorem dL_law_194 : decode cL_law 194 = .ok (.iadd, 1) := by decide +kernel
theorem dL_law_195 : decode cL_law 195 = .ok (.iaload, 1) := by decide +kernel
theorem dL_law_196 : decode cL_law 196 = .ok (.aload_n 0, 1) := by decide +kernel
theorem dL_law_197 : decode cL_law 197 = .ok (.iload_n 3, 1) := by decide +kernel
theorem dL_law_198 : decode cL_law 198 = .ok (.iconst 4, 1) := by decide +kernel
theorem dL_law_199 : decode cL_law 199 = .ok (.iadd, 1) := by decide +kernel
theorem dL_law_200 : decode cL_law 200 = .ok (.iaload, 1) := by decide +kernel
theorem dL_law_201 : decode cL_law 201 = .ok (.invokevirtual 17, 3) := by decide +kernel
theorem dL_law_204 : decode cL_law 204 = .ok (.if_icmp .eq 847, 3) := by decide +kernel
theorem dL_law_207 : decode cL_law 207 = .ok (.iconst 0, 1) := by decide +kernel
theorem dL_law_208 : decode cL_law 208 = .ok (.ireturn, 1) := by decide +kernel
theorem dL_law_209 : decode cL_law 209 = .ok (.aload_n 1, 1) := by decide +kernel
theorem dL_law_210 : decode cL_law 210 = .ok (.aload_n 0, 1) := by decide +kernel
theorem dL_law_211 : decode cL_law 211 = .ok (.iload_n 3, 1) := by decide +kernel
theorem dL_law_212 : decode cL_law 212 = .ok (.iconst 1, 1) := by decide +kernel
theorem dL_law_213 : decode cL_law 213 = .ok (.iadd, 1) := by decide +kernel
theorem dL_law_214 : decode cL_law 214 = .ok (.iaload, 1) := by decide +kernel
theorem dL_law_215 : decode cL_law 215 = .ok (.aload_n 0, 1) := by decide +kernel
theorem dL_law_216 : decode cL_law 216 = .ok (.iload_n 3, 1) := by decide +kernel
theorem dL_law_217 : decode cL_law 217 = .ok (.iconst 2, 1) := by decide +kernel
theorem dL_law_218 : decode cL_law 218 = .ok (.iadd, 1) := by decide +kernel
theorem dL_law_219 : decode cL_law 219 = .ok (.iaload, 1) := by decide +kernel
theorem dL_law_220 : decode cL_law 220 = .ok (.invokevirtual 18, 3) := by decide +kernel
theorem dL_law_223 : decode cL_law 223 = .ok (.aload_n 2, 1) := by decide +kernel
theorem dL_law_224 : decode cL_law 224 = .ok (.aload_n 0, 1) := by decide +kernel
theorem dL_law_225 : decode cL_law 225 = .ok (.iload_n 3, 1) := by decide +kernel
theorem dL_law_226 : decode cL_law 226 = .ok (.iconst 1, 1) := by decide +kernel
theorem dL_law_227 : decode cL_law 227 = .ok (.iadd, 1) := by decide +kernel
theorem dL_law_228 : decode cL_law 228 = .ok (.iaload, 1) := by decide +kernel
theorem dL_law_229 : decode cL_law 229 = .ok (.aload_n 0, 1) := by decide +kernel
theorem dL_law_230 : decode cL_law 230 = .ok (.iload_n 3, 1) := by decide +kernel
theorem dL_law_231 : decode cL_law 231 = .ok (.iconst 2, 1) := by decide +kernel
theorem dL_law_232 : decode cL_law 232 = .ok (.iadd, 1) := by decide +kernel
theorem dL_law_233 : decode cL_law 233 = .ok (.iaload, 1) := by decide +kernel
theorem dL_law_234 : decode cL_law 234 = .ok (.invokevirtual 22, 3) := by decide +kernel
theorem dL_law_237 : decode cL_law 237 = .ok (.if_icmp .eq 814, 3) := by decide +kernel
theorem dL_law_240 : decode cL_law 240 = .ok (.iconst 0, 1) := by decide +kernel
theorem dL_law_241 : decode cL_law 241 = .ok (.ireturn, 1) := by decide +kernel
theorem dL_law_242 : decode cL_law 242 = .ok (.aload_n 1, 1) := by decide +kernel
theorem dL_law_243 : decode cL_law 243 = .ok (.aload_n 0, 1) := by decide +kernel
theorem dL_law_244 : decode cL_law 244 = .ok (.iload_n 3, 1) := by decide +kernel
theorem dL_law_245 : decode cL_law 245 = .ok (.iconst 1, 1) := by decide +kernel
theorem dL_law_246 : decode cL_law 246 = .ok (.iadd, 1) := by decide +kernel
theorem dL_law_247 : decode cL_law 247 = .ok (.iaload, 1) := by decide +kernel
theorem dL_law_248 : decode cL_law 248 = .ok (.aload_n 0, 1) := by decide +kernel
theorem dL_law_249 : decode cL_law 249 = .ok (.iload_n 3, 1) := by decide +kernel
theorem dL_law_250 : decode cL_law 250 = .ok (.iconst 2, 1) := by decide +kernel
theorem dL_law_251 : decode cL_law 251 = .ok (.iadd, 1) := by decide +kernel
theorem dL_law_252 : decode cL_law 252 = .ok (.iaload, 1) := by decide +kernel
theorem dL_law_253 : decode cL_law 253 = .ok (.invokevirtual 23, 3) := by decide +kernel
theorem dL_law_256 : decode cL_law 256 = .ok (.aload_n 2, 1) := by decide +kernel
theorem dL_law_257 : decode cL_law 257 = .ok (.aload_n 0, 1) := by decide +kernel
theorem dL_law_258 : decode cL_law 258 = .ok (.iload_n 3, 1) := by decide +kernel
theorem dL_law_259 : decode cL_law 259 = .ok (.iconst 1, 1) := by decide +kernel
theorem dL_law_260 : decode cL_law 260 = .ok (.iadd, 1) := by decide +kernel
theorem dL_law_261 : decode cL_law 261 = .ok (.iaload, 1) := by decide +kernel
theorem dL_law_262 : decode cL_law 262 = .ok (.aload_n 0, 1) := by decide +kernel
theorem dL_law_263 : decode cL_law 263 = .ok (.iload_n 3, 1) := by decide +kernel
theorem dL_law_264 : decode cL_law 264 = .ok (.iconst 2, 1) := by decide +kernel
theorem dL_law_265 : decode cL_law 265 = .ok (.iadd, 1) := by decide +kernel
theorem dL_law_266 : decode cL_law 266 = .ok (.iaload, 1) := by decide +kernel
theorem dL_law_267 : decode cL_law 267 = .ok (.invokevirtual 26, 3) := by decide +kernel
theorem dL_law_270 : decode cL_law 270 = .ok (.if_icmp .eq 781, 3) := by decide +kernel
theorem dL_law_273 : decode cL_law 273 = .ok (.iconst 0, 1) := by decide +kernel
theorem dL_law_274 : decode cL_law 274 = .ok (.ireturn, 1) := by decide +kernel
theorem dL_law_275 : decode cL_law 275 = .ok (.aload_n 1, 1) := by decide +kernel
theorem dL_law_276 : decode cL_law 276 = .ok (.aload_n 0, 1) := by decide +kernel
theorem dL_law_277 : decode cL_law 277 = .ok (.iload_n 3, 1) := by decide +kernel
theorem dL_law_278 : decode cL_law 278 = .ok (.iconst 1, 1) := by decide +kernel
theorem dL_law_279 : decode cL_law 279 = .ok (.iadd, 1) := by decide +kernel
theorem dL_law_280 : decode cL_law 280 = .ok (.iaload, 1) := by decide +kernel
theorem dL_law_281 : decode cL_law 281 = .ok (.aload_n 0, 1) := by decide +kernel
theorem dL_law_282 : decode cL_law 282 = .ok (.iload_n 3, 1) := by decide +kernel
theorem dL_law_283 : decode cL_law 283 = .ok (.iconst 2, 1) := by decide +kernel
theorem dL_law_284 : decode cL_law 284 = .ok (.iadd, 1) := by decide +kernel
theorem dL_law_285 : decode cL_law 285 = .ok (.iaload, 1) := by decide +kernel
theorem dL_law_286 : decode cL_law 286 = .ok (.aload_n 0, 1) := by decide +kernel
theorem dL_law_287 : decode cL_law 287 = .ok (.iload_n 3, 1) := by decide +kernel
theorem dL_law_288 : decode cL_law 288 = .ok (.iconst 3, 1) := by decide +kernel
theorem dL_law_289 : decode cL_law 289 = .ok (.iadd, 1) := by decide +kernel
theorem dL_law_290 : decode cL_law 290 = .ok (.iaload, 1) := by decide +kernel
theorem dL_law_291 : decode cL_law 291 = .ok (.aload_n 0, 1) := by decide +kernel
theorem dL_law_292 : decode cL_law 292 = .ok (.iload_n 3, 1) := by decide +kernel
theorem dL_law_293 : decode cL_law 293 = .ok (.iconst 4, 1) := by decide +kernel
theorem dL_law_294 : decode cL_law 294 = .ok (.iadd, 1) := by decide +kernel
theorem dL_law_295 : decode cL_law 295 = .ok (.iaload, 1) := by decide +kernel
theorem dL_law_296 : decode cL_law 296 = .ok (.aload_n 0, 1) := by decide +kernel
theorem dL_law_297 : decode cL_law 297 = .ok (.iload_n 3, 1) := by decide +kernel
theorem dL_law_298 : decode cL_law 298 = .ok (.iconst 5, 1) := by decide +kernel
theorem dL_law_299 : decode cL_law 299 = .ok (.iadd, 1) := by decide +kernel
theorem dL_law_300 : decode cL_law 300 = .ok (.iaload, 1) := by decide +kernel
theorem dL_law_301 : decode cL_law 301 = .ok (.aload_n 0, 1) := by decide +kernel
theorem dL_law_302 : decode cL_law 302 = .ok (.iload_n 3, 1) := by decide +kernel
theorem dL_law_303 : decode cL_law 303 = .ok (.bipush 6, 2) := by decide +kernel
theorem dL_law_305 : decode cL_law 305 = .ok (.iadd, 1) := by decide +kernel
theorem dL_law_306 : decode cL_law 306 = .ok (.iaload, 1) := by decide +kernel
theorem dL_law_307 : decode cL_law 307 = .ok (.invokevirtual 27, 3) := by decide +kernel
theorem dL_law_310 : decode cL_law 310 = .ok (.aload_n 2, 1) := by decide +kernel
theorem dL_law_311 : decode cL_law 311 = .ok (.aload_n 0, 1) := by decide +kernel
theorem dL_law_312 : decode cL_law 312 = .ok (.iload_n 3, 1) := by decide +kernel
theorem dL_law_313 : decode cL_law 313 = .ok (.iconst 1, 1) := by decide +kernel
theorem dL_law_314 : decode cL_law 314 = .ok (.iadd, 1) := by decide +kernel
theorem dL_law_315 : decode cL_law 315 = .ok (.iaload, 1) := by decide +kernel
theorem dL_law_316 : decode cL_law 316 = .ok (.aload_n 0, 1) := by decide +kernel
theorem dL_law_317 : decode cL_law 317 = .ok (.iload_n 3, 1) := by decide +kernel
theorem dL_law_318 : decode cL_law 318 = .ok (.iconst 2, 1) := by decide +kernel
theorem dL_law_319 : decode cL_law 319 = .ok (.iadd, 1) := by decide +kernel
theorem dL_law_320 : decode cL_law 320 = .ok (.iaload, 1) := by decide +kernel
theorem dL_law_321 : decode cL_law 321 = .ok (.aload_n 0, 1) := by decide +kernel
theorem dL_law_322 : decode cL_law 322 = .ok (.iload_n 3, 1) := by decide +kernel
theorem dL_law_323 : decode cL_law 323 = .ok (.iconst 3, 1) := by decide +kernel
theorem dL_law_324 : decode cL_law 324 = .ok (.iadd, 1) := by decide +kernel
theorem dL_law_325 : decode cL_law 325 = .ok (.iaload, 1) := by decide +kernel
theorem dL_law_326 : decode cL_law 326 = .ok (.aload_n 0, 1) := by decide +kernel
theorem dL_law_327 : decode cL_law 327 = .ok (.iload_n 3, 1) := by decide +kernel
theorem dL_law_328 : decode cL_law 328 = .ok (.iconst 4, 1) := by decide +kernel
theorem dL_law_329 : decode cL_law 329 = .ok (.iadd, 1) := by decide +kernel
theorem dL_law_330 : decode cL_law 330 = .ok (.iaload, 1) := by decide +kernel
theorem dL_law_331 : decode cL_law 331 = .ok (.aload_n 0, 1) := by decide +kernel
theorem dL_law_332 : decode cL_law 332 = .ok (.iload_n 3, 1) := by decide +kernel
theorem dL_law_333 : decode cL_law 333 = .ok (.iconst 5, 1) := by decide +kernel
theorem dL_law_334 : decode cL_law 334 = .ok (.iadd, 1) := by decide +kernel
theorem dL_law_335 : decode cL_law 335 = .ok (.iaload, 1) := by decide +kernel
theorem dL_law_336 : decode cL_law 336 = .ok (.aload_n 0, 1) := by decide +kernel
theorem dL_law_337 : decode cL_law 337 = .ok (.iload_n 3, 1) := by decide +kernel
theorem dL_law_338 : decode cL_law 338 = .ok (.bipush 6, 2) := by decide +kernel
theorem dL_law_340 : decode cL_law 340 = .ok (.iadd, 1) := by decide +kernel
theorem dL_law_341 : decode cL_law 341 = .ok (.iaload, 1) := by decide +kernel
theorem dL_law_342 : decode cL_law 342 = .ok (.invokevirtual 31, 3) := by decide +kernel
theorem dL_law_345 : decode cL_law 345 = .ok (.if_icmp .eq 706, 3) := by decide +kernel
theorem dL_law_348 : decode cL_law 348 = .ok (.iconst 0, 1) := by decide +kernel
theorem dL_law_349 : decode cL_law 349 = .ok (.ireturn, 1) := by decide +kernel
theorem dL_law_350 : decode cL_law 350 = .ok (.aload_n 1, 1) := by decide +kernel
theorem dL_law_351 : decode cL_law 351 = .ok (.aload_n 0, 1) := by decide +kernel
theorem dL_law_352 : decode cL_law 352 = .ok (.iload_n 3, 1) := by decide +kernel
theorem dL_law_353 : decode cL_law 353 = .ok (.iconst 1, 1) := by decide +kernel
theorem dL_law_354 : decode cL_law 354 = .ok (.iadd, 1) := by decide +kernel
theorem dL_law_355 : decode cL_law 355 = .ok (.iaload, 1) := by decide +kernel
theorem dL_law_356 : decode cL_law 356 = .ok (.invokevirtual 32, 3) := by decide +kernel
theorem dL_law_359 : decode cL_law 359 = .ok (.aload_n 2, 1) := by decide +kernel
theorem dL_law_360 : decode cL_law 360 = .ok (.aload_n 0, 1) := by decide +kernel
theorem dL_law_361 : decode cL_law 361 = .ok (.iload_n 3, 1) := by decide +kernel
theorem dL_law_362 : decode cL_law 362 = .ok (.iconst 1, 1) := by decide +kernel
theorem dL_law_363 : decode cL_law 363 = .ok (.iadd, 1) := by decide +kernel
theorem dL_law_364 : decode cL_law 364 = .ok (.iaload, 1) := by decide +kernel
theorem dL_law_365 : decode cL_law 365 = .ok (.invokevirtual 36, 3) := by decide +kernel
theorem dL_law_368 : decode cL_law 368 = .ok (.if_icmp .eq 683, 3) := by decide +kernel
theorem dL_law_371 : decode cL_law 371 = .ok (.iconst 0, 1) := by decide +kernel
theorem dL_law_372 : decode cL_law 372 = .ok (.ireturn, 1) := by decide +kernel
theorem dL_law_373 : decode cL_law 373 = .ok (.aload_n 1, 1) := by decide +kernel
theorem dL_law_374 : decode cL_law 374 = .ok (.aload_n 0, 1) := by decide +kernel
theorem dL_law_375 : decode cL_law 375 = .ok (.iload_n 3, 1) := by decide +kernel
theorem dL_law_376 : decode cL_law 376 = .ok (.iconst 1, 1) := by decide +kernel
theorem dL_law_377 : decode cL_law 377 = .ok (.iadd, 1) := by decide +kernel
theorem dL_law_378 : decode cL_law 378 = .ok (.iaload, 1) := by decide +kernel
theorem dL_law_379 : decode cL_law 379 = .ok (.invokevirtual 37, 3) := by decide +kernel
theorem dL_law_382 : decode cL_law 382 = .ok (.aload_n 2, 1) := by decide +kernel
theorem dL_law_383 : decode cL_law 383 = .ok (.aload_n 0, 1) := by decide +kernel
theorem dL_law_384 : decode cL_law 384 = .ok (.iload_n 3, 1) := by decide +kernel
theorem dL_law_385 : decode cL_law 385 = .ok (.iconst 1, 1) := by decide +kernel
theorem dL_law_386 : decode cL_law 386 = .ok (.iadd, 1) := by decide +kernel
theorem dL_law_387 : decode cL_law 387 = .ok (.iaload, 1) := by decide +kernel
theorem dL_law_388 : decode cL_law 388 = .ok (.invokevirtual 40, 3) := by decide +kernel
theorem dL_law_391 : decode cL_law 391 = .ok (.if_icmp .eq 660, 3) := by decide +kernel
theorem dL_law_394 : decode cL_law 394 = .ok (.iconst 0, 1) := by decide +kernel
theorem dL_law_395 : decode cL_law 395 = .ok (.ireturn, 1) := by decide +kernel
theorem dL_law_396 : decode cL_law 396 = .ok (.aload_n 1, 1) := by decide +kernel
theorem dL_law_397 : decode cL_law 397 = .ok (.aload_n 0, 1) := by decide +kernel
theorem dL_law_398 : decode cL_law 398 = .ok (.iload_n 3, 1) := by decide +kernel
theorem dL_law_399 : decode cL_law 399 = .ok (.iconst 1, 1) := by decide +kernel
theorem dL_law_400 : decode cL_law 400 = .ok (.iadd, 1) := by decide +kernel
theorem dL_law_401 : decode cL_law 401 = .ok (.iaload, 1) := by decide +kernel
theorem dL_law_402 : decode cL_law 402 = .ok (.invokevirtual 41, 3) := by decide +kernel
theorem dL_law_405 : decode cL_law 405 = .ok (.aload_n 2, 1) := by decide +kernel
theorem dL_law_406 : decode cL_law 406 = .ok (.aload_n 0, 1) := by decide +kernel
theorem dL_law_407 : decode cL_law 407 = .ok (.iload_n 3, 1) := by decide +kernel
theorem dL_law_408 : decode cL_law 408 = .ok (.iconst 1, 1) := by decide +kernel
theorem dL_law_409 : decode cL_law 409 = .ok (.iadd, 1) := by decide +kernel
theorem dL_law_410 : decode cL_law 410 = .ok (.iaload, 1) := by decide +kernel
theorem dL_law_411 : decode cL_law 411 = .ok (.invokevirtual 44, 3) := by decide +kernel
theorem dL_law_414 : decode cL_law 414 = .ok (.if_icmp .eq 637, 3) := by decide +kernel
theorem dL_law_417 : decode cL_law 417 = .ok (.iconst 0, 1) := by decide +kernel
theorem dL_law_418 : decode cL_law 418 = .ok (.ireturn, 1) := by decide +kernel
theorem dL_law_419 : decode cL_law 419 = .ok (.aload_n 1, 1) := by decide +kernel
theorem dL_law_420 : decode cL_law 420 = .ok (.aload_n 0, 1) := by decide +kernel
theorem dL_law_421 : decode cL_law 421 = .ok (.iload_n 3, 1) := by decide +kernel
theorem dL_law_422 : decode cL_law 422 = .ok (.iconst 1, 1) := by decide +kernel
theorem dL_law_423 : decode cL_law 423 = .ok (.iadd, 1) := by decide +kernel
theorem dL_law_424 : decode cL_law 424 = .ok (.iaload, 1) := by decide +kernel
theorem dL_law_425 : decode cL_law 425 = .ok (.aload_n 0, 1) := by decide +kernel
theorem dL_law_426 : decode cL_law 426 = .ok (.iload_n 3, 1) := by decide +kernel
theorem dL_law_427 : decode cL_law 427 = .ok (.iconst 2, 1) := by decide +kernel
theorem dL_law_428 : decode cL_law 428 = .ok (.iadd, 1) := by decide +kernel
theorem dL_law_429 : decode cL_law 429 = .ok (.iaload, 1) := by decide +kernel
theorem dL_law_430 : decode cL_law 430 = .ok (.invokevirtual 45, 3) := by decide +kernel
theorem dL_law_433 : decode cL_law 433 = .ok (.aload_n 2, 1) := by decide +kernel
theorem dL_law_434 : decode cL_law 434 = .ok (.aload_n 0, 1) := by decide +kernel
theorem dL_law_435 : decode cL_law 435 = .ok (.iload_n 3, 1) := by decide +kernel
theorem dL_law_436 : decode cL_law 436 = .ok (.iconst 1, 1) := by decide +kernel
theorem dL_law_437 : decode cL_law 437 = .ok (.iadd, 1) := by decide +kernel
theorem dL_law_438 : decode cL_law 438 = .ok (.iaload, 1) := by decide +kernel
theorem dL_law_439 : decode cL_law 439 = .ok (.aload_n 0, 1) := by decide +kernel
theorem dL_law_440 : decode cL_law 440 = .ok (.iload_n 3, 1) := by decide +kernel
theorem dL_law_441 : decode cL_law 441 = .ok (.iconst 2, 1) := by decide +kernel
theorem dL_law_442 : decode cL_law 442 = .ok (.iadd, 1) := by decide +kernel
theorem dL_law_443 : decode cL_law 443 = .ok (.iaload, 1) := by decide +kernel
theorem dL_law_444 : decode cL_law 444 = .ok (.invokevirtual 48, 3) := by decide +kernel
theorem dL_law_447 : decode cL_law 447 = .ok (.if_icmp .eq 604, 3) := by decide +kernel
theorem dL_law_450 : decode cL_law 450 = .ok (.iconst 0, 1) := by decide +kernel
theorem dL_law_451 : decode cL_law 451 = .ok (.ireturn, 1) := by decide +kernel
theorem dL_law_452 : decode cL_law 452 = .ok (.aload_n 1, 1) := by decide +kernel
theorem dL_law_453 : decode cL_law 453 = .ok (.aload_n 0, 1) := by decide +kernel
theorem dL_law_454 : decode cL_law 454 = .ok (.iload_n 3, 1) := by decide +kernel
theorem dL_law_455 : decode cL_law 455 = .ok (.iconst 1, 1) := by decide +kernel
theorem dL_law_456 : decode cL_law 456 = .ok (.iadd, 1) := by decide +kernel
theorem dL_law_457 : decode cL_law 457 = .ok (.iaload, 1) := by decide +kernel
theorem dL_law_458 : decode cL_law 458 = .ok (.aload_n 0, 1) := by decide +kernel
theorem dL_law_459 : decode cL_law 459 = .ok (.iload_n 3, 1) := by decide +kernel
theorem dL_law_460 : decode cL_law 460 = .ok (.iconst 2, 1) := by decide +kernel
theorem dL_law_461 : decode cL_law 461 = .ok (.iadd, 1) := by decide +kernel
theorem dL_law_462 : decode cL_law 462 = .ok (.iaload, 1) := by decide +kernel
theorem dL_law_463 : decode cL_law 463 = .ok (.aload_n 0, 1) := by decide +kernel
theorem dL_law_464 : decode cL_law 464 = .ok (.iload_n 3, 1) := by decide +kernel
theorem dL_law_465 : decode cL_law 465 = .ok (.iconst 3, 1) := by decide +kernel
theorem dL_law_466 : decode cL_law 466 = .ok (.iadd, 1) := by decide +kernel
theorem dL_law_467 : decode cL_law 467 = .ok (.iaload, 1) := by decide +kernel
theorem dL_law_468 : decode cL_law 468 = .ok (.aload_n 0, 1) := by decide +kernel
theorem dL_law_469 : decode cL_law 469 = .ok (.iload_n 3, 1) := by decide +kernel
theorem dL_law_470 : decode cL_law 470 = .ok (.iconst 4, 1) := by decide +kernel
theorem dL_law_471 : decode cL_law 471 = .ok (.iadd, 1) := by decide +kernel
theorem dL_law_472 : decode cL_law 472 = .ok (.iaload, 1) := by decide +kernel
theorem dL_law_473 : decode cL_law 473 = .ok (.aload_n 0, 1) := by decide +kernel
theorem dL_law_474 : decode cL_law 474 = .ok (.iload_n 3, 1) := by decide +kernel
theorem dL_law_475 : decode cL_law 475 = .ok (.iconst 5, 1) := by decide +kernel
theorem dL_law_476 : decode cL_law 476 = .ok (.iadd, 1) := by decide +kernel
theorem dL_law_477 : decode cL_law 477 = .ok (.iaload, 1) := by decide +kernel
theorem dL_law_478 : decode cL_law 478 = .ok (.invokevirtual 49, 3) := by decide +kernel
theorem dL_law_481 : decode cL_law 481 = .ok (.aload_n 2, 1) := by decide +kernel
theorem dL_law_482 : decode cL_law 482 = .ok (.aload_n 0, 1) := by decide +kernel
theorem dL_law_483 : decode cL_law 483 = .ok (.iload_n 3, 1) := by decide +kernel
theorem dL_law_484 : decode cL_law 484 = .ok (.iconst 1, 1) := by decide +kernel
theorem dL_law_485 : decode cL_law 485 = .ok (.iadd, 1) := by decide +kernel
theorem dL_law_486 : decode cL_law 486 = .ok (.iaload, 1) := by decide +kernel
theorem dL_law_487 : decode cL_law 487 = .ok (.aload_n 0, 1) := by decide +kernel
theorem dL_law_488 : decode cL_law 488 = .ok (.iload_n 3, 1) := by decide +kernel
theorem dL_law_489 : decode cL_law 489 = .ok (.iconst 2, 1) := by decide +kernel
theorem dL_law_490 : decode cL_law 490 = .ok (.iadd, 1) := by decide +kernel
theorem dL_law_491 : decode cL_law 491 = .ok (.iaload, 1) := by decide +kernel
theorem dL_law_492 : decode cL_law 492 = .ok (.aload_n 0, 1) := by decide +kernel
theorem dL_law_493 : decode cL_law 493 = .ok (.iload_n 3, 1) := by decide +kernel
theorem dL_law_494 : decode cL_law 494 = .ok (.iconst 3, 1) := by decide +kernel
theorem dL_law_495 : decode cL_law 495 = .ok (.iadd, 1) := by decide +kernel
theorem dL_law_496 : decode cL_law 496 = .ok (.iaload, 1) := by decide +kernel
theorem dL_law_497 : decode cL_law 497 = .ok (.aload_n 0, 1) := by decide +kernel
theorem dL_law_498 : decode cL_law 498 = .ok (.iload_n 3, 1) := by decide +kernel
theorem dL_law_499 : decode cL_law 499 = .ok (.iconst 4, 1) := by decide +kernel
theorem dL_law_500 : decode cL_law 500 = .ok (.iadd, 1) := by decide +kernel
theorem dL_law_501 : decode cL_law 501 = .ok (.iaload, 1) := by decide +kernel
theorem dL_law_502 : decode cL_law 502 = .ok (.aload_n 0, 1) := by decide +kernel
theorem dL_law_503 : decode cL_law 503 = .ok (.iload_n 3, 1) := by decide +kernel
theorem dL_law_504 : decode cL_law 504 = .ok (.iconst 5, 1) := by decide +kernel
theorem dL_law_505 : decode cL_law 505 = .ok (.iadd, 1) := by decide +kernel
theorem dL_law_506 : decode cL_law 506 = .ok (.iaload, 1) := by decide +kernel
theorem dL_law_507 : decode cL_law 507 = .ok (.invokevirtual 53, 3) := by decide +kernel
theorem dL_law_510 : decode cL_law 510 = .ok (.if_icmp .eq 541, 3) := by decide +kernel
theorem dL_law_513 : decode cL_law 513 = .ok (.iconst 0, 1) := by decide +kernel
theorem dL_law_514 : decode cL_law 514 = .ok (.ireturn, 1) := by decide +kernel
theorem dL_law_515 : decode cL_law 515 = .ok (.aload_n 1, 1) := by decide +kernel
theorem dL_law_516 : decode cL_law 516 = .ok (.aload_n 0, 1) := by decide +kernel
theorem dL_law_517 : decode cL_law 517 = .ok (.iload_n 3, 1) := by decide +kernel
theorem dL_law_518 : decode cL_law 518 = .ok (.iconst 1, 1) := by decide +kernel
theorem dL_law_519 : decode cL_law 519 = .ok (.iadd, 1) := by decide +kernel
theorem dL_law_520 : decode cL_law 520 = .ok (.iaload, 1) := by decide +kernel
theorem dL_law_521 : decode cL_law 521 = .ok (.aload_n 0, 1) := by decide +kernel
theorem dL_law_522 : decode cL_law 522 = .ok (.iload_n 3, 1) := by decide +kernel
theorem dL_law_523 : decode cL_law 523 = .ok (.iconst 2, 1) := by decide +kernel
theorem dL_law_524 : decode cL_law 524 = .ok (.iadd, 1) := by decide +kernel
theorem dL_law_525 : decode cL_law 525 = .ok (.iaload, 1) := by decide +kernel
theorem dL_law_526 : decode cL_law 526 = .ok (.invokevirtual 54, 3) := by decide +kernel
theorem dL_law_529 : decode cL_law 529 = .ok (.aload_n 2, 1) := by decide +kernel
theorem dL_law_530 : decode cL_law 530 = .ok (.aload_n 0, 1) := by decide +kernel
theorem dL_law_531 : decode cL_law 531 = .ok (.iload_n 3, 1) := by decide +kernel
theorem dL_law_532 : decode cL_law 532 = .ok (.iconst 1, 1) := by decide +kernel
theorem dL_law_533 : decode cL_law 533 = .ok (.iadd, 1) := by decide +kernel
theorem dL_law_534 : decode cL_law 534 = .ok (.iaload, 1) := by decide +kernel
theorem dL_law_535 : decode cL_law 535 = .ok (.aload_n 0, 1) := by decide +kernel
theorem dL_law_536 : decode cL_law 536 = .ok (.iload_n 3, 1) := by decide +kernel
theorem dL_law_537 : decode cL_law 537 = .ok (.iconst 2, 1) := by decide +kernel
theorem dL_law_538 : decode cL_law 538 = .ok (.iadd, 1) := by decide +kernel
theorem dL_law_539 : decode cL_law 539 = .ok (.iaload, 1) := by decide +kernel
theorem dL_law_540 : decode cL_law 540 = .ok (.invokevirtual 57, 3) := by decide +kernel
theorem dL_law_543 : decode cL_law 543 = .ok (.if_icmp .eq 508, 3) := by decide +kernel
theorem dL_law_546 : decode cL_law 546 = .ok (.iconst 0, 1) := by decide +kernel
theorem dL_law_547 : decode cL_law 547 = .ok (.ireturn, 1) := by decide +kernel
theorem dL_law_548 : decode cL_law 548 = .ok (.aload_n 1, 1) := by decide +kernel
theorem dL_law_549 : decode cL_law 549 = .ok (.aload_n 0, 1) := by decide +kernel
theorem dL_law_550 : decode cL_law 550 = .ok (.iload_n 3, 1) := by decide +kernel
theorem dL_law_551 : decode cL_law 551 = .ok (.iconst 1, 1) := by decide +kernel
theorem dL_law_552 : decode cL_law 552 = .ok (.iadd, 1) := by decide +kernel
theorem dL_law_553 : decode cL_law 553 = .ok (.iaload, 1) := by decide +kernel
theorem dL_law_554 : decode cL_law 554 = .ok (.invokevirtual 58, 3) := by decide +kernel
theorem dL_law_557 : decode cL_law 557 = .ok (.aload_n 2, 1) := by decide +kernel
theorem dL_law_558 : decode cL_law 558 = .ok (.aload_n 0, 1) := by decide +kernel
theorem dL_law_559 : decode cL_law 559 = .ok (.iload_n 3, 1) := by decide +kernel
theorem dL_law_560 : decode cL_law 560 = .ok (.iconst 1, 1) := by decide +kernel
theorem dL_law_561 : decode cL_law 561 = .ok (.iadd, 1) := by decide +kernel
theorem dL_law_562 : decode cL_law 562 = .ok (.iaload, 1) := by decide +kernel
theorem dL_law_563 : decode cL_law 563 = .ok (.invokevirtual 61, 3) := by decide +kernel
theorem dL_law_566 : decode cL_law 566 = .ok (.if_icmp .eq 485, 3) := by decide +kernel
theorem dL_law_569 : decode cL_law 569 = .ok (.iconst 0, 1) := by decide +kernel
theorem dL_law_570 : decode cL_law 570 = .ok (.ireturn, 1) := by decide +kernel
theorem dL_law_571 : decode cL_law 571 = .ok (.aload_n 1, 1) := by decide +kernel
theorem dL_law_572 : decode cL_law 572 = .ok (.aload_n 0, 1) := by decide +kernel
theorem dL_law_573 : decode cL_law 573 = .ok (.iload_n 3, 1) := by decide +kernel
theorem dL_law_574 : decode cL_law 574 = .ok (.iconst 1, 1) := by decide +kernel
theorem dL_law_575 : decode cL_law 575 = .ok (.iadd, 1) := by decide +kernel
theorem dL_law_576 : decode cL_law 576 = .ok (.iaload, 1) := by decide +kernel
theorem dL_law_577 : decode cL_law 577 = .ok (.aload_n 0, 1) := by decide +kernel
theorem dL_law_578 : decode cL_law 578 = .ok (.iload_n 3, 1) := by decide +kernel
theorem dL_law_579 : decode cL_law 579 = .ok (.iconst 2, 1) := by decide +kernel
theorem dL_law_580 : decode cL_law 580 = .ok (.iadd, 1) := by decide +kernel
theorem dL_law_581 : decode cL_law 581 = .ok (.iaload, 1) := by decide +kernel
theorem dL_law_582 : decode cL_law 582 = .ok (.invokevirtual 62, 3) := by decide +kernel
theorem dL_law_585 : decode cL_law 585 = .ok (.aload_n 2, 1) := by decide +kernel
theorem dL_law_586 : decode cL_law 586 = .ok (.aload_n 0, 1) := by decide +kernel
theorem dL_law_587 : decode cL_law 587 = .ok (.iload_n 3, 1) := by decide +kernel
theorem dL_law_588 : decode cL_law 588 = .ok (.iconst 1, 1) := by decide +kernel
theorem dL_law_589 : decode cL_law 589 = .ok (.iadd, 1) := by decide +kernel
theorem dL_law_590 : decode cL_law 590 = .ok (.iaload, 1) := by decide +kernel
theorem dL_law_591 : decode cL_law 591 = .ok (.aload_n 0, 1) := by decide +kernel
theorem dL_law_592 : decode cL_law 592 = .ok (.iload_n 3, 1) := by decide +kernel
theorem dL_law_593 : decode cL_law 593 = .ok (.iconst 2, 1) := by decide +kernel
theorem dL_law_594 : decode cL_law 594 = .ok (.iadd, 1) := by decide +kernel
theorem dL_law_595 : decode cL_law 595 = .ok (.iaload, 1) := by decide +kernel
theorem dL_law_596 : decode cL_law 596 = .ok (.invokevirtual 65, 3) := by decide +kernel
theorem dL_law_599 : decode cL_law 599 = .ok (.if_icmp .eq 452, 3) := by decide +kernel
theorem dL_law_602 : decode cL_law 602 = .ok (.iconst 0, 1) := by decide +kernel
theorem dL_law_603 : decode cL_law 603 = .ok (.ireturn, 1) := by decide +kernel
theorem dL_law_604 : decode cL_law 604 = .ok (.aload_n 1, 1) := by decide +kernel
theorem dL_law_605 : decode cL_law 605 = .ok (.aload_n 0, 1) := by decide +kernel
theorem dL_law_606 : decode cL_law 606 = .ok (.iload_n 3, 1) := by decide +kernel
theorem dL_law_607 : decode cL_law 607 = .ok (.iconst 1, 1) := by decide +kernel
theorem dL_law_608 : decode cL_law 608 = .ok (.iadd, 1) := by decide +kernel
theorem dL_law_609 : decode cL_law 609 = .ok (.iaload, 1) := by decide +kernel
theorem dL_law_610 : decode cL_law 610 = .ok (.invokevirtual 66, 3) := by decide +kernel
theorem dL_law_613 : decode cL_law 613 = .ok (.aload_n 2, 1) := by decide +kernel
theorem dL_law_614 : decode cL_law 614 = .ok (.aload_n 0, 1) := by decide +kernel
theorem dL_law_615 : decode cL_law 615 = .ok (.iload_n 3, 1) := by decide +kernel
theorem dL_law_616 : decode cL_law 616 = .ok (.iconst 1, 1) := by decide +kernel
theorem dL_law_617 : decode cL_law 617 = .ok (.iadd, 1) := by decide +kernel
theorem dL_law_618 : decode cL_law 618 = .ok (.iaload, 1) := by decide +kernel
theorem dL_law_619 : decode cL_law 619 = .ok (.invokevirtual 69, 3) := by decide +kernel
theorem dL_law_622 : decode cL_law 622 = .ok (.if_icmp .eq 429, 3) := by decide +kernel
theorem dL_law_625 : decode cL_law 625 = .ok (.iconst 0, 1) := by decide +kernel
theorem dL_law_626 : decode cL_law 626 = .ok (.ireturn, 1) := by decide +kernel
theorem dL_law_627 : decode cL_law 627 = .ok (.aload_n 1, 1) := by decide +kernel
theorem dL_law_628 : decode cL_law 628 = .ok (.aload_n 0, 1) := by decide +kernel
theorem dL_law_629 : decode cL_law 629 = .ok (.iload_n 3, 1) := by decide +kernel
theorem dL_law_630 : decode cL_law 630 = .ok (.iconst 1, 1) := by decide +kernel
theorem dL_law_631 : decode cL_law 631 = .ok (.iadd, 1) := by decide +kernel
theorem dL_law_632 : decode cL_law 632 = .ok (.iaload, 1) := by decide +kernel
theorem dL_law_633 : decode cL_law 633 = .ok (.invokevirtual 70, 3) := by decide +kernel
theorem dL_law_636 : decode cL_law 636 = .ok (.aload_n 2, 1) := by decide +kernel
theorem dL_law_637 : decode cL_law 637 = .ok (.aload_n 0, 1) := by decide +kernel
theorem dL_law_638 : decode cL_law 638 = .ok (.iload_n 3, 1) := by decide +kernel
theorem dL_law_639 : decode cL_law 639 = .ok (.iconst 1, 1) := by decide +kernel
theorem dL_law_640 : decode cL_law 640 = .ok (.iadd, 1) := by decide +kernel
theorem dL_law_641 : decode cL_law 641 = .ok (.iaload, 1) := by decide +kernel
theorem dL_law_642 : decode cL_law 642 = .ok (.invokevirtual 73, 3) := by decide +kernel
theorem dL_law_645 : decode cL_law 645 = .ok (.if_icmp .eq 406, 3) := by decide +kernel
theorem dL_law_648 : decode cL_law 648 = .ok (.iconst 0, 1) := by decide +kernel
theorem dL_law_649 : decode cL_law 649 = .ok (.ireturn, 1) := by decide +kernel
theorem dL_law_650 : decode cL_law 650 = .ok (.aload_n 1, 1) := by decide +kernel
theorem dL_law_651 : decode cL_law 651 = .ok (.aload_n 0, 1) := by decide +kernel
theorem dL_law_652 : decode cL_law 652 = .ok (.iload_n 3, 1) := by decide +kernel
theorem dL_law_653 : decode cL_law 653 = .ok (.iconst 1, 1) := by decide +kernel
theorem dL_law_654 : decode cL_law 654 = .ok (.iadd, 1) := by decide +kernel
theorem dL_law_655 : decode cL_law 655 = .ok (.iaload, 1) := by decide +kernel
theorem dL_law_656 : decode cL_law 656 = .ok (.invokevirtual 74, 3) := by decide +kernel
theorem dL_law_659 : decode cL_law 659 = .ok (.aload_n 2, 1) := by decide +kernel
theorem dL_law_660 : decode cL_law 660 = .ok (.aload_n 0, 1) := by decide +kernel
theorem dL_law_661 : decode cL_law 661 = .ok (.iload_n 3, 1) := by decide +kernel
theorem dL_law_662 : decode cL_law 662 = .ok (.iconst 1, 1) := by decide +kernel
theorem dL_law_663 : decode cL_law 663 = .ok (.iadd, 1) := by decide +kernel
theorem dL_law_664 : decode cL_law 664 = .ok (.iaload, 1) := by decide +kernel
theorem dL_law_665 : decode cL_law 665 = .ok (.invokevirtual 77, 3) := by decide +kernel
theorem dL_law_668 : decode cL_law 668 = .ok (.if_icmp .eq 383, 3) := by decide +kernel
theorem dL_law_671 : decode cL_law 671 = .ok (.iconst 0, 1) := by decide +kernel
theorem dL_law_672 : decode cL_law 672 = .ok (.ireturn, 1) := by decide +kernel
theorem dL_law_673 : decode cL_law 673 = .ok (.aload_n 1, 1) := by decide +kernel
theorem dL_law_674 : decode cL_law 674 = .ok (.aload_n 0, 1) := by decide +kernel
theorem dL_law_675 : decode cL_law 675 = .ok (.iload_n 3, 1) := by decide +kernel
theorem dL_law_676 : decode cL_law 676 = .ok (.iconst 1, 1) := by decide +kernel
theorem dL_law_677 : decode cL_law 677 = .ok (.iadd, 1) := by decide +kernel
theorem dL_law_678 : decode cL_law 678 = .ok (.iaload, 1) := by decide +kernel
theorem dL_law_679 : decode cL_law 679 = .ok (.aload_n 0, 1) := by decide +kernel
theorem dL_law_680 : decode cL_law 680 = .ok (.iload_n 3, 1) := by decide +kernel
theorem dL_law_681 : decode cL_law 681 = .ok (.iconst 2, 1) := by decide +kernel
theorem dL_law_682 : decode cL_law 682 = .ok (.iadd, 1) := by decide +kernel
theorem dL_law_683 : decode cL_law 683 = .ok (.iaload, 1) := by decide +kernel
theorem dL_law_684 : decode cL_law 684 = .ok (.invokevirtual 78, 3) := by decide +kernel
theorem dL_law_687 : decode cL_law 687 = .ok (.aload_n 2, 1) := by decide +kernel
theorem dL_law_688 : decode cL_law 688 = .ok (.aload_n 0, 1) := by decide +kernel
theorem dL_law_689 : decode cL_law 689 = .ok (.iload_n 3, 1) := by decide +kernel
theorem dL_law_690 : decode cL_law 690 = .ok (.iconst 1, 1) := by decide +kernel
theorem dL_law_691 : decode cL_law 691 = .ok (.iadd, 1) := by decide +kernel
theorem dL_law_692 : decode cL_law 692 = .ok (.iaload, 1) := by decide +kernel
theorem dL_law_693 : decode cL_law 693 = .ok (.aload_n 0, 1) := by decide +kernel
theorem dL_law_694 : decode cL_law 694 = .ok (.iload_n 3, 1) := by decide +kernel
theorem dL_law_695 : decode cL_law 695 = .ok (.iconst 2, 1) := by decide +kernel
theorem dL_law_696 : decode cL_law 696 = .ok (.iadd, 1) := by decide +kernel
theorem dL_law_697 : decode cL_law 697 = .ok (.iaload, 1) := by decide +kernel
theorem dL_law_698 : decode cL_law 698 = .ok (.invokevirtual 82, 3) := by decide +kernel
theorem dL_law_701 : decode cL_law 701 = .ok (.lcmp, 1) := by decide +kernel
theorem dL_law_702 : decode cL_law 702 = .ok (.ifCond .eq 349, 3) := by decide +kernel
theorem dL_law_705 : decode cL_law 705 = .ok (.iconst 0, 1) := by decide +kernel
theorem dL_law_706 : decode cL_law 706 = .ok (.ireturn, 1) := by decide +kernel
theorem dL_law_707 : decode cL_law 707 = .ok (.aload_n 1, 1) := by decide +kernel
theorem dL_law_708 : decode cL_law 708 = .ok (.aload_n 0, 1) := by decide +kernel
theorem dL_law_709 : decode cL_law 709 = .ok (.iload_n 3, 1) := by decide +kernel
theorem dL_law_710 : decode cL_law 710 = .ok (.iconst 1, 1) := by decide +kernel
theorem dL_law_711 : decode cL_law 711 = .ok (.iadd, 1) := by decide +kernel
theorem dL_law_712 : decode cL_law 712 = .ok (.iaload, 1) := by decide +kernel
theorem dL_law_713 : decode cL_law 713 = .ok (.aload_n 0, 1) := by decide +kernel
theorem dL_law_714 : decode cL_law 714 = .ok (.iload_n 3, 1) := by decide +kernel
theorem dL_law_715 : decode cL_law 715 = .ok (.iconst 2, 1) := by decide +kernel
theorem dL_law_716 : decode cL_law 716 = .ok (.iadd, 1) := by decide +kernel
theorem dL_law_717 : decode cL_law 717 = .ok (.iaload, 1) := by decide +kernel
theorem dL_law_718 : decode cL_law 718 = .ok (.aload_n 0, 1) := by decide +kernel
theorem dL_law_719 : decode cL_law 719 = .ok (.iload_n 3, 1) := by decide +kernel
theorem dL_law_720 : decode cL_law 720 = .ok (.iconst 3, 1) := by decide +kernel
theorem dL_law_721 : decode cL_law 721 = .ok (.iadd, 1) := by decide +kernel
theorem dL_law_722 : decode cL_law 722 = .ok (.iaload, 1) := by decide +kernel
theorem dL_law_723 : decode cL_law 723 = .ok (.invokevirtual 83, 3) := by decide +kernel
theorem dL_law_726 : decode cL_law 726 = .ok (.aload_n 2, 1) := by decide +kernel
theorem dL_law_727 : decode cL_law 727 = .ok (.aload_n 0, 1) := by decide +kernel
theorem dL_law_728 : decode cL_law 728 = .ok (.iload_n 3, 1) := by decide +kernel
theorem dL_law_729 : decode cL_law 729 = .ok (.iconst 1, 1) := by decide +kernel
theorem dL_law_730 : decode cL_law 730 = .ok (.iadd, 1) := by decide +kernel
theorem dL_law_731 : decode cL_law 731 = .ok (.iaload, 1) := by decide +kernel
theorem dL_law_732 : decode cL_law 732 = .ok (.aload_n 0, 1) := by decide +kernel
theorem dL_law_733 : decode cL_law 733 = .ok (.iload_n 3, 1) := by decide +kernel
theorem dL_law_734 : decode cL_law 734 = .ok (.iconst 2, 1) := by decide +kernel
theorem dL_law_735 : decode cL_law 735 = .ok (.iadd, 1) := by decide +kernel
theorem dL_law_736 : decode cL_law 736 = .ok (.iaload, 1) := by decide +kernel
theorem dL_law_737 : decode cL_law 737 = .ok (.aload_n 0, 1) := by decide +kernel
theorem dL_law_738 : decode cL_law 738 = .ok (.iload_n 3, 1) := by decide +kernel
theorem dL_law_739 : decode cL_law 739 = .ok (.iconst 3, 1) := by decide +kernel
theorem dL_law_740 : decode cL_law 740 = .ok (.iadd, 1) := by decide +kernel
theorem dL_law_741 : decode cL_law 741 = .ok (.iaload, 1) := by decide +kernel
theorem dL_law_742 : decode cL_law 742 = .ok (.invokevirtual 87, 3) := by decide +kernel
theorem dL_law_745 : decode cL_law 745 = .ok (.if_icmp .eq 306, 3) := by decide +kernel
theorem dL_law_748 : decode cL_law 748 = .ok (.iconst 0, 1) := by decide +kernel
theorem dL_law_749 : decode cL_law 749 = .ok (.ireturn, 1) := by decide +kernel
theorem dL_law_750 : decode cL_law 750 = .ok (.aload_n 1, 1) := by decide +kernel
theorem dL_law_751 : decode cL_law 751 = .ok (.aload_n 0, 1) := by decide +kernel
theorem dL_law_752 : decode cL_law 752 = .ok (.iload_n 3, 1) := by decide +kernel
theorem dL_law_753 : decode cL_law 753 = .ok (.iconst 1, 1) := by decide +kernel
theorem dL_law_754 : decode cL_law 754 = .ok (.iadd, 1) := by decide +kernel
theorem dL_law_755 : decode cL_law 755 = .ok (.iaload, 1) := by decide +kernel
theorem dL_law_756 : decode cL_law 756 = .ok (.invokevirtual 88, 3) := by decide +kernel
theorem dL_law_759 : decode cL_law 759 = .ok (.aload_n 2, 1) := by decide +kernel
theorem dL_law_760 : decode cL_law 760 = .ok (.aload_n 0, 1) := by decide +kernel
theorem dL_law_761 : decode cL_law 761 = .ok (.iload_n 3, 1) := by decide +kernel
theorem dL_law_762 : decode cL_law 762 = .ok (.iconst 1, 1) := by decide +kernel
theorem dL_law_763 : decode cL_law 763 = .ok (.iadd, 1) := by decide +kernel
theorem dL_law_764 : decode cL_law 764 = .ok (.iaload, 1) := by decide +kernel
theorem dL_law_765 : decode cL_law 765 = .ok (.invokevirtual 91, 3) := by decide +kernel
theorem dL_law_768 : decode cL_law 768 = .ok (.if_icmp .eq 283, 3) := by decide +kernel
theorem dL_law_771 : decode cL_law 771 = .ok (.iconst 0, 1) := by decide +kernel
theorem dL_law_772 : decode cL_law 772 = .ok (.ireturn, 1) := by decide +kernel
theorem dL_law_773 : decode cL_law 773 = .ok (.aload_n 1, 1) := by decide +kernel
theorem dL_law_774 : decode cL_law 774 = .ok (.aload_n 0, 1) := by decide +kernel
theorem dL_law_775 : decode cL_law 775 = .ok (.iload_n 3, 1) := by decide +kernel
theorem dL_law_776 : decode cL_law 776 = .ok (.iconst 1, 1) := by decide +kernel
theorem dL_law_777 : decode cL_law 777 = .ok (.iadd, 1) := by decide +kernel
theorem dL_law_778 : decode cL_law 778 = .ok (.iaload, 1) := by decide +kernel
theorem dL_law_779 : decode cL_law 779 = .ok (.aload_n 0, 1) := by decide +kernel
theorem dL_law_780 : decode cL_law 780 = .ok (.iload_n 3, 1) := by decide +kernel
theorem dL_law_781 : decode cL_law 781 = .ok (.iconst 2, 1) := by decide +kernel
theorem dL_law_782 : decode cL_law 782 = .ok (.iadd, 1) := by decide +kernel
theorem dL_law_783 : decode cL_law 783 = .ok (.iaload, 1) := by decide +kernel
theorem dL_law_784 : decode cL_law 784 = .ok (.aload_n 0, 1) := by decide +kernel
theorem dL_law_785 : decode cL_law 785 = .ok (.iload_n 3, 1) := by decide +kernel
theorem dL_law_786 : decode cL_law 786 = .ok (.iconst 3, 1) := by decide +kernel
theorem dL_law_787 : decode cL_law 787 = .ok (.iadd, 1) := by decide +kernel
theorem dL_law_788 : decode cL_law 788 = .ok (.iaload, 1) := by decide +kernel
theorem dL_law_789 : decode cL_law 789 = .ok (.invokevirtual 92, 3) := by decide +kernel
theorem dL_law_792 : decode cL_law 792 = .ok (.aload_n 2, 1) := by decide +kernel
theorem dL_law_793 : decode cL_law 793 = .ok (.aload_n 0, 1) := by decide +kernel
theorem dL_law_794 : decode cL_law 794 = .ok (.iload_n 3, 1) := by decide +kernel
theorem dL_law_795 : decode cL_law 795 = .ok (.iconst 1, 1) := by decide +kernel
theorem dL_law_796 : decode cL_law 796 = .ok (.iadd, 1) := by decide +kernel
theorem dL_law_797 : decode cL_law 797 = .ok (.iaload, 1) := by decide +kernel
theorem dL_law_798 : decode cL_law 798 = .ok (.aload_n 0, 1) := by decide +kernel
theorem dL_law_799 : decode cL_law 799 = .ok (.iload_n 3, 1) := by decide +kernel
theorem dL_law_800 : decode cL_law 800 = .ok (.iconst 2, 1) := by decide +kernel
theorem dL_law_801 : decode cL_law 801 = .ok (.iadd, 1) := by decide +kernel
theorem dL_law_802 : decode cL_law 802 = .ok (.iaload, 1) := by decide +kernel
theorem dL_law_803 : decode cL_law 803 = .ok (.aload_n 0, 1) := by decide +kernel
theorem dL_law_804 : decode cL_law 804 = .ok (.iload_n 3, 1) := by decide +kernel
theorem dL_law_805 : decode cL_law 805 = .ok (.iconst 3, 1) := by decide +kernel
theorem dL_law_806 : decode cL_law 806 = .ok (.iadd, 1) := by decide +kernel
theorem dL_law_807 : decode cL_law 807 = .ok (.iaload, 1) := by decide +kernel
theorem dL_law_808 : decode cL_law 808 = .ok (.invokevirtual 95, 3) := by decide +kernel
theorem dL_law_811 : decode cL_law 811 = .ok (.if_icmp .eq 240, 3) := by decide +kernel
theorem dL_law_814 : decode cL_law 814 = .ok (.iconst 0, 1) := by decide +kernel
theorem dL_law_815 : decode cL_law 815 = .ok (.ireturn, 1) := by decide +kernel
theorem dL_law_816 : decode cL_law 816 = .ok (.aload_n 1, 1) := by decide +kernel
theorem dL_law_817 : decode cL_law 817 = .ok (.aload_n 0, 1) := by decide +kernel
theorem dL_law_818 : decode cL_law 818 = .ok (.iload_n 3, 1) := by decide +kernel
theorem dL_law_819 : decode cL_law 819 = .ok (.iconst 1, 1) := by decide +kernel
theorem dL_law_820 : decode cL_law 820 = .ok (.iadd, 1) := by decide +kernel
theorem dL_law_821 : decode cL_law 821 = .ok (.iaload, 1) := by decide +kernel
theorem dL_law_822 : decode cL_law 822 = .ok (.aload_n 0, 1) := by decide +kernel
theorem dL_law_823 : decode cL_law 823 = .ok (.iload_n 3, 1) := by decide +kernel
theorem dL_law_824 : decode cL_law 824 = .ok (.iconst 2, 1) := by decide +kernel
theorem dL_law_825 : decode cL_law 825 = .ok (.iadd, 1) := by decide +kernel
theorem dL_law_826 : decode cL_law 826 = .ok (.iaload, 1) := by decide +kernel
theorem dL_law_827 : decode cL_law 827 = .ok (.aload_n 0, 1) := by decide +kernel
theorem dL_law_828 : decode cL_law 828 = .ok (.iload_n 3, 1) := by decide +kernel
theorem dL_law_829 : decode cL_law 829 = .ok (.iconst 3, 1) := by decide +kernel
theorem dL_law_830 : decode cL_law 830 = .ok (.iadd, 1) := by decide +kernel
theorem dL_law_831 : decode cL_law 831 = .ok (.iaload, 1) := by decide +kernel
theorem dL_law_832 : decode cL_law 832 = .ok (.invokevirtual 96, 3) := by decide +kernel
theorem dL_law_835 : decode cL_law 835 = .ok (.aload_n 2, 1) := by decide +kernel
theorem dL_law_836 : decode cL_law 836 = .ok (.aload_n 0, 1) := by decide +kernel
theorem dL_law_837 : decode cL_law 837 = .ok (.iload_n 3, 1) := by decide +kernel
theorem dL_law_838 : decode cL_law 838 = .ok (.iconst 1, 1) := by decide +kernel
theorem dL_law_839 : decode cL_law 839 = .ok (.iadd, 1) := by decide +kernel
theorem dL_law_840 : decode cL_law 840 = .ok (.iaload, 1) := by decide +kernel
theorem dL_law_841 : decode cL_law 841 = .ok (.aload_n 0, 1) := by decide +kernel
theorem dL_law_842 : decode cL_law 842 = .ok (.iload_n 3, 1) := by decide +kernel
theorem dL_law_843 : decode cL_law 843 = .ok (.iconst 2, 1) := by decide +kernel
theorem dL_law_844 : decode cL_law 844 = .ok (.iadd, 1) := by decide +kernel
theorem dL_law_845 : decode cL_law 845 = .ok (.iaload, 1) := by decide +kernel
theorem dL_law_846 : decode cL_law 846 = .ok (.aload_n 0, 1) := by decide +kernel
theorem dL_law_847 : decode cL_law 847 = .ok (.iload_n 3, 1) := by decide +kernel
theorem dL_law_848 : decode cL_law 848 = .ok (.iconst 3, 1) := by decide +kernel
theorem dL_law_849 : decode cL_law 849 = .ok (.iadd, 1) := by decide +kernel
theorem dL_law_850 : decode cL_law 850 = .ok (.iaload, 1) := by decide +kernel
theorem dL_law_851 : decode cL_law 851 = .ok (.invokevirtual 100, 3) := by decide +kernel
theorem dL_law_854 : decode cL_law 854 = .ok (.lcmp, 1) := by decide +kernel
theorem dL_law_855 : decode cL_law 855 = .ok (.ifCond .eq 196, 3) := by decide +kernel
theorem dL_law_858 : decode cL_law 858 = .ok (.iconst 0, 1) := by decide +kernel
theorem dL_law_859 : decode cL_law 859 = .ok (.ireturn, 1) := by decide +kernel
theorem dL_law_860 : decode cL_law 860 = .ok (.aload_n 1, 1) := by decide +kernel
theorem dL_law_861 : decode cL_law 861 = .ok (.aload_n 0, 1) := by decide +kernel
theorem dL_law_862 : decode cL_law 862 = .ok (.iload_n 3, 1) := by decide +kernel
theorem dL_law_863 : decode cL_law 863 = .ok (.iconst 1, 1) := by decide +kernel
theorem dL_law_864 : decode cL_law 864 = .ok (.iadd, 1) := by decide +kernel
theorem dL_law_865 : decode cL_law 865 = .ok (.iaload, 1) := by decide +kernel
theorem dL_law_866 : decode cL_law 866 = .ok (.aload_n 0, 1) := by decide +kernel
theorem dL_law_867 : decode cL_law 867 = .ok (.iload_n 3, 1) := by decide +kernel
theorem dL_law_868 : decode cL_law 868 = .ok (.iconst 2, 1) := by decide +kernel
theorem dL_law_869 : decode cL_law 869 = .ok (.iadd, 1) := by decide +kernel
theorem dL_law_870 : decode cL_law 870 = .ok (.iaload, 1) := by decide +kernel
theorem dL_law_871 : decode cL_law 871 = .ok (.aload_n 0, 1) := by decide +kernel
theorem dL_law_872 : decode cL_law 872 = .ok (.iload_n 3, 1) := by decide +kernel
theorem dL_law_873 : decode cL_law 873 = .ok (.iconst 3, 1) := by decide +kernel
theorem dL_law_874 : decode cL_law 874 = .ok (.iadd, 1) := by decide +kernel
theorem dL_law_875 : decode cL_law 875 = .ok (.iaload, 1) := by decide +kernel
theorem dL_law_876 : decode cL_law 876 = .ok (.aload_n 0, 1) := by decide +kernel
theorem dL_law_877 : decode cL_law 877 = .ok (.iload_n 3, 1) := by decide +kernel
theorem dL_law_878 : decode cL_law 878 = .ok (.iconst 4, 1) := by decide +kernel
theorem dL_law_879 : decode cL_law 879 = .ok (.iadd, 1) := by decide +kernel
theorem dL_law_880 : decode cL_law 880 = .ok (.iaload, 1) := by decide +kernel
theorem dL_law_881 : decode cL_law 881 = .ok (.aload_n 0, 1) := by decide +kernel
theorem dL_law_882 : decode cL_law 882 = .ok (.iload_n 3, 1) := by decide +kernel
theorem dL_law_883 : decode cL_law 883 = .ok (.iconst 5, 1) := by decide +kernel
theorem dL_law_884 : decode cL_law 884 = .ok (.iadd, 1) := by decide +kernel
theorem dL_law_885 : decode cL_law 885 = .ok (.iaload, 1) := by decide +kernel
theorem dL_law_886 : decode cL_law 886 = .ok (.invokevirtual 101, 3) := by decide +kernel
theorem dL_law_889 : decode cL_law 889 = .ok (.aload_n 2, 1) := by decide +kernel
theorem dL_law_890 : decode cL_law 890 = .ok (.aload_n 0, 1) := by decide +kernel
theorem dL_law_891 : decode cL_law 891 = .ok (.iload_n 3, 1) := by decide +kernel
theorem dL_law_892 : decode cL_law 892 = .ok (.iconst 1, 1) := by decide +kernel
theorem dL_law_893 : decode cL_law 893 = .ok (.iadd, 1) := by decide +kernel
theorem dL_law_894 : decode cL_law 894 = .ok (.iaload, 1) := by decide +kernel
theorem dL_law_895 : decode cL_law 895 = .ok (.aload_n 0, 1) := by decide +kernel
theorem dL_law_896 : decode cL_law 896 = .ok (.iload_n 3, 1) := by decide +kernel
theorem dL_law_897 : decode cL_law 897 = .ok (.iconst 2, 1) := by decide +kernel
theorem dL_law_898 : decode cL_law 898 = .ok (.iadd, 1) := by decide +kernel
theorem dL_law_899 : decode cL_law 899 = .ok (.iaload, 1) := by decide +kernel
theorem dL_law_900 : decode cL_law 900 = .ok (.aload_n 0, 1) := by decide +kernel
theorem dL_law_901 : decode cL_law 901 = .ok (.iload_n 3, 1) := by decide +kernel
theorem dL_law_902 : decode cL_law 902 = .ok (.iconst 3, 1) := by decide +kernel
theorem dL_law_903 : decode cL_law 903 = .ok (.iadd, 1) := by decide +kernel
theorem dL_law_904 : decode cL_law 904 = .ok (.iaload, 1) := by decide +kernel
theorem dL_law_905 : decode cL_law 905 = .ok (.aload_n 0, 1) := by decide +kernel
theorem dL_law_906 : decode cL_law 906 = .ok (.iload_n 3, 1) := by decide +kernel
theorem dL_law_907 : decode cL_law 907 = .ok (.iconst 4, 1) := by decide +kernel
theorem dL_law_908 : decode cL_law 908 = .ok (.iadd, 1) := by decide +kernel
theorem dL_law_909 : decode cL_law 909 = .ok (.iaload, 1) := by decide +kernel
theorem dL_law_910 : decode cL_law 910 = .ok (.aload_n 0, 1) := by decide +kernel
theorem dL_law_911 : decode cL_law 911 = .ok (.iload_n 3, 1) := by decide +kernel
theorem dL_law_912 : decode cL_law 912 = .ok (.iconst 5, 1) := by decide +kernel
theorem dL_law_913 : decode cL_law 913 = .ok (.iadd, 1) := by decide +kernel
theorem dL_law_914 : decode cL_law 914 = .ok (.iaload, 1) := by decide +kernel
theorem dL_law_915 : decode cL_law 915 = .ok (.invokevirtual 104, 3) := by decide +kernel
theorem dL_law_918 : decode cL_law 918 = .ok (.if_icmp .eq 133, 3) := by decide +kernel
theorem dL_law_921 : decode cL_law 921 = .ok (.iconst 0, 1) := by decide +kernel
theorem dL_law_922 : decode cL_law 922 = .ok (.ireturn, 1) := by decide +kernel
theorem dL_law_923 : decode cL_law 923 = .ok (.aload_n 1, 1) := by decide +kernel
theorem dL_law_924 : decode cL_law 924 = .ok (.aload_n 0, 1) := by decide +kernel
theorem dL_law_925 : decode cL_law 925 = .ok (.iload_n 3, 1) := by decide +kernel
theorem dL_law_926 : decode cL_law 926 = .ok (.iconst 1, 1) := by decide +kernel
theorem dL_law_927 : decode cL_law 927 = .ok (.iadd, 1) := by decide +kernel
theorem dL_law_928 : decode cL_law 928 = .ok (.iaload, 1) := by decide +kernel
theorem dL_law_929 : decode cL_law 929 = .ok (.invokevirtual 105, 3) := by decide +kernel
theorem dL_law_932 : decode cL_law 932 = .ok (.aload_n 2, 1) := by decide +kernel
theorem dL_law_933 : decode cL_law 933 = .ok (.aload_n 0, 1) := by decide +kernel
theorem dL_law_934 : decode cL_law 934 = .ok (.iload_n 3, 1) := by decide +kernel
theorem dL_law_935 : decode cL_law 935 = .ok (.iconst 1, 1) := by decide +kernel
theorem dL_law_936 : decode cL_law 936 = .ok (.iadd, 1) := by decide +kernel
theorem dL_law_937 : decode cL_law 937 = .ok (.iaload, 1) := by decide +kernel
theorem dL_law_938 : decode cL_law 938 = .ok (.invokevirtual 108, 3) := by decide +kernel
theorem dL_law_941 : decode cL_law 941 = .ok (.if_icmp .eq 110, 3) := by decide +kernel
theorem dL_law_944 : decode cL_law 944 = .ok (.iconst 0, 1) := by decide +kernel
theorem dL_law_945 : decode cL_law 945 = .ok (.ireturn, 1) := by decide +kernel
theorem dL_law_946 : decode cL_law 946 = .ok (.aload_n 1, 1) := by decide +kernel
theorem dL_law_947 : decode cL_law 947 = .ok (.aload_n 0, 1) := by decide +kernel
theorem dL_law_948 : decode cL_law 948 = .ok (.iload_n 3, 1) := by decide +kernel
theorem dL_law_949 : decode cL_law 949 = .ok (.iconst 1, 1) := by decide +kernel
theorem dL_law_950 : decode cL_law 950 = .ok (.iadd, 1) := by decide +kernel
theorem dL_law_951 : decode cL_law 951 = .ok (.iaload, 1) := by decide +kernel
theorem dL_law_952 : decode cL_law 952 = .ok (.invokevirtual 109, 3) := by decide +kernel
theorem dL_law_955 : decode cL_law 955 = .ok (.aload_n 2, 1) := by decide +kernel
theorem dL_law_956 : decode cL_law 956 = .ok (.aload_n 0, 1) := by decide +kernel
theorem dL_law_957 : decode cL_law 957 = .ok (.iload_n 3, 1) := by decide +kernel
theorem dL_law_958 : decode cL_law 958 = .ok (.iconst 1, 1) := by decide +kernel
theorem dL_law_959 : decode cL_law 959 = .ok (.iadd, 1) := by decide +kernel
theorem dL_law_960 : decode cL_law 960 = .ok (.iaload, 1) := by decide +kernel
theorem dL_law_961 : decode cL_law 961 = .ok (.invokevirtual 112, 3) := by decide +kernel
theorem dL_law_964 : decode cL_law 964 = .ok (.if_icmp .eq 87, 3) := by decide +kernel
theorem dL_law_967 : decode cL_law 967 = .ok (.iconst 0, 1) := by decide +kernel
theorem dL_law_968 : decode cL_law 968 = .ok (.ireturn, 1) := by decide +kernel
theorem dL_law_969 : decode cL_law 969 = .ok (.aload_n 1, 1) := by decide +kernel
theorem dL_law_970 : decode cL_law 970 = .ok (.aload_n 0, 1) := by decide +kernel
theorem dL_law_971 : decode cL_law 971 = .ok (.iload_n 3, 1) := by decide +kernel
theorem dL_law_972 : decode cL_law 972 = .ok (.iconst 1, 1) := by decide +kernel
theorem dL_law_973 : decode cL_law 973 = .ok (.iadd, 1) := by decide +kernel
theorem dL_law_974 : decode cL_law 974 = .ok (.iaload, 1) := by decide +kernel
theorem dL_law_975 : decode cL_law 975 = .ok (.aload_n 0, 1) := by decide +kernel
theorem dL_law_976 : decode cL_law 976 = .ok (.iload_n 3, 1) := by decide +kernel
theorem dL_law_977 : decode cL_law 977 = .ok (.iconst 2, 1) := by decide +kernel
theorem dL_law_978 : decode cL_law 978 = .ok (.iadd, 1) := by decide +kernel
theorem dL_law_979 : decode cL_law 979 = .ok (.iaload, 1) := by decide +kernel
theorem dL_law_980 : decode cL_law 980 = .ok (.invokevirtual 113, 3) := by decide +kernel
theorem dL_law_983 : decode cL_law 983 = .ok (.aload_n 2, 1) := by decide +kernel
theorem dL_law_984 : decode cL_law 984 = .ok (.aload_n 0, 1) := by decide +kernel
theorem dL_law_985 : decode cL_law 985 = .ok (.iload_n 3, 1) := by decide +kernel
theorem dL_law_986 : decode cL_law 986 = .ok (.iconst 1, 1) := by decide +kernel
theorem dL_law_987 : decode cL_law 987 = .ok (.iadd, 1) := by decide +kernel
theorem dL_law_988 : decode cL_law 988 = .ok (.iaload, 1) := by decide +kernel
theorem dL_law_989 : decode cL_law 989 = .ok (.aload_n 0, 1) := by decide +kernel
theorem dL_law_990 : decode cL_law 990 = .ok (.iload_n 3, 1) := by decide +kernel
theorem dL_law_991 : decode cL_law 991 = .ok (.iconst 2, 1) := by decide +kernel
theorem dL_law_992 : decode cL_law 992 = .ok (.iadd, 1) := by decide +kernel
theorem dL_law_993 : decode cL_law 993 = .ok (.iaload, 1) := by decide +kernel
theorem dL_law_994 : decode cL_law 994 = .ok (.invokevirtual 116, 3) := by decide +kernel
theorem dL_law_997 : decode cL_law 997 = .ok (.if_icmp .eq 54, 3) := by decide +kernel
theorem dL_law_1000 : decode cL_law 1000 = .ok (.iconst 0, 1) := by decide +kernel
theorem dL_law_1001 : decode cL_law 1001 = .ok (.ireturn, 1) := by decide +kernel
theorem dL_law_1002 : decode cL_law 1002 = .ok (.aload_n 1, 1) := by decide +kernel
theorem dL_law_1003 : decode cL_law 1003 = .ok (.invokevirtual 117, 3) := by decide +kernel
theorem dL_law_1006 : decode cL_law 1006 = .ok (.aload_n 2, 1) := by decide +kernel
theorem dL_law_1007 : decode cL_law 1007 = .ok (.invokevirtual 121, 3) := by decide +kernel
theorem dL_law_1010 : decode cL_law 1010 = .ok (.if_icmp .eq 41, 3) := by decide +kernel
theorem dL_law_1013 : decode cL_law 1013 = .ok (.iconst 0, 1) := by decide +kernel
theorem dL_law_1014 : decode cL_law 1014 = .ok (.ireturn, 1) := by decide +kernel
theorem dL_law_1015 : decode cL_law 1015 = .ok (.aload_n 1, 1) := by decide +kernel
theorem dL_law_1016 : decode cL_law 1016 = .ok (.invokevirtual 122, 3) := by decide +kernel
theorem dL_law_1019 : decode cL_law 1019 = .ok (.aload_n 2, 1) := by decide +kernel
theorem dL_law_1020 : decode cL_law 1020 = .ok (.invokevirtual 125, 3) := by decide +kernel
theorem dL_law_1023 : decode cL_law 1023 = .ok (.if_icmp .eq 28, 3) := by decide +kernel
theorem dL_law_1026 : decode cL_law 1026 = .ok (.iconst 0, 1) := by decide +kernel
theorem dL_law_1027 : decode cL_law 1027 = .ok (.ireturn, 1) := by decide +kernel
theorem dL_law_1028 : decode cL_law 1028 = .ok (.aload_n 1, 1) := by decide +kernel
theorem dL_law_1029 : decode cL_law 1029 = .ok (.aload_n 0, 1) := by decide +kernel
theorem dL_law_1030 : decode cL_law 1030 = .ok (.iload_n 3, 1) := by decide +kernel
theorem dL_law_1031 : decode cL_law 1031 = .ok (.iconst 1, 1) := by decide +kernel
theorem dL_law_1032 : decode cL_law 1032 = .ok (.iadd, 1) := by decide +kernel
theorem dL_law_1033 : decode cL_law 1033 = .ok (.iaload, 1) := by decide +kernel
theorem dL_law_1034 : decode cL_law 1034 = .ok (.invokevirtual 126, 3) := by decide +kernel
theorem dL_law_1037 : decode cL_law 1037 = .ok (.aload_n 2, 1) := by decide +kernel
theorem dL_law_1038 : decode cL_law 1038 = .ok (.aload_n 0, 1) := by decide +kernel
theorem dL_law_1039 : decode cL_law 1039 = .ok (.iload_n 3, 1) := by decide +kernel
theorem dL_law_1040 : decode cL_law 1040 = .ok (.iconst 1, 1) := by decide +kernel
theorem dL_law_1041 : decode cL_law 1041 = .ok (.iadd, 1) := by decide +kernel
theorem dL_law_1042 : decode cL_law 1042 = .ok (.iaload, 1) := by decide +kernel
theorem dL_law_1043 : decode cL_law 1043 = .ok (.invokevirtual 129, 3) := by decide +kernel
theorem dL_law_1046 : decode cL_law 1046 = .ok (.if_icmp .eq 5, 3) := by decide +kernel
theorem dL_law_1049 : decode cL_law 1049 = .ok (.iconst 0, 1) := by decide +kernel
theorem dL_law_1050 : decode cL_law 1050 = .ok (.ireturn, 1) := by decide +kernel
theorem dL_law_1051 : decode cL_law 1051 = .ok (.iinc 3 7, 3) := by decide +kernel
theorem dL_law_1054 : decode cL_law 1054 = .ok (.goto (-1036), 3) := by decide +kernel
theorem dL_law_1057 : decode cL_law 1057 = .ok (.iconst 1, 1) := by decide +kernel
theorem dL_law_1058 : decode cL_law 1058 = .ok (.ireturn, 1) := by decide +kernel
end
section
def gT : List Cond := lw_tbl.filter goodWord
theorem gT_at {w : Cond} (i : Nat) (h : lw_tbl[i]? = some w) (g : goodWord w = true) : w ∈ gT := List.mem_filter.mpr ⟨List.mem_of_getElem? h, g⟩
theorem gT_all (ws : List Cond) (ps : List Nat) (hp : ws = ps.filterMap (fun i => lw_tbl[i]?)) (hg : ws.all goodWord = true) : ∀ w ∈ ws, w ∈ gT := by
  intro w hw
  have h1 := List.all_eq_true.mp hg w hw
  rw [hp] at hw
  obtain ⟨i, -, hi⟩ := List.mem_filterMap.mp hw
  exact List.mem_filter.mpr ⟨List.mem_of_getElem? hi, h1⟩
theorem gT_tbl {w : Cond} (h : w ∈ gT) : w ∈ lw_tbl := (List.mem_filter.mp h).1
theorem gT_good {w : Cond} (h : w ∈ gT) : (w.onTables && w.keeps) = true ∨ ∃ ty, w = .arrayClass ty := good_of_word (List.mem_filter.mp h).2
def gFld (own : String) (idx ci j : Nat) : Prop := ∃ q : vw_C, vwCl[ci]? = some q ∧ j < q.2.2 ∧ Cond.fieldLink own idx (q.2.1 j).1 (q.2.1 j).2.1 (q.2.1 j).2.2.1 ∈ gT ∧ ∀ w ∈ u_ws q.1 q.2.1 q.2.2, w ∈ gT
def gInt (ci j : Nat) : Prop := ∃ (q : vw_C) (ty : Nat → FieldType), vwCl[ci]? = some q ∧ j < q.2.2 ∧ (∀ k, k < q.2.2 → parseFieldDescriptor (q.2.1 k).2.2.1 = some (ty k)) ∧ (∀ a, a < q.2.2 → ∀ b, b < q.2.2 → a ≠ b → (q.2.1 a).2.1 ≠ (q.2.1 b).2.1) ∧ (q.2.1 j).2.2.2 = false ∧ parseFieldDescriptor (q.2.1 j).2.2.1 = some .int
def gFin (ci j : Nat) (ty1 : FieldType) : Prop := ∃ (q : vw_C) (ty : Nat → FieldType), vwCl[ci]? = some q ∧ j < q.2.2 ∧ (∀ k, k < q.2.2 → parseFieldDescriptor (q.2.1 k).2.2.1 = some (ty k)) ∧ (∀ a, a < q.2.2 → ∀ b, b < q.2.2 → a ≠ b → (q.2.1 a).2.1 ≠ (q.2.1 b).2.1) ∧ (q.2.1 j).2.2.2 = true ∧ (q.2.1 j).1 = q.1 ∧ parseFieldDescriptor (q.2.1 j).2.2.1 = some ty1
def gMeth (y : MethodName) (cc : ByteArray) (maxL : Nat) (ret : Option FieldType) (n : Nat) : Prop := Cond.code y cc maxL ret ∈ gT ∧ Cond.initialized y.cls ∈ gT ∧ (y.cls ≠ "java/lang/invoke/MethodHandle" ∧ y.cls ≠ "java/lang/invoke/VarHandle" ∧ (parseMethodDescriptor y.desc).map (fun d => d.parameters.length) = some n) ∧ plainName y.cls = true
def gInst (y : MethodName) : Prop := Cond.instanceMethod y ∈ gT ∧ Cond.selects y.cls y y ∈ gT
theorem uX0 : ∀ w ∈ u_ws RX0 TX0 3, w ∈ gT := gT_all _ [83, 85, 87] (by decide +kernel) (by decide +kernel)
theorem nX0_0 : gFin 0 0 (.array .int) := ⟨(RX0, TX0, 3), tyX0, rfl, by decide, tyX0_ok, nmX0, rfl, rfl, by decide +kernel⟩
theorem iX0_1 : gInt 0 1 := ⟨(RX0, TX0, 3), tyX0, rfl, by decide, tyX0_ok, nmX0, rfl, by decide +kernel⟩
theorem iX0_2 : gInt 0 2 := ⟨(RX0, TX0, 3), tyX0, rfl, by decide, tyX0_ok, nmX0, rfl, by decide +kernel⟩
theorem uX1 : ∀ w ∈ u_ws RX1 TX1 3, w ∈ gT := gT_all _ [134, 136, 138] (by decide +kernel) (by decide +kernel)
theorem nX1_0 : gFin 1 0 (.array (.object "RangeRules$Rule")) := ⟨(RX1, TX1, 3), tyX1, rfl, by decide, tyX1_ok, nmX1, rfl, rfl, by decide +kernel⟩
theorem nX1_1 : gFin 1 1 (.object "RangeRules$Asking") := ⟨(RX1, TX1, 3), tyX1, rfl, by decide, tyX1_ok, nmX1, rfl, rfl, by decide +kernel⟩
theorem iX1_2 : gInt 1 2 := ⟨(RX1, TX1, 3), tyX1, rfl, by decide, tyX1_ok, nmX1, rfl, by decide +kernel⟩
theorem uX2 : ∀ w ∈ u_ws RX2 TX2 3, w ∈ gT := gT_all _ [153, 155, 157] (by decide +kernel) (by decide +kernel)
theorem nX2_0 : gFin 2 0 (.array .int) := ⟨(RX2, TX2, 3), tyX2, rfl, by decide, tyX2_ok, nmX2, rfl, rfl, by decide +kernel⟩
theorem iX2_1 : gInt 2 1 := ⟨(RX2, TX2, 3), tyX2, rfl, by decide, tyX2_ok, nmX2, rfl, by decide +kernel⟩
theorem iX2_2 : gInt 2 2 := ⟨(RX2, TX2, 3), tyX2, rfl, by decide, tyX2_ok, nmX2, rfl, by decide +kernel⟩
theorem uX3 : ∀ w ∈ u_ws RX3 TX3 5, w ∈ gT := gT_all _ [113, 115, 117, 119, 121] (by decide +kernel) (by decide +kernel)
theorem iX3_0 : gInt 3 0 := ⟨(RX3, TX3, 5), tyX3, rfl, by decide, tyX3_ok, nmX3, rfl, by decide +kernel⟩
theorem iX3_1 : gInt 3 1 := ⟨(RX3, TX3, 5), tyX3, rfl, by decide, tyX3_ok, nmX3, rfl, by decide +kernel⟩
theorem iX3_2 : gInt 3 2 := ⟨(RX3, TX3, 5), tyX3, rfl, by decide, tyX3_ok, nmX3, rfl, by decide +kernel⟩
theorem iX3_3 : gInt 3 3 := ⟨(RX3, TX3, 5), tyX3, rfl, by decide, tyX3_ok, nmX3, rfl, by decide +kernel⟩
theorem iX3_4 : gInt 3 4 := ⟨(RX3, TX3, 5), tyX3, rfl, by decide, tyX3_ok, nmX3, rfl, by decide +kernel⟩
theorem uX5 : ∀ w ∈ u_ws RX5 TX5 8, w ∈ gT := gT_all _ [168, 170, 172, 174, 176, 178, 180, 182] (by decide +kernel) (by decide +kernel)
theorem nX5_0 : gFin 4 0 (.object "RangeRules$Book") := ⟨(RX5, TX5, 8), tyX5, rfl, by decide, tyX5_ok, nmX5, rfl, rfl, by decide +kernel⟩
theorem nX5_1 : gFin 4 1 (.object "RangeRules$Book") := ⟨(RX5, TX5, 8), tyX5, rfl, by decide, tyX5_ok, nmX5, rfl, rfl, by decide +kernel⟩
theorem nX5_2 : gFin 4 2 (.array (.object "RangeRules$Row")) := ⟨(RX5, TX5, 8), tyX5, rfl, by decide, tyX5_ok, nmX5, rfl, rfl, by decide +kernel⟩
theorem nX5_3 : gFin 4 3 (.array .int) := ⟨(RX5, TX5, 8), tyX5, rfl, by decide, tyX5_ok, nmX5, rfl, rfl, by decide +kernel⟩
theorem nX5_4 : gFin 4 4 (.array .int) := ⟨(RX5, TX5, 8), tyX5, rfl, by decide, tyX5_ok, nmX5, rfl, rfl, by decide +kernel⟩
theorem iX5_5 : gInt 4 5 := ⟨(RX5, TX5, 8), tyX5, rfl, by decide, tyX5_ok, nmX5, rfl, by decide +kernel⟩
theorem iX5_6 : gInt 4 6 := ⟨(RX5, TX5, 8), tyX5, rfl, by decide, tyX5_ok, nmX5, rfl, by decide +kernel⟩
theorem iX5_7 : gInt 4 7 := ⟨(RX5, TX5, 8), tyX5, rfl, by decide, tyX5_ok, nmX5, rfl, by decide +kernel⟩
theorem uX6 : ∀ w ∈ u_ws RX6 TX6 17, w ∈ gT := gT_all _ [555, 557, 559, 561, 563, 565, 567, 569, 571, 573, 575, 577, 579, 581, 583, 585, 587] (by decide +kernel) (by decide +kernel)
theorem iX6_0 : gInt 5 0 := ⟨(RX6, TX6, 17), tyX6, rfl, by decide, tyX6_ok, nmX6, rfl, by decide +kernel⟩
theorem iX6_1 : gInt 5 1 := ⟨(RX6, TX6, 17), tyX6, rfl, by decide, tyX6_ok, nmX6, rfl, by decide +kernel⟩
theorem nX6_2 : gFin 5 2 (.array .int) := ⟨(RX6, TX6, 17), tyX6, rfl, by decide, tyX6_ok, nmX6, rfl, rfl, by decide +kernel⟩
theorem nX6_3 : gFin 5 3 (.array .int) := ⟨(RX6, TX6, 17), tyX6, rfl, by decide, tyX6_ok, nmX6, rfl, rfl, by decide +kernel⟩
theorem nX6_4 : gFin 5 4 (.array .int) := ⟨(RX6, TX6, 17), tyX6, rfl, by decide, tyX6_ok, nmX6, rfl, rfl, by decide +kernel⟩
theorem iX6_5 : gInt 5 5 := ⟨(RX6, TX6, 17), tyX6, rfl, by decide, tyX6_ok, nmX6, rfl, by decide +kernel⟩
theorem nX6_6 : gFin 5 6 (.array .int) := ⟨(RX6, TX6, 17), tyX6, rfl, by decide, tyX6_ok, nmX6, rfl, rfl, by decide +kernel⟩
theorem iX6_7 : gInt 5 7 := ⟨(RX6, TX6, 17), tyX6, rfl, by decide, tyX6_ok, nmX6, rfl, by decide +kernel⟩
theorem iX6_8 : gInt 5 8 := ⟨(RX6, TX6, 17), tyX6, rfl, by decide, tyX6_ok, nmX6, rfl, by decide +kernel⟩
theorem nX6_9 : gFin 5 9 (.array .int) := ⟨(RX6, TX6, 17), tyX6, rfl, by decide, tyX6_ok, nmX6, rfl, rfl, by decide +kernel⟩
theorem nX6_10 : gFin 5 10 (.array .int) := ⟨(RX6, TX6, 17), tyX6, rfl, by decide, tyX6_ok, nmX6, rfl, rfl, by decide +kernel⟩
theorem iX6_11 : gInt 5 11 := ⟨(RX6, TX6, 17), tyX6, rfl, by decide, tyX6_ok, nmX6, rfl, by decide +kernel⟩
theorem iX6_12 : gInt 5 12 := ⟨(RX6, TX6, 17), tyX6, rfl, by decide, tyX6_ok, nmX6, rfl, by decide +kernel⟩
theorem nX6_13 : gFin 5 13 (.array .int) := ⟨(RX6, TX6, 17), tyX6, rfl, by decide, tyX6_ok, nmX6, rfl, rfl, by decide +kernel⟩
theorem iX6_14 : gInt 5 14 := ⟨(RX6, TX6, 17), tyX6, rfl, by decide, tyX6_ok, nmX6, rfl, by decide +kernel⟩
theorem nX6_15 : gFin 5 15 (.array .int) := ⟨(RX6, TX6, 17), tyX6, rfl, by decide, tyX6_ok, nmX6, rfl, rfl, by decide +kernel⟩
theorem nX6_16 : gFin 5 16 (.array .int) := ⟨(RX6, TX6, 17), tyX6, rfl, by decide, tyX6_ok, nmX6, rfl, rfl, by decide +kernel⟩
theorem kL_9 : Cond.methodLink RL 9 yX5_init ∈ gT := gT_at 57 (by decide +kernel) (by decide +kernel)
theorem mX5_init : gMeth yX5_init cX5_init 2 none 0 := ⟨gT_at 59 (by decide +kernel) (by decide +kernel), gT_at 46 (by decide +kernel) (by decide +kernel), by decide +kernel, by decide +kernel⟩
theorem vX5_init : Cond.instanceMethod yX5_init ∈ gT := gT_at 58 (by decide +kernel) (by decide +kernel)
theorem kX5_3 : Cond.methodLink RX5 3 objectInit ∈ gT := gT_at 60 (by decide +kernel) (by decide +kernel)
theorem oInit : Cond.code objectInit ⟨#[0xb1]⟩ 1 none ∈ gT ∧ Cond.instanceMethod objectInit ∈ gT := ⟨gT_at 62 (by decide +kernel) (by decide +kernel), gT_at 61 (by decide +kernel) (by decide +kernel)⟩
theorem kX5_11 : Cond.methodLink RX5 11 yX1_init ∈ gT := gT_at 65 (by decide +kernel) (by decide +kernel)
theorem mX1_init : gMeth yX1_init cX1_init 2 none 0 := ⟨gT_at 67 (by decide +kernel) (by decide +kernel), gT_at 47 (by decide +kernel) (by decide +kernel), by decide +kernel, by decide +kernel⟩
theorem vX1_init : Cond.instanceMethod yX1_init ∈ gT := gT_at 66 (by decide +kernel) (by decide +kernel)
theorem kX1_3 : Cond.methodLink RX1 3 objectInit ∈ gT := gT_at 68 (by decide +kernel) (by decide +kernel)
theorem mX0_init : gMeth yX0_init cX0_init 1 none 0 := ⟨gT_at 75 (by decide +kernel) (by decide +kernel), gT_at 48 (by decide +kernel) (by decide +kernel), by decide +kernel, by decide +kernel⟩
theorem vX0_init : Cond.instanceMethod yX0_init ∈ gT := gT_at 74 (by decide +kernel) (by decide +kernel)
theorem kX0_3 : Cond.methodLink RX0 3 objectInit ∈ gT := gT_at 76 (by decide +kernel) (by decide +kernel)
theorem fX0_9 : gFld RX0 9 0 0 := ⟨(RX0, TX0, 3), rfl, by decide, gT_at 77 (by decide +kernel) (by decide +kernel), uX0⟩
theorem fX0_15 : gFld RX0 15 0 1 := ⟨(RX0, TX0, 3), rfl, by decide, gT_at 78 (by decide +kernel) (by decide +kernel), uX0⟩
theorem fX5_141 : gFld RX5 141 0 1 := ⟨(RX0, TX0, 3), rfl, by decide, gT_at 79 (by decide +kernel) (by decide +kernel), uX0⟩
theorem fX0_48 : gFld RX0 48 0 2 := ⟨(RX0, TX0, 3), rfl, by decide, gT_at 80 (by decide +kernel) (by decide +kernel), uX0⟩
theorem fX5_138 : gFld RX5 138 0 2 := ⟨(RX0, TX0, 3), rfl, by decide, gT_at 81 (by decide +kernel) (by decide +kernel), uX0⟩
theorem fX1_66 : gFld RX1 66 0 2 := ⟨(RX0, TX0, 3), rfl, by decide, gT_at 82 (by decide +kernel) (by decide +kernel), uX0⟩
theorem mX3_init : gMeth yX3_init cX3_init 1 none 0 := ⟨gT_at 94 (by decide +kernel) (by decide +kernel), gT_at 49 (by decide +kernel) (by decide +kernel), by decide +kernel, by decide +kernel⟩
theorem vX3_init : Cond.instanceMethod yX3_init ∈ gT := gT_at 93 (by decide +kernel) (by decide +kernel)
theorem kX3_3 : Cond.methodLink RX3 3 objectInit ∈ gT := gT_at 95 (by decide +kernel) (by decide +kernel)
theorem fX3_15 : gFld RX3 15 3 0 := ⟨(RX3, TX3, 5), rfl, by decide, gT_at 96 (by decide +kernel) (by decide +kernel), uX3⟩
theorem fX5_81 : gFld RX5 81 3 0 := ⟨(RX3, TX3, 5), rfl, by decide, gT_at 97 (by decide +kernel) (by decide +kernel), uX3⟩
theorem fX1_29 : gFld RX1 29 3 0 := ⟨(RX3, TX3, 5), rfl, by decide, gT_at 98 (by decide +kernel) (by decide +kernel), uX3⟩
theorem fX3_18 : gFld RX3 18 3 1 := ⟨(RX3, TX3, 5), rfl, by decide, gT_at 99 (by decide +kernel) (by decide +kernel), uX3⟩
theorem fX0_38 : gFld RX0 38 3 1 := ⟨(RX3, TX3, 5), rfl, by decide, gT_at 100 (by decide +kernel) (by decide +kernel), uX3⟩
theorem fX5_86 : gFld RX5 86 3 1 := ⟨(RX3, TX3, 5), rfl, by decide, gT_at 101 (by decide +kernel) (by decide +kernel), uX3⟩
theorem fX1_32 : gFld RX1 32 3 1 := ⟨(RX3, TX3, 5), rfl, by decide, gT_at 102 (by decide +kernel) (by decide +kernel), uX3⟩
theorem fX3_9 : gFld RX3 9 3 2 := ⟨(RX3, TX3, 5), rfl, by decide, gT_at 103 (by decide +kernel) (by decide +kernel), uX3⟩
theorem fX0_51 : gFld RX0 51 3 2 := ⟨(RX3, TX3, 5), rfl, by decide, gT_at 104 (by decide +kernel) (by decide +kernel), uX3⟩
theorem fX5_89 : gFld RX5 89 3 2 := ⟨(RX3, TX3, 5), rfl, by decide, gT_at 105 (by decide +kernel) (by decide +kernel), uX3⟩
theorem fX1_35 : gFld RX1 35 3 2 := ⟨(RX3, TX3, 5), rfl, by decide, gT_at 106 (by decide +kernel) (by decide +kernel), uX3⟩
theorem fX3_21 : gFld RX3 21 3 3 := ⟨(RX3, TX3, 5), rfl, by decide, gT_at 107 (by decide +kernel) (by decide +kernel), uX3⟩
theorem fX5_92 : gFld RX5 92 3 3 := ⟨(RX3, TX3, 5), rfl, by decide, gT_at 108 (by decide +kernel) (by decide +kernel), uX3⟩
theorem fX1_38 : gFld RX1 38 3 3 := ⟨(RX3, TX3, 5), rfl, by decide, gT_at 109 (by decide +kernel) (by decide +kernel), uX3⟩
theorem fX3_24 : gFld RX3 24 3 4 := ⟨(RX3, TX3, 5), rfl, by decide, gT_at 110 (by decide +kernel) (by decide +kernel), uX3⟩
theorem fX5_95 : gFld RX5 95 3 4 := ⟨(RX3, TX3, 5), rfl, by decide, gT_at 111 (by decide +kernel) (by decide +kernel), uX3⟩
theorem fX1_41 : gFld RX1 41 3 4 := ⟨(RX3, TX3, 5), rfl, by decide, gT_at 112 (by decide +kernel) (by decide +kernel), uX3⟩
theorem fX1_11 : gFld RX1 11 1 0 := ⟨(RX1, TX1, 3), rfl, by decide, gT_at 124 (by decide +kernel) (by decide +kernel), uX1⟩
theorem fX0_24 : gFld RX0 24 1 0 := ⟨(RX1, TX1, 3), rfl, by decide, gT_at 125 (by decide +kernel) (by decide +kernel), uX1⟩
theorem fX5_77 : gFld RX5 77 1 0 := ⟨(RX1, TX1, 3), rfl, by decide, gT_at 126 (by decide +kernel) (by decide +kernel), uX1⟩
theorem fX4_43 : gFld RX4 43 1 0 := ⟨(RX1, TX1, 3), rfl, by decide, gT_at 127 (by decide +kernel) (by decide +kernel), uX1⟩
theorem fX1_20 : gFld RX1 20 1 1 := ⟨(RX1, TX1, 3), rfl, by decide, gT_at 128 (by decide +kernel) (by decide +kernel), uX1⟩
theorem fX5_128 : gFld RX5 128 1 1 := ⟨(RX1, TX1, 3), rfl, by decide, gT_at 129 (by decide +kernel) (by decide +kernel), uX1⟩
theorem fX1_25 : gFld RX1 25 1 2 := ⟨(RX1, TX1, 3), rfl, by decide, gT_at 130 (by decide +kernel) (by decide +kernel), uX1⟩
theorem fX0_19 : gFld RX0 19 1 2 := ⟨(RX1, TX1, 3), rfl, by decide, gT_at 131 (by decide +kernel) (by decide +kernel), uX1⟩
theorem fX5_71 : gFld RX5 71 1 2 := ⟨(RX1, TX1, 3), rfl, by decide, gT_at 132 (by decide +kernel) (by decide +kernel), uX1⟩
theorem fX4_37 : gFld RX4 37 1 2 := ⟨(RX1, TX1, 3), rfl, by decide, gT_at 133 (by decide +kernel) (by decide +kernel), uX1⟩
theorem mX2_init : gMeth yX2_init cX2_init 1 none 0 := ⟨gT_at 146 (by decide +kernel) (by decide +kernel), gT_at 50 (by decide +kernel) (by decide +kernel), by decide +kernel, by decide +kernel⟩
theorem vX2_init : Cond.instanceMethod yX2_init ∈ gT := gT_at 145 (by decide +kernel) (by decide +kernel)
theorem kX2_3 : Cond.methodLink RX2 3 objectInit ∈ gT := gT_at 147 (by decide +kernel) (by decide +kernel)
theorem fX2_9 : gFld RX2 9 2 0 := ⟨(RX2, TX2, 3), rfl, by decide, gT_at 148 (by decide +kernel) (by decide +kernel), uX2⟩
theorem fX5_214 : gFld RX5 214 2 0 := ⟨(RX2, TX2, 3), rfl, by decide, gT_at 149 (by decide +kernel) (by decide +kernel), uX2⟩
theorem fX2_15 : gFld RX2 15 2 1 := ⟨(RX2, TX2, 3), rfl, by decide, gT_at 150 (by decide +kernel) (by decide +kernel), uX2⟩
theorem fX5_211 : gFld RX5 211 2 1 := ⟨(RX2, TX2, 3), rfl, by decide, gT_at 151 (by decide +kernel) (by decide +kernel), uX2⟩
theorem fX2_19 : gFld RX2 19 2 2 := ⟨(RX2, TX2, 3), rfl, by decide, gT_at 152 (by decide +kernel) (by decide +kernel), uX2⟩
theorem fX5_12 : gFld RX5 12 4 0 := ⟨(RX5, TX5, 8), rfl, by decide, gT_at 160 (by decide +kernel) (by decide +kernel), uX5⟩
theorem fX5_18 : gFld RX5 18 4 1 := ⟨(RX5, TX5, 8), rfl, by decide, gT_at 161 (by decide +kernel) (by decide +kernel), uX5⟩
theorem fX5_23 : gFld RX5 23 4 2 := ⟨(RX5, TX5, 8), rfl, by decide, gT_at 162 (by decide +kernel) (by decide +kernel), uX5⟩
theorem fX5_27 : gFld RX5 27 4 3 := ⟨(RX5, TX5, 8), rfl, by decide, gT_at 163 (by decide +kernel) (by decide +kernel), uX5⟩
theorem fX5_31 : gFld RX5 31 4 4 := ⟨(RX5, TX5, 8), rfl, by decide, gT_at 164 (by decide +kernel) (by decide +kernel), uX5⟩
theorem fX5_68 : gFld RX5 68 4 5 := ⟨(RX5, TX5, 8), rfl, by decide, gT_at 165 (by decide +kernel) (by decide +kernel), uX5⟩
theorem fX5_239 : gFld RX5 239 4 6 := ⟨(RX5, TX5, 8), rfl, by decide, gT_at 166 (by decide +kernel) (by decide +kernel), uX5⟩
theorem fX5_35 : gFld RX5 35 4 7 := ⟨(RX5, TX5, 8), rfl, by decide, gT_at 167 (by decide +kernel) (by decide +kernel), uX5⟩
theorem kL_13 : Cond.methodLink RL 13 yX5_rules ∈ gT := gT_at 185 (by decide +kernel) (by decide +kernel)
theorem mX5_rules : gMeth yX5_rules cX5_rules 8 (some .int) 4 := ⟨gT_at 188 (by decide +kernel) (by decide +kernel), gT_at 46 (by decide +kernel) (by decide +kernel), by decide +kernel, by decide +kernel⟩
theorem vX5_rules : gInst yX5_rules := ⟨gT_at 186 (by decide +kernel) (by decide +kernel), gT_at 187 (by decide +kernel) (by decide +kernel)⟩
theorem kX5_39 : Cond.methodLink RX5 39 yX5_isSheet ∈ gT := gT_at 189 (by decide +kernel) (by decide +kernel)
theorem mX5_isSheet : gMeth yX5_isSheet cX5_isSheet 1 (some .boolean) 1 := ⟨gT_at 191 (by decide +kernel) (by decide +kernel), gT_at 46 (by decide +kernel) (by decide +kernel), by decide +kernel, by decide +kernel⟩
theorem sX5_isSheet : Cond.static yX5_isSheet ∈ gT := gT_at 190 (by decide +kernel) (by decide +kernel)
theorem kX5_43 : Cond.methodLink RX5 43 yX5_isIn ∈ gT := gT_at 192 (by decide +kernel) (by decide +kernel)
theorem mX5_isIn : gMeth yX5_isIn cX5_isIn 3 (some .boolean) 3 := ⟨gT_at 194 (by decide +kernel) (by decide +kernel), gT_at 46 (by decide +kernel) (by decide +kernel), by decide +kernel, by decide +kernel⟩
theorem sX5_isIn : Cond.static yX5_isIn ∈ gT := gT_at 193 (by decide +kernel) (by decide +kernel)
theorem kX5_47 : Cond.methodLink RX5 47 yX2_faultAs ∈ gT := gT_at 195 (by decide +kernel) (by decide +kernel)
theorem mX2_faultAs : gMeth yX2_faultAs cX2_faultAs 2 (some .int) 1 := ⟨gT_at 198 (by decide +kernel) (by decide +kernel), gT_at 50 (by decide +kernel) (by decide +kernel), by decide +kernel, by decide +kernel⟩
theorem vX2_faultAs : gInst yX2_faultAs := ⟨gT_at 196 (by decide +kernel) (by decide +kernel), gT_at 197 (by decide +kernel) (by decide +kernel)⟩
theorem kX2_31 : Cond.methodLink RX2 31 yX2_isNothing ∈ gT := gT_at 199 (by decide +kernel) (by decide +kernel)
theorem mX2_isNothing : gMeth yX2_isNothing cX2_isNothing 1 (some .boolean) 0 := ⟨gT_at 202 (by decide +kernel) (by decide +kernel), gT_at 50 (by decide +kernel) (by decide +kernel), by decide +kernel, by decide +kernel⟩
theorem vX2_isNothing : gInst yX2_isNothing := ⟨gT_at 200 (by decide +kernel) (by decide +kernel), gT_at 201 (by decide +kernel) (by decide +kernel)⟩
theorem kX5_51 : Cond.methodLink RX5 51 yX5_faulted ∈ gT := gT_at 203 (by decide +kernel) (by decide +kernel)
theorem mX5_faulted : gMeth yX5_faulted cX5_faulted 2 (some .int) 1 := ⟨gT_at 206 (by decide +kernel) (by decide +kernel), gT_at 46 (by decide +kernel) (by decide +kernel), by decide +kernel, by decide +kernel⟩
theorem vX5_faulted : gInst yX5_faulted := ⟨gT_at 205 (by decide +kernel) (by decide +kernel), gT_at 0 (by decide +kernel) (by decide +kernel)⟩
theorem kX5_54 : Cond.methodLink RX5 54 yX2_hasCells ∈ gT := gT_at 207 (by decide +kernel) (by decide +kernel)
theorem mX2_hasCells : gMeth yX2_hasCells cX2_hasCells 3 (some .boolean) 2 := ⟨gT_at 210 (by decide +kernel) (by decide +kernel), gT_at 50 (by decide +kernel) (by decide +kernel), by decide +kernel, by decide +kernel⟩
theorem vX2_hasCells : gInst yX2_hasCells := ⟨gT_at 208 (by decide +kernel) (by decide +kernel), gT_at 209 (by decide +kernel) (by decide +kernel)⟩
theorem kX5_58 : Cond.methodLink RX5 58 yX4_firstFault ∈ gT := gT_at 211 (by decide +kernel) (by decide +kernel)
theorem mX4_firstFault : gMeth yX4_firstFault cX4_firstFault 4 (some .int) 3 := ⟨gT_at 213 (by decide +kernel) (by decide +kernel), gT_at 52 (by decide +kernel) (by decide +kernel), by decide +kernel, by decide +kernel⟩
theorem sX4_firstFault : Cond.static yX4_firstFault ∈ gT := gT_at 212 (by decide +kernel) (by decide +kernel)
theorem kX4_9 : Cond.methodLink RX4 9 yX4_goesOn ∈ gT := gT_at 214 (by decide +kernel) (by decide +kernel)
theorem mX4_goesOn : gMeth yX4_goesOn cX4_goesOn 4 (some .boolean) 3 := ⟨gT_at 216 (by decide +kernel) (by decide +kernel), gT_at 52 (by decide +kernel) (by decide +kernel), by decide +kernel, by decide +kernel⟩
theorem sX4_goesOn : Cond.static yX4_goesOn ∈ gT := gT_at 215 (by decide +kernel) (by decide +kernel)
theorem kX4_15 : Cond.methodLink RX4 15 yX2_read ∈ gT := gT_at 217 (by decide +kernel) (by decide +kernel)
theorem mX2_read : gMeth yX2_read cX2_read 2 (some .int) 1 := ⟨gT_at 220 (by decide +kernel) (by decide +kernel), gT_at 50 (by decide +kernel) (by decide +kernel), by decide +kernel, by decide +kernel⟩
theorem vX2_read : gInst yX2_read := ⟨gT_at 218 (by decide +kernel) (by decide +kernel), gT_at 219 (by decide +kernel) (by decide +kernel)⟩
theorem kX4_21 : Cond.methodLink RX4 21 yX4_kindOf ∈ gT := gT_at 221 (by decide +kernel) (by decide +kernel)
theorem mX4_kindOf : gMeth yX4_kindOf cX4_kindOf 1 (some .int) 1 := ⟨gT_at 223 (by decide +kernel) (by decide +kernel), gT_at 52 (by decide +kernel) (by decide +kernel), by decide +kernel, by decide +kernel⟩
theorem sX4_kindOf : Cond.static yX4_kindOf ∈ gT := gT_at 222 (by decide +kernel) (by decide +kernel)
theorem kX4_24 : Cond.methodLink RX4 24 yX4_deedOf ∈ gT := gT_at 224 (by decide +kernel) (by decide +kernel)
theorem mX4_deedOf : gMeth yX4_deedOf cX4_deedOf 1 (some .int) 1 := ⟨gT_at 226 (by decide +kernel) (by decide +kernel), gT_at 52 (by decide +kernel) (by decide +kernel), by decide +kernel, by decide +kernel⟩
theorem sX4_deedOf : Cond.static yX4_deedOf ∈ gT := gT_at 225 (by decide +kernel) (by decide +kernel)
theorem kX5_64 : Cond.methodLink RX5 64 yX4_take ∈ gT := gT_at 228 (by decide +kernel) (by decide +kernel)
theorem mX4_take : gMeth yX4_take cX4_take 6 none 4 := ⟨gT_at 230 (by decide +kernel) (by decide +kernel), gT_at 52 (by decide +kernel) (by decide +kernel), by decide +kernel, by decide +kernel⟩
theorem sX4_take : Cond.static yX4_take ∈ gT := gT_at 229 (by decide +kernel) (by decide +kernel)
theorem kX4_31 : Cond.methodLink RX4 31 yJ9_min_7cf53 ∈ gT := gT_at 231 (by decide +kernel) (by decide +kernel)
theorem kX4_47 : Cond.methodLink RX4 47 yX3_become ∈ gT := gT_at 234 (by decide +kernel) (by decide +kernel)
theorem mX3_become : gMeth yX3_become cX3_become 6 none 5 := ⟨gT_at 237 (by decide +kernel) (by decide +kernel), gT_at 49 (by decide +kernel) (by decide +kernel), by decide +kernel, by decide +kernel⟩
theorem vX3_become : gInst yX3_become := ⟨gT_at 235 (by decide +kernel) (by decide +kernel), gT_at 236 (by decide +kernel) (by decide +kernel)⟩
theorem kL_18 : Cond.methodLink RL 18 yX5_ofRule ∈ gT := gT_at 238 (by decide +kernel) (by decide +kernel)
theorem mX5_ofRule : gMeth yX5_ofRule cX5_ofRule 4 (some .int) 2 := ⟨gT_at 241 (by decide +kernel) (by decide +kernel), gT_at 46 (by decide +kernel) (by decide +kernel), by decide +kernel, by decide +kernel⟩
theorem vX5_ofRule : gInst yX5_ofRule := ⟨gT_at 239 (by decide +kernel) (by decide +kernel), gT_at 240 (by decide +kernel) (by decide +kernel)⟩
theorem kX5_74 : Cond.methodLink RX5 74 yX1_isRule ∈ gT := gT_at 242 (by decide +kernel) (by decide +kernel)
theorem mX1_isRule : gMeth yX1_isRule cX1_isRule 2 (some .boolean) 1 := ⟨gT_at 245 (by decide +kernel) (by decide +kernel), gT_at 47 (by decide +kernel) (by decide +kernel), by decide +kernel, by decide +kernel⟩
theorem vX1_isRule : gInst yX1_isRule := ⟨gT_at 243 (by decide +kernel) (by decide +kernel), gT_at 244 (by decide +kernel) (by decide +kernel)⟩
theorem kX5_98 : Cond.methodLink RX5 98 yX3_ownWorth ∈ gT := gT_at 246 (by decide +kernel) (by decide +kernel)
theorem mX3_ownWorth : gMeth yX3_ownWorth cX3_ownWorth 1 (some .int) 0 := ⟨gT_at 249 (by decide +kernel) (by decide +kernel), gT_at 49 (by decide +kernel) (by decide +kernel), by decide +kernel, by decide +kernel⟩
theorem vX3_ownWorth : gInst yX3_ownWorth := ⟨gT_at 247 (by decide +kernel) (by decide +kernel), gT_at 248 (by decide +kernel) (by decide +kernel)⟩
theorem kX5_102 : Cond.methodLink RX5 102 yX1_pointsWonBy ∈ gT := gT_at 250 (by decide +kernel) (by decide +kernel)
theorem mX1_pointsWonBy : gMeth yX1_pointsWonBy cX1_pointsWonBy 4 (some .int) 1 := ⟨gT_at 253 (by decide +kernel) (by decide +kernel), gT_at 47 (by decide +kernel) (by decide +kernel), by decide +kernel, by decide +kernel⟩
theorem vX1_pointsWonBy : gInst yX1_pointsWonBy := ⟨gT_at 251 (by decide +kernel) (by decide +kernel), gT_at 252 (by decide +kernel) (by decide +kernel)⟩
theorem kX1_58 : Cond.methodLink RX1 58 yX1_winnerOf ∈ gT := gT_at 254 (by decide +kernel) (by decide +kernel)
theorem mX1_winnerOf : gMeth yX1_winnerOf cX1_winnerOf 3 (some .int) 1 := ⟨gT_at 257 (by decide +kernel) (by decide +kernel), gT_at 47 (by decide +kernel) (by decide +kernel), by decide +kernel, by decide +kernel⟩
theorem vX1_winnerOf : gInst yX1_winnerOf := ⟨gT_at 255 (by decide +kernel) (by decide +kernel), gT_at 256 (by decide +kernel) (by decide +kernel)⟩
theorem kX1_55 : Cond.methodLink RX1 55 yX3_hasPoint ∈ gT := gT_at 258 (by decide +kernel) (by decide +kernel)
theorem mX3_hasPoint : gMeth yX3_hasPoint cX3_hasPoint 2 (some .boolean) 1 := ⟨gT_at 261 (by decide +kernel) (by decide +kernel), gT_at 49 (by decide +kernel) (by decide +kernel), by decide +kernel, by decide +kernel⟩
theorem vX3_hasPoint : gInst yX3_hasPoint := ⟨gT_at 259 (by decide +kernel) (by decide +kernel), gT_at 260 (by decide +kernel) (by decide +kernel)⟩
theorem kL_23 : Cond.methodLink RL 23 yX5_number ∈ gT := gT_at 262 (by decide +kernel) (by decide +kernel)
theorem mX5_number : gMeth yX5_number cX5_number 4 (some .int) 2 := ⟨gT_at 265 (by decide +kernel) (by decide +kernel), gT_at 46 (by decide +kernel) (by decide +kernel), by decide +kernel, by decide +kernel⟩
theorem vX5_number : gInst yX5_number := ⟨gT_at 263 (by decide +kernel) (by decide +kernel), gT_at 264 (by decide +kernel) (by decide +kernel)⟩
theorem kL_27 : Cond.methodLink RL 27 yX5_insert ∈ gT := gT_at 266 (by decide +kernel) (by decide +kernel)
theorem mX5_insert : gMeth yX5_insert cX5_insert 7 (some .int) 6 := ⟨gT_at 269 (by decide +kernel) (by decide +kernel), gT_at 46 (by decide +kernel) (by decide +kernel), by decide +kernel, by decide +kernel⟩
theorem vX5_insert : gInst yX5_insert := ⟨gT_at 267 (by decide +kernel) (by decide +kernel), gT_at 268 (by decide +kernel) (by decide +kernel)⟩
theorem kX5_105 : Cond.methodLink RX5 105 yX1_openPlace ∈ gT := gT_at 270 (by decide +kernel) (by decide +kernel)
theorem mX1_openPlace : gMeth yX1_openPlace cX1_openPlace 4 none 1 := ⟨gT_at 273 (by decide +kernel) (by decide +kernel), gT_at 47 (by decide +kernel) (by decide +kernel), by decide +kernel, by decide +kernel⟩
theorem vX1_openPlace : gInst yX1_openPlace := ⟨gT_at 271 (by decide +kernel) (by decide +kernel), gT_at 272 (by decide +kernel) (by decide +kernel)⟩
theorem kX5_109 : Cond.methodLink RX5 109 yX3_become ∈ gT := gT_at 274 (by decide +kernel) (by decide +kernel)
theorem kL_32 : Cond.methodLink RL 32 yX5_remove ∈ gT := gT_at 275 (by decide +kernel) (by decide +kernel)
theorem mX5_remove : gMeth yX5_remove cX5_remove 2 (some .int) 1 := ⟨gT_at 278 (by decide +kernel) (by decide +kernel), gT_at 46 (by decide +kernel) (by decide +kernel), by decide +kernel, by decide +kernel⟩
theorem vX5_remove : gInst yX5_remove := ⟨gT_at 276 (by decide +kernel) (by decide +kernel), gT_at 277 (by decide +kernel) (by decide +kernel)⟩
theorem kX5_113 : Cond.methodLink RX5 113 yX1_takeAway ∈ gT := gT_at 279 (by decide +kernel) (by decide +kernel)
theorem mX1_takeAway : gMeth yX1_takeAway cX1_takeAway 4 none 1 := ⟨gT_at 282 (by decide +kernel) (by decide +kernel), gT_at 47 (by decide +kernel) (by decide +kernel), by decide +kernel, by decide +kernel⟩
theorem vX1_takeAway : gInst yX1_takeAway := ⟨gT_at 280 (by decide +kernel) (by decide +kernel), gT_at 281 (by decide +kernel) (by decide +kernel)⟩
theorem kX1_48 : Cond.methodLink RX1 48 yX1_isRule ∈ gT := gT_at 283 (by decide +kernel) (by decide +kernel)
theorem kL_37 : Cond.methodLink RL 37 yX5_swap ∈ gT := gT_at 284 (by decide +kernel) (by decide +kernel)
theorem mX5_swap : gMeth yX5_swap cX5_swap 2 (some .int) 1 := ⟨gT_at 287 (by decide +kernel) (by decide +kernel), gT_at 46 (by decide +kernel) (by decide +kernel), by decide +kernel, by decide +kernel⟩
theorem vX5_swap : gInst yX5_swap := ⟨gT_at 285 (by decide +kernel) (by decide +kernel), gT_at 286 (by decide +kernel) (by decide +kernel)⟩
theorem kX5_116 : Cond.methodLink RX5 116 yX1_isPair ∈ gT := gT_at 288 (by decide +kernel) (by decide +kernel)
theorem mX1_isPair : gMeth yX1_isPair cX1_isPair 2 (some .boolean) 1 := ⟨gT_at 291 (by decide +kernel) (by decide +kernel), gT_at 47 (by decide +kernel) (by decide +kernel), by decide +kernel, by decide +kernel⟩
theorem vX1_isPair : gInst yX1_isPair := ⟨gT_at 289 (by decide +kernel) (by decide +kernel), gT_at 290 (by decide +kernel) (by decide +kernel)⟩
theorem kX5_119 : Cond.methodLink RX5 119 yX1_changePlaces ∈ gT := gT_at 292 (by decide +kernel) (by decide +kernel)
theorem mX1_changePlaces : gMeth yX1_changePlaces cX1_changePlaces 3 none 1 := ⟨gT_at 295 (by decide +kernel) (by decide +kernel), gT_at 47 (by decide +kernel) (by decide +kernel), by decide +kernel, by decide +kernel⟩
theorem vX1_changePlaces : gInst yX1_changePlaces := ⟨gT_at 293 (by decide +kernel) (by decide +kernel), gT_at 294 (by decide +kernel) (by decide +kernel)⟩
theorem kX1_52 : Cond.methodLink RX1 52 yX1_isPair ∈ gT := gT_at 296 (by decide +kernel) (by decide +kernel)
theorem kL_41 : Cond.methodLink RL 41 yX5_winner ∈ gT := gT_at 297 (by decide +kernel) (by decide +kernel)
theorem mX5_winner : gMeth yX5_winner cX5_winner 2 (some .int) 1 := ⟨gT_at 300 (by decide +kernel) (by decide +kernel), gT_at 46 (by decide +kernel) (by decide +kernel), by decide +kernel, by decide +kernel⟩
theorem vX5_winner : gInst yX5_winner := ⟨gT_at 298 (by decide +kernel) (by decide +kernel), gT_at 299 (by decide +kernel) (by decide +kernel)⟩
theorem kX5_122 : Cond.methodLink RX5 122 yX5_isPoint ∈ gT := gT_at 301 (by decide +kernel) (by decide +kernel)
theorem mX5_isPoint : gMeth yX5_isPoint cX5_isPoint 1 (some .boolean) 1 := ⟨gT_at 303 (by decide +kernel) (by decide +kernel), gT_at 46 (by decide +kernel) (by decide +kernel), by decide +kernel, by decide +kernel⟩
theorem sX5_isPoint : Cond.static yX5_isPoint ∈ gT := gT_at 302 (by decide +kernel) (by decide +kernel)
theorem kX5_125 : Cond.methodLink RX5 125 yX1_winnerOf ∈ gT := gT_at 304 (by decide +kernel) (by decide +kernel)
theorem kL_45 : Cond.methodLink RL 45 yX5_ask ∈ gT := gT_at 305 (by decide +kernel) (by decide +kernel)
theorem mX5_ask : gMeth yX5_ask cX5_ask 4 (some .int) 2 := ⟨gT_at 308 (by decide +kernel) (by decide +kernel), gT_at 46 (by decide +kernel) (by decide +kernel), by decide +kernel, by decide +kernel⟩
theorem vX5_ask : gInst yX5_ask := ⟨gT_at 306 (by decide +kernel) (by decide +kernel), gT_at 307 (by decide +kernel) (by decide +kernel)⟩
theorem kX5_132 : Cond.methodLink RX5 132 yX0_walk ∈ gT := gT_at 309 (by decide +kernel) (by decide +kernel)
theorem mX0_walk : gMeth yX0_walk cX0_walk 8 none 3 := ⟨gT_at 312 (by decide +kernel) (by decide +kernel), gT_at 48 (by decide +kernel) (by decide +kernel), by decide +kernel, by decide +kernel⟩
theorem vX0_walk : gInst yX0_walk := ⟨gT_at 310 (by decide +kernel) (by decide +kernel), gT_at 311 (by decide +kernel) (by decide +kernel)⟩
theorem kX0_28 : Cond.methodLink RX0 28 yX3_hasPoint ∈ gT := gT_at 313 (by decide +kernel) (by decide +kernel)
theorem kX0_34 : Cond.methodLink RX0 34 yX3_ownWorth ∈ gT := gT_at 314 (by decide +kernel) (by decide +kernel)
theorem kX0_41 : Cond.methodLink RX0 41 yX0_give ∈ gT := gT_at 315 (by decide +kernel) (by decide +kernel)
theorem mX0_give : gMeth yX0_give cX0_give 2 none 1 := ⟨gT_at 318 (by decide +kernel) (by decide +kernel), gT_at 48 (by decide +kernel) (by decide +kernel), by decide +kernel, by decide +kernel⟩
theorem vX0_give : gInst yX0_give := ⟨gT_at 317 (by decide +kernel) (by decide +kernel), gT_at 1 (by decide +kernel) (by decide +kernel)⟩
theorem kX0_45 : Cond.methodLink RX0 45 yX0_addDenier ∈ gT := gT_at 319 (by decide +kernel) (by decide +kernel)
theorem mX0_addDenier : gMeth yX0_addDenier cX0_addDenier 2 none 1 := ⟨gT_at 322 (by decide +kernel) (by decide +kernel), gT_at 48 (by decide +kernel) (by decide +kernel), by decide +kernel, by decide +kernel⟩
theorem vX0_addDenier : gInst yX0_addDenier := ⟨gT_at 321 (by decide +kernel) (by decide +kernel), gT_at 2 (by decide +kernel) (by decide +kernel)⟩
theorem kX5_144 : Cond.methodLink RX5 144 yX0_denier ∈ gT := gT_at 323 (by decide +kernel) (by decide +kernel)
theorem mX0_denier : gMeth yX0_denier cX0_denier 2 (some .int) 1 := ⟨gT_at 326 (by decide +kernel) (by decide +kernel), gT_at 48 (by decide +kernel) (by decide +kernel), by decide +kernel, by decide +kernel⟩
theorem vX0_denier : gInst yX0_denier := ⟨gT_at 324 (by decide +kernel) (by decide +kernel), gT_at 325 (by decide +kernel) (by decide +kernel)⟩
theorem kL_49 : Cond.methodLink RL 49 yX5_day ∈ gT := gT_at 327 (by decide +kernel) (by decide +kernel)
theorem mX5_day : gMeth yX5_day cX5_day 9 (some .int) 5 := ⟨gT_at 330 (by decide +kernel) (by decide +kernel), gT_at 46 (by decide +kernel) (by decide +kernel), by decide +kernel, by decide +kernel⟩
theorem vX5_day : gInst yX5_day := ⟨gT_at 328 (by decide +kernel) (by decide +kernel), gT_at 329 (by decide +kernel) (by decide +kernel)⟩
theorem kX5_147 : Cond.methodLink RX5 147 yX5_areActs ∈ gT := gT_at 331 (by decide +kernel) (by decide +kernel)
theorem mX5_areActs : gMeth yX5_areActs cX5_areActs 4 (some .boolean) 3 := ⟨gT_at 333 (by decide +kernel) (by decide +kernel), gT_at 46 (by decide +kernel) (by decide +kernel), by decide +kernel, by decide +kernel⟩
theorem sX5_areActs : Cond.static yX5_areActs ∈ gT := gT_at 332 (by decide +kernel) (by decide +kernel)
theorem kX5_208 : Cond.methodLink RX5 208 yX2_read ∈ gT := gT_at 334 (by decide +kernel) (by decide +kernel)
theorem kX5_250 : Cond.methodLink RX5 250 yX5_isAct ∈ gT := gT_at 335 (by decide +kernel) (by decide +kernel)
theorem mX5_isAct : gMeth yX5_isAct cX5_isAct 2 (some .boolean) 2 := ⟨gT_at 337 (by decide +kernel) (by decide +kernel), gT_at 46 (by decide +kernel) (by decide +kernel), by decide +kernel, by decide +kernel⟩
theorem sX5_isAct : Cond.static yX5_isAct ∈ gT := gT_at 336 (by decide +kernel) (by decide +kernel)
theorem kX5_151 : Cond.methodLink RX5 151 yX1_becomeLike ∈ gT := gT_at 338 (by decide +kernel) (by decide +kernel)
theorem mX1_becomeLike : gMeth yX1_becomeLike cX1_becomeLike 4 none 1 := ⟨gT_at 341 (by decide +kernel) (by decide +kernel), gT_at 47 (by decide +kernel) (by decide +kernel), by decide +kernel, by decide +kernel⟩
theorem vX1_becomeLike : gInst yX1_becomeLike := ⟨gT_at 339 (by decide +kernel) (by decide +kernel), gT_at 340 (by decide +kernel) (by decide +kernel)⟩
theorem kX1_44 : Cond.methodLink RX1 44 yX3_become ∈ gT := gT_at 342 (by decide +kernel) (by decide +kernel)
theorem kX5_155 : Cond.methodLink RX5 155 yX5_playDay ∈ gT := gT_at 343 (by decide +kernel) (by decide +kernel)
theorem mX5_playDay : gMeth yX5_playDay cX5_playDay 5 (some .int) 3 := ⟨gT_at 346 (by decide +kernel) (by decide +kernel), gT_at 46 (by decide +kernel) (by decide +kernel), by decide +kernel, by decide +kernel⟩
theorem vX5_playDay : gInst yX5_playDay := ⟨gT_at 345 (by decide +kernel) (by decide +kernel), gT_at 3 (by decide +kernel) (by decide +kernel)⟩
theorem kX5_253 : Cond.methodLink RX5 253 yX5_playAct ∈ gT := gT_at 347 (by decide +kernel) (by decide +kernel)
theorem mX5_playAct : gMeth yX5_playAct cX5_playAct 3 (some .boolean) 2 := ⟨gT_at 350 (by decide +kernel) (by decide +kernel), gT_at 46 (by decide +kernel) (by decide +kernel), by decide +kernel, by decide +kernel⟩
theorem vX5_playAct : gInst yX5_playAct := ⟨gT_at 349 (by decide +kernel) (by decide +kernel), gT_at 4 (by decide +kernel) (by decide +kernel)⟩
theorem kX5_158 : Cond.methodLink RX5 158 yX5_ofDay ∈ gT := gT_at 351 (by decide +kernel) (by decide +kernel)
theorem mX5_ofDay : gMeth yX5_ofDay cX5_ofDay 2 (some .int) 1 := ⟨gT_at 354 (by decide +kernel) (by decide +kernel), gT_at 46 (by decide +kernel) (by decide +kernel), by decide +kernel, by decide +kernel⟩
theorem vX5_ofDay : gInst yX5_ofDay := ⟨gT_at 353 (by decide +kernel) (by decide +kernel), gT_at 5 (by decide +kernel) (by decide +kernel)⟩
theorem kX5_176 : Cond.methodLink RX5 176 yX1_countDenied ∈ gT := gT_at 355 (by decide +kernel) (by decide +kernel)
theorem mX1_countDenied : gMeth yX1_countDenied cX1_countDenied 1 (some .int) 0 := ⟨gT_at 358 (by decide +kernel) (by decide +kernel), gT_at 47 (by decide +kernel) (by decide +kernel), by decide +kernel, by decide +kernel⟩
theorem vX1_countDenied : gInst yX1_countDenied := ⟨gT_at 356 (by decide +kernel) (by decide +kernel), gT_at 357 (by decide +kernel) (by decide +kernel)⟩
theorem kX1_69 : Cond.methodLink RX1 69 yX1_countWorth ∈ gT := gT_at 359 (by decide +kernel) (by decide +kernel)
theorem mX1_countWorth : gMeth yX1_countWorth cX1_countWorth 5 (some .int) 1 := ⟨gT_at 362 (by decide +kernel) (by decide +kernel), gT_at 47 (by decide +kernel) (by decide +kernel), by decide +kernel, by decide +kernel⟩
theorem vX1_countWorth : gInst yX1_countWorth := ⟨gT_at 360 (by decide +kernel) (by decide +kernel), gT_at 361 (by decide +kernel) (by decide +kernel)⟩
theorem kX1_72 : Cond.methodLink RX1 72 yX1_worthOf ∈ gT := gT_at 363 (by decide +kernel) (by decide +kernel)
theorem mX1_worthOf : gMeth yX1_worthOf cX1_worthOf 3 (some .int) 2 := ⟨gT_at 366 (by decide +kernel) (by decide +kernel), gT_at 47 (by decide +kernel) (by decide +kernel), by decide +kernel, by decide +kernel⟩
theorem vX1_worthOf : gInst yX1_worthOf := ⟨gT_at 364 (by decide +kernel) (by decide +kernel), gT_at 365 (by decide +kernel) (by decide +kernel)⟩
theorem kX1_62 : Cond.methodLink RX1 62 yX0_walk ∈ gT := gT_at 367 (by decide +kernel) (by decide +kernel)
theorem kX5_170 : Cond.methodLink RX5 170 yX1_shadowed ∈ gT := gT_at 368 (by decide +kernel) (by decide +kernel)
theorem mX1_shadowed : gMeth yX1_shadowed cX1_shadowed 3 (some .int) 0 := ⟨gT_at 371 (by decide +kernel) (by decide +kernel), gT_at 47 (by decide +kernel) (by decide +kernel), by decide +kernel, by decide +kernel⟩
theorem vX1_shadowed : gInst yX1_shadowed := ⟨gT_at 369 (by decide +kernel) (by decide +kernel), gT_at 370 (by decide +kernel) (by decide +kernel)⟩
theorem kX1_79 : Cond.methodLink RX1 79 yX1_pointsWonBy ∈ gT := gT_at 372 (by decide +kernel) (by decide +kernel)
theorem kX5_167 : Cond.methodLink RX5 167 yX1_countRuns ∈ gT := gT_at 373 (by decide +kernel) (by decide +kernel)
theorem mX1_countRuns : gMeth yX1_countRuns cX1_countRuns 3 (some .int) 0 := ⟨gT_at 376 (by decide +kernel) (by decide +kernel), gT_at 47 (by decide +kernel) (by decide +kernel), by decide +kernel, by decide +kernel⟩
theorem vX1_countRuns : gInst yX1_countRuns := ⟨gT_at 374 (by decide +kernel) (by decide +kernel), gT_at 375 (by decide +kernel) (by decide +kernel)⟩
theorem kX1_76 : Cond.methodLink RX1 76 yX1_beginsRun ∈ gT := gT_at 377 (by decide +kernel) (by decide +kernel)
theorem mX1_beginsRun : gMeth yX1_beginsRun cX1_beginsRun 2 (some .boolean) 1 := ⟨gT_at 380 (by decide +kernel) (by decide +kernel), gT_at 47 (by decide +kernel) (by decide +kernel), by decide +kernel, by decide +kernel⟩
theorem vX1_beginsRun : gInst yX1_beginsRun := ⟨gT_at 378 (by decide +kernel) (by decide +kernel), gT_at 379 (by decide +kernel) (by decide +kernel)⟩
theorem kX5_179 : Cond.methodLink RX5 179 yX1_worthTogether ∈ gT := gT_at 381 (by decide +kernel) (by decide +kernel)
theorem mX1_worthTogether : gMeth yX1_worthTogether cX1_worthTogether 4 (some .int) 0 := ⟨gT_at 384 (by decide +kernel) (by decide +kernel), gT_at 47 (by decide +kernel) (by decide +kernel), by decide +kernel, by decide +kernel⟩
theorem vX1_worthTogether : gInst yX1_worthTogether := ⟨gT_at 382 (by decide +kernel) (by decide +kernel), gT_at 383 (by decide +kernel) (by decide +kernel)⟩
theorem kX5_242 : Cond.methodLink RX5 242 yX1_worthOf ∈ gT := gT_at 385 (by decide +kernel) (by decide +kernel)
theorem kL_54 : Cond.methodLink RL 54 yX5_ofRun ∈ gT := gT_at 386 (by decide +kernel) (by decide +kernel)
theorem mX5_ofRun : gMeth yX5_ofRun cX5_ofRun 4 (some .int) 2 := ⟨gT_at 389 (by decide +kernel) (by decide +kernel), gT_at 46 (by decide +kernel) (by decide +kernel), by decide +kernel, by decide +kernel⟩
theorem vX5_ofRun : gInst yX5_ofRun := ⟨gT_at 387 (by decide +kernel) (by decide +kernel), gT_at 388 (by decide +kernel) (by decide +kernel)⟩
theorem kX5_161 : Cond.methodLink RX5 161 yX5_runsNow ∈ gT := gT_at 390 (by decide +kernel) (by decide +kernel)
theorem mX5_runsNow : gMeth yX5_runsNow cX5_runsNow 1 (some .int) 0 := ⟨gT_at 393 (by decide +kernel) (by decide +kernel), gT_at 46 (by decide +kernel) (by decide +kernel), by decide +kernel, by decide +kernel⟩
theorem vX5_runsNow : gInst yX5_runsNow := ⟨gT_at 392 (by decide +kernel) (by decide +kernel), gT_at 6 (by decide +kernel) (by decide +kernel)⟩
theorem kX5_164 : Cond.methodLink RX5 164 yX1_firstOfRun ∈ gT := gT_at 394 (by decide +kernel) (by decide +kernel)
theorem mX1_firstOfRun : gMeth yX1_firstOfRun cX1_firstOfRun 4 (some .int) 1 := ⟨gT_at 397 (by decide +kernel) (by decide +kernel), gT_at 47 (by decide +kernel) (by decide +kernel), by decide +kernel, by decide +kernel⟩
theorem vX1_firstOfRun : gInst yX1_firstOfRun := ⟨gT_at 395 (by decide +kernel) (by decide +kernel), gT_at 396 (by decide +kernel) (by decide +kernel)⟩
theorem kL_58 : Cond.methodLink RL 58 yX5_whole ∈ gT := gT_at 398 (by decide +kernel) (by decide +kernel)
theorem mX5_whole : gMeth yX5_whole cX5_whole 2 (some .int) 1 := ⟨gT_at 401 (by decide +kernel) (by decide +kernel), gT_at 46 (by decide +kernel) (by decide +kernel), by decide +kernel, by decide +kernel⟩
theorem vX5_whole : gInst yX5_whole := ⟨gT_at 399 (by decide +kernel) (by decide +kernel), gT_at 400 (by decide +kernel) (by decide +kernel)⟩
theorem kX5_173 : Cond.methodLink RX5 173 yX1_needed ∈ gT := gT_at 402 (by decide +kernel) (by decide +kernel)
theorem mX1_needed : gMeth yX1_needed cX1_needed 3 (some .int) 0 := ⟨gT_at 405 (by decide +kernel) (by decide +kernel), gT_at 47 (by decide +kernel) (by decide +kernel), by decide +kernel, by decide +kernel⟩
theorem vX1_needed : gInst yX1_needed := ⟨gT_at 403 (by decide +kernel) (by decide +kernel), gT_at 404 (by decide +kernel) (by decide +kernel)⟩
theorem kX1_82 : Cond.methodLink RX1 82 yX1_isNeeded ∈ gT := gT_at 406 (by decide +kernel) (by decide +kernel)
theorem mX1_isNeeded : gMeth yX1_isNeeded cX1_isNeeded 3 (some .boolean) 1 := ⟨gT_at 409 (by decide +kernel) (by decide +kernel), gT_at 47 (by decide +kernel) (by decide +kernel), by decide +kernel, by decide +kernel⟩
theorem vX1_isNeeded : gInst yX1_isNeeded := ⟨gT_at 408 (by decide +kernel) (by decide +kernel), gT_at 7 (by decide +kernel) (by decide +kernel)⟩
theorem kL_62 : Cond.methodLink RL 62 yX5_reading ∈ gT := gT_at 410 (by decide +kernel) (by decide +kernel)
theorem mX5_reading : gMeth yX5_reading cX5_reading 4 (some .int) 2 := ⟨gT_at 413 (by decide +kernel) (by decide +kernel), gT_at 46 (by decide +kernel) (by decide +kernel), by decide +kernel, by decide +kernel⟩
theorem vX5_reading : gInst yX5_reading := ⟨gT_at 411 (by decide +kernel) (by decide +kernel), gT_at 412 (by decide +kernel) (by decide +kernel)⟩
theorem kL_66 : Cond.methodLink RL 66 yX5_back ∈ gT := gT_at 414 (by decide +kernel) (by decide +kernel)
theorem mX5_back : gMeth yX5_back cX5_back 2 (some .int) 1 := ⟨gT_at 417 (by decide +kernel) (by decide +kernel), gT_at 46 (by decide +kernel) (by decide +kernel), by decide +kernel, by decide +kernel⟩
theorem vX5_back : gInst yX5_back := ⟨gT_at 415 (by decide +kernel) (by decide +kernel), gT_at 416 (by decide +kernel) (by decide +kernel)⟩
theorem kL_70 : Cond.methodLink RL 70 yX5_kinds ∈ gT := gT_at 418 (by decide +kernel) (by decide +kernel)
theorem mX5_kinds : gMeth yX5_kinds cX5_kinds 6 (some .int) 1 := ⟨gT_at 421 (by decide +kernel) (by decide +kernel), gT_at 46 (by decide +kernel) (by decide +kernel), by decide +kernel, by decide +kernel⟩
theorem vX5_kinds : gInst yX5_kinds := ⟨gT_at 419 (by decide +kernel) (by decide +kernel), gT_at 420 (by decide +kernel) (by decide +kernel)⟩
theorem kX5_182 : Cond.methodLink RX5 182 yX5_areReadingsSo ∈ gT := gT_at 422 (by decide +kernel) (by decide +kernel)
theorem mX5_areReadingsSo : gMeth yX5_areReadingsSo cX5_areReadingsSo 2 (some .boolean) 0 := ⟨gT_at 425 (by decide +kernel) (by decide +kernel), gT_at 46 (by decide +kernel) (by decide +kernel), by decide +kernel, by decide +kernel⟩
theorem vX5_areReadingsSo : gInst yX5_areReadingsSo := ⟨gT_at 424 (by decide +kernel) (by decide +kernel), gT_at 8 (by decide +kernel) (by decide +kernel)⟩
theorem kL_74 : Cond.methodLink RL 74 yX5_numbers ∈ gT := gT_at 426 (by decide +kernel) (by decide +kernel)
theorem mX5_numbers : gMeth yX5_numbers cX5_numbers 6 (some .int) 1 := ⟨gT_at 429 (by decide +kernel) (by decide +kernel), gT_at 46 (by decide +kernel) (by decide +kernel), by decide +kernel, by decide +kernel⟩
theorem vX5_numbers : gInst yX5_numbers := ⟨gT_at 427 (by decide +kernel) (by decide +kernel), gT_at 428 (by decide +kernel) (by decide +kernel)⟩
theorem kL_78 : Cond.methodLink RL 78 yX5_odds ∈ gT := gT_at 430 (by decide +kernel) (by decide +kernel)
theorem mX5_odds : gMeth yX5_odds cX5_odds 5 (some .long) 2 := ⟨gT_at 433 (by decide +kernel) (by decide +kernel), gT_at 46 (by decide +kernel) (by decide +kernel), by decide +kernel, by decide +kernel⟩
theorem vX5_odds : gInst yX5_odds := ⟨gT_at 431 (by decide +kernel) (by decide +kernel), gT_at 432 (by decide +kernel) (by decide +kernel)⟩
theorem kX5_188 : Cond.methodLink RX5 188 yX1_countWorth ∈ gT := gT_at 435 (by decide +kernel) (by decide +kernel)
theorem kX5_191 : Cond.methodLink RX5 191 yX5_greatestCommon ∈ gT := gT_at 436 (by decide +kernel) (by decide +kernel)
theorem mX5_greatestCommon : gMeth yX5_greatestCommon cX5_greatestCommon 6 (some .int) 2 := ⟨gT_at 438 (by decide +kernel) (by decide +kernel), gT_at 46 (by decide +kernel) (by decide +kernel), by decide +kernel, by decide +kernel⟩
theorem sX5_greatestCommon : Cond.static yX5_greatestCommon ∈ gT := gT_at 437 (by decide +kernel) (by decide +kernel)
theorem kX5_245 : Cond.methodLink RX5 245 yJ9_max_7cf53 ∈ gT := gT_at 439 (by decide +kernel) (by decide +kernel)
theorem kL_83 : Cond.methodLink RL 83 yX5_sheet ∈ gT := gT_at 442 (by decide +kernel) (by decide +kernel)
theorem mX5_sheet : gMeth yX5_sheet cX5_sheet 4 (some .int) 3 := ⟨gT_at 445 (by decide +kernel) (by decide +kernel), gT_at 46 (by decide +kernel) (by decide +kernel), by decide +kernel, by decide +kernel⟩
theorem vX5_sheet : gInst yX5_sheet := ⟨gT_at 443 (by decide +kernel) (by decide +kernel), gT_at 444 (by decide +kernel) (by decide +kernel)⟩
theorem kX5_195 : Cond.methodLink RX5 195 yX2_becomeNew ∈ gT := gT_at 446 (by decide +kernel) (by decide +kernel)
theorem mX2_becomeNew : gMeth yX2_becomeNew cX2_becomeNew 4 none 2 := ⟨gT_at 449 (by decide +kernel) (by decide +kernel), gT_at 50 (by decide +kernel) (by decide +kernel), by decide +kernel, by decide +kernel⟩
theorem vX2_becomeNew : gInst yX2_becomeNew := ⟨gT_at 447 (by decide +kernel) (by decide +kernel), gT_at 448 (by decide +kernel) (by decide +kernel)⟩
theorem kX2_22 : Cond.methodLink RX2 22 yJ9_min_7cf53 ∈ gT := gT_at 450 (by decide +kernel) (by decide +kernel)
theorem kX2_28 : Cond.methodLink RX2 28 yJ9_max_7cf53 ∈ gT := gT_at 451 (by decide +kernel) (by decide +kernel)
theorem kL_88 : Cond.methodLink RL 88 yX5_lose ∈ gT := gT_at 452 (by decide +kernel) (by decide +kernel)
theorem mX5_lose : gMeth yX5_lose cX5_lose 3 (some .int) 1 := ⟨gT_at 455 (by decide +kernel) (by decide +kernel), gT_at 46 (by decide +kernel) (by decide +kernel), by decide +kernel, by decide +kernel⟩
theorem vX5_lose : gInst yX5_lose := ⟨gT_at 453 (by decide +kernel) (by decide +kernel), gT_at 454 (by decide +kernel) (by decide +kernel)⟩
theorem kX5_199 : Cond.methodLink RX5 199 yX2_isNothing ∈ gT := gT_at 456 (by decide +kernel) (by decide +kernel)
theorem kX5_202 : Cond.methodLink RX5 202 yX2_becomeNothing ∈ gT := gT_at 457 (by decide +kernel) (by decide +kernel)
theorem mX2_becomeNothing : gMeth yX2_becomeNothing cX2_becomeNothing 1 none 0 := ⟨gT_at 460 (by decide +kernel) (by decide +kernel), gT_at 50 (by decide +kernel) (by decide +kernel), by decide +kernel, by decide +kernel⟩
theorem vX2_becomeNothing : gInst yX2_becomeNothing := ⟨gT_at 458 (by decide +kernel) (by decide +kernel), gT_at 459 (by decide +kernel) (by decide +kernel)⟩
theorem kL_92 : Cond.methodLink RL 92 yX5_put ∈ gT := gT_at 461 (by decide +kernel) (by decide +kernel)
theorem mX5_put : gMeth yX5_put cX5_put 5 (some .int) 3 := ⟨gT_at 464 (by decide +kernel) (by decide +kernel), gT_at 46 (by decide +kernel) (by decide +kernel), by decide +kernel, by decide +kernel⟩
theorem vX5_put : gInst yX5_put := ⟨gT_at 462 (by decide +kernel) (by decide +kernel), gT_at 463 (by decide +kernel) (by decide +kernel)⟩
theorem kX5_205 : Cond.methodLink RX5 205 yX2_write ∈ gT := gT_at 465 (by decide +kernel) (by decide +kernel)
theorem mX2_write : gMeth yX2_write cX2_write 3 none 2 := ⟨gT_at 468 (by decide +kernel) (by decide +kernel), gT_at 50 (by decide +kernel) (by decide +kernel), by decide +kernel, by decide +kernel⟩
theorem vX2_write : gInst yX2_write := ⟨gT_at 466 (by decide +kernel) (by decide +kernel), gT_at 467 (by decide +kernel) (by decide +kernel)⟩
theorem kX2_35 : Cond.methodLink RX2 35 yX2_cut ∈ gT := gT_at 469 (by decide +kernel) (by decide +kernel)
theorem mX2_cut : gMeth yX2_cut cX2_cut 2 (some .int) 1 := ⟨gT_at 472 (by decide +kernel) (by decide +kernel), gT_at 50 (by decide +kernel) (by decide +kernel), by decide +kernel, by decide +kernel⟩
theorem vX2_cut : gInst yX2_cut := ⟨gT_at 471 (by decide +kernel) (by decide +kernel), gT_at 9 (by decide +kernel) (by decide +kernel)⟩
theorem kL_96 : Cond.methodLink RL 96 yX5_cell ∈ gT := gT_at 473 (by decide +kernel) (by decide +kernel)
theorem mX5_cell : gMeth yX5_cell cX5_cell 5 (some .long) 3 := ⟨gT_at 476 (by decide +kernel) (by decide +kernel), gT_at 46 (by decide +kernel) (by decide +kernel), by decide +kernel, by decide +kernel⟩
theorem vX5_cell : gInst yX5_cell := ⟨gT_at 474 (by decide +kernel) (by decide +kernel), gT_at 475 (by decide +kernel) (by decide +kernel)⟩
theorem kL_101 : Cond.methodLink RL 101 yX5_copy ∈ gT := gT_at 477 (by decide +kernel) (by decide +kernel)
theorem mX5_copy : gMeth yX5_copy cX5_copy 8 (some .int) 5 := ⟨gT_at 480 (by decide +kernel) (by decide +kernel), gT_at 46 (by decide +kernel) (by decide +kernel), by decide +kernel, by decide +kernel⟩
theorem vX5_copy : gInst yX5_copy := ⟨gT_at 478 (by decide +kernel) (by decide +kernel), gT_at 479 (by decide +kernel) (by decide +kernel)⟩
theorem kL_105 : Cond.methodLink RL 105 yX5_tell ∈ gT := gT_at 484 (by decide +kernel) (by decide +kernel)
theorem mX5_tell : gMeth yX5_tell cX5_tell 3 (some .int) 1 := ⟨gT_at 487 (by decide +kernel) (by decide +kernel), gT_at 46 (by decide +kernel) (by decide +kernel), by decide +kernel, by decide +kernel⟩
theorem vX5_tell : gInst yX5_tell := ⟨gT_at 485 (by decide +kernel) (by decide +kernel), gT_at 486 (by decide +kernel) (by decide +kernel)⟩
theorem kX5_223 : Cond.methodLink RX5 223 yX5_bulkyBody ∈ gT := gT_at 488 (by decide +kernel) (by decide +kernel)
theorem mX5_bulkyBody : gMeth yX5_bulkyBody cX5_bulkyBody 2 (some .int) 1 := ⟨gT_at 491 (by decide +kernel) (by decide +kernel), gT_at 46 (by decide +kernel) (by decide +kernel), by decide +kernel, by decide +kernel⟩
theorem vX5_bulkyBody : gInst yX5_bulkyBody := ⟨gT_at 490 (by decide +kernel) (by decide +kernel), gT_at 10 (by decide +kernel) (by decide +kernel)⟩
theorem kX5_256 : Cond.methodLink RX5 256 yX5_leave ∈ gT := gT_at 492 (by decide +kernel) (by decide +kernel)
theorem mX5_leave : gMeth yX5_leave cX5_leave 2 none 1 := ⟨gT_at 495 (by decide +kernel) (by decide +kernel), gT_at 46 (by decide +kernel) (by decide +kernel), by decide +kernel, by decide +kernel⟩
theorem vX5_leave : gInst yX5_leave := ⟨gT_at 494 (by decide +kernel) (by decide +kernel), gT_at 11 (by decide +kernel) (by decide +kernel)⟩
theorem kX5_230 : Cond.methodLink RX5 230 yX5_plainBody ∈ gT := gT_at 496 (by decide +kernel) (by decide +kernel)
theorem mX5_plainBody : gMeth yX5_plainBody cX5_plainBody 2 (some .int) 1 := ⟨gT_at 499 (by decide +kernel) (by decide +kernel), gT_at 46 (by decide +kernel) (by decide +kernel), by decide +kernel, by decide +kernel⟩
theorem vX5_plainBody : gInst yX5_plainBody := ⟨gT_at 498 (by decide +kernel) (by decide +kernel), gT_at 12 (by decide +kernel) (by decide +kernel)⟩
theorem kX5_227 : Cond.methodLink RX5 227 yX5_doubleBody ∈ gT := gT_at 500 (by decide +kernel) (by decide +kernel)
theorem mX5_doubleBody : gMeth yX5_doubleBody cX5_doubleBody 3 (some .int) 1 := ⟨gT_at 503 (by decide +kernel) (by decide +kernel), gT_at 46 (by decide +kernel) (by decide +kernel), by decide +kernel, by decide +kernel⟩
theorem vX5_doubleBody : gInst yX5_doubleBody := ⟨gT_at 502 (by decide +kernel) (by decide +kernel), gT_at 13 (by decide +kernel) (by decide +kernel)⟩
theorem kL_109 : Cond.methodLink RL 109 yX5_cite ∈ gT := gT_at 504 (by decide +kernel) (by decide +kernel)
theorem mX5_cite : gMeth yX5_cite cX5_cite 3 (some .int) 1 := ⟨gT_at 507 (by decide +kernel) (by decide +kernel), gT_at 46 (by decide +kernel) (by decide +kernel), by decide +kernel, by decide +kernel⟩
theorem vX5_cite : gInst yX5_cite := ⟨gT_at 505 (by decide +kernel) (by decide +kernel), gT_at 506 (by decide +kernel) (by decide +kernel)⟩
theorem kX5_233 : Cond.methodLink RX5 233 yX5_ownCiteBody ∈ gT := gT_at 508 (by decide +kernel) (by decide +kernel)
theorem mX5_ownCiteBody : gMeth yX5_ownCiteBody cX5_ownCiteBody 1 (some .int) 0 := ⟨gT_at 511 (by decide +kernel) (by decide +kernel), gT_at 46 (by decide +kernel) (by decide +kernel), by decide +kernel, by decide +kernel⟩
theorem vX5_ownCiteBody : gInst yX5_ownCiteBody := ⟨gT_at 510 (by decide +kernel) (by decide +kernel), gT_at 14 (by decide +kernel) (by decide +kernel)⟩
theorem kX5_236 : Cond.methodLink RX5 236 yX5_lentCiteBody ∈ gT := gT_at 512 (by decide +kernel) (by decide +kernel)
theorem mX5_lentCiteBody : gMeth yX5_lentCiteBody cX5_lentCiteBody 2 (some .int) 1 := ⟨gT_at 515 (by decide +kernel) (by decide +kernel), gT_at 46 (by decide +kernel) (by decide +kernel), by decide +kernel, by decide +kernel⟩
theorem vX5_lentCiteBody : gInst yX5_lentCiteBody := ⟨gT_at 514 (by decide +kernel) (by decide +kernel), gT_at 15 (by decide +kernel) (by decide +kernel)⟩
theorem kL_113 : Cond.methodLink RL 113 yX5_as ∈ gT := gT_at 516 (by decide +kernel) (by decide +kernel)
theorem mX5_as : gMeth yX5_as cX5_as 3 (some .int) 2 := ⟨gT_at 519 (by decide +kernel) (by decide +kernel), gT_at 46 (by decide +kernel) (by decide +kernel), by decide +kernel, by decide +kernel⟩
theorem vX5_as : gInst yX5_as := ⟨gT_at 517 (by decide +kernel) (by decide +kernel), gT_at 518 (by decide +kernel) (by decide +kernel)⟩
theorem kL_117 : Cond.methodLink RL 117 yX5_trace ∈ gT := gT_at 520 (by decide +kernel) (by decide +kernel)
theorem mX5_trace : gMeth yX5_trace cX5_trace 1 (some .int) 0 := ⟨gT_at 523 (by decide +kernel) (by decide +kernel), gT_at 46 (by decide +kernel) (by decide +kernel), by decide +kernel, by decide +kernel⟩
theorem vX5_trace : gInst yX5_trace := ⟨gT_at 521 (by decide +kernel) (by decide +kernel), gT_at 522 (by decide +kernel) (by decide +kernel)⟩
theorem kL_122 : Cond.methodLink RL 122 yX5_fault ∈ gT := gT_at 524 (by decide +kernel) (by decide +kernel)
theorem mX5_fault : gMeth yX5_fault cX5_fault 1 (some .int) 0 := ⟨gT_at 527 (by decide +kernel) (by decide +kernel), gT_at 46 (by decide +kernel) (by decide +kernel), by decide +kernel, by decide +kernel⟩
theorem vX5_fault : gInst yX5_fault := ⟨gT_at 525 (by decide +kernel) (by decide +kernel), gT_at 526 (by decide +kernel) (by decide +kernel)⟩
theorem kL_126 : Cond.methodLink RL 126 yX5_many ∈ gT := gT_at 528 (by decide +kernel) (by decide +kernel)
theorem mX5_many : gMeth yX5_many cX5_many 2 (some .int) 1 := ⟨gT_at 531 (by decide +kernel) (by decide +kernel), gT_at 46 (by decide +kernel) (by decide +kernel), by decide +kernel, by decide +kernel⟩
theorem vX5_many : gInst yX5_many := ⟨gT_at 529 (by decide +kernel) (by decide +kernel), gT_at 530 (by decide +kernel) (by decide +kernel)⟩
theorem kL_12 : Cond.methodLink RL 12 yX6_init ∈ gT := gT_at 534 (by decide +kernel) (by decide +kernel)
theorem mX6_init : gMeth yX6_init cX6_init 1 none 0 := ⟨gT_at 536 (by decide +kernel) (by decide +kernel), gT_at 51 (by decide +kernel) (by decide +kernel), by decide +kernel, by decide +kernel⟩
theorem vX6_init : Cond.instanceMethod yX6_init ∈ gT := gT_at 535 (by decide +kernel) (by decide +kernel)
theorem kX6_1 : Cond.methodLink RX6 1 objectInit ∈ gT := gT_at 537 (by decide +kernel) (by decide +kernel)
theorem fX6_37 : gFld RX6 37 5 0 := ⟨(RX6, TX6, 17), rfl, by decide, gT_at 538 (by decide +kernel) (by decide +kernel), uX6⟩
theorem fX6_179 : gFld RX6 179 5 1 := ⟨(RX6, TX6, 17), rfl, by decide, gT_at 539 (by decide +kernel) (by decide +kernel), uX6⟩
theorem fX6_9 : gFld RX6 9 5 2 := ⟨(RX6, TX6, 17), rfl, by decide, gT_at 540 (by decide +kernel) (by decide +kernel), uX6⟩
theorem fX6_13 : gFld RX6 13 5 3 := ⟨(RX6, TX6, 17), rfl, by decide, gT_at 541 (by decide +kernel) (by decide +kernel), uX6⟩
theorem fX6_16 : gFld RX6 16 5 4 := ⟨(RX6, TX6, 17), rfl, by decide, gT_at 542 (by decide +kernel) (by decide +kernel), uX6⟩
theorem fX6_47 : gFld RX6 47 5 5 := ⟨(RX6, TX6, 17), rfl, by decide, gT_at 543 (by decide +kernel) (by decide +kernel), uX6⟩
theorem fX6_19 : gFld RX6 19 5 6 := ⟨(RX6, TX6, 17), rfl, by decide, gT_at 544 (by decide +kernel) (by decide +kernel), uX6⟩
theorem fX6_71 : gFld RX6 71 5 7 := ⟨(RX6, TX6, 17), rfl, by decide, gT_at 545 (by decide +kernel) (by decide +kernel), uX6⟩
theorem fX6_77 : gFld RX6 77 5 8 := ⟨(RX6, TX6, 17), rfl, by decide, gT_at 546 (by decide +kernel) (by decide +kernel), uX6⟩
theorem fX6_22 : gFld RX6 22 5 9 := ⟨(RX6, TX6, 17), rfl, by decide, gT_at 547 (by decide +kernel) (by decide +kernel), uX6⟩
theorem fX6_25 : gFld RX6 25 5 10 := ⟨(RX6, TX6, 17), rfl, by decide, gT_at 548 (by decide +kernel) (by decide +kernel), uX6⟩
theorem fX6_97 : gFld RX6 97 5 11 := ⟨(RX6, TX6, 17), rfl, by decide, gT_at 549 (by decide +kernel) (by decide +kernel), uX6⟩
theorem fX6_100 : gFld RX6 100 5 12 := ⟨(RX6, TX6, 17), rfl, by decide, gT_at 550 (by decide +kernel) (by decide +kernel), uX6⟩
theorem fX6_28 : gFld RX6 28 5 13 := ⟨(RX6, TX6, 17), rfl, by decide, gT_at 551 (by decide +kernel) (by decide +kernel), uX6⟩
theorem fX6_80 : gFld RX6 80 5 14 := ⟨(RX6, TX6, 17), rfl, by decide, gT_at 552 (by decide +kernel) (by decide +kernel), uX6⟩
theorem fX6_31 : gFld RX6 31 5 15 := ⟨(RX6, TX6, 17), rfl, by decide, gT_at 553 (by decide +kernel) (by decide +kernel), uX6⟩
theorem fX6_34 : gFld RX6 34 5 16 := ⟨(RX6, TX6, 17), rfl, by decide, gT_at 554 (by decide +kernel) (by decide +kernel), uX6⟩
theorem kL_17 : Cond.methodLink RL 17 yX6_rules ∈ gT := gT_at 590 (by decide +kernel) (by decide +kernel)
theorem mX6_rules : gMeth yX6_rules cX6_rules 8 (some .int) 4 := ⟨gT_at 593 (by decide +kernel) (by decide +kernel), gT_at 51 (by decide +kernel) (by decide +kernel), by decide +kernel, by decide +kernel⟩
theorem vX6_rules : gInst yX6_rules := ⟨gT_at 591 (by decide +kernel) (by decide +kernel), gT_at 592 (by decide +kernel) (by decide +kernel)⟩
theorem kX6_57 : Cond.methodLink RX6 57 yX6_isSheet ∈ gT := gT_at 594 (by decide +kernel) (by decide +kernel)
theorem mX6_isSheet : gMeth yX6_isSheet cX6_isSheet 1 (some .boolean) 1 := ⟨gT_at 596 (by decide +kernel) (by decide +kernel), gT_at 51 (by decide +kernel) (by decide +kernel), by decide +kernel, by decide +kernel⟩
theorem sX6_isSheet : Cond.static yX6_isSheet ∈ gT := gT_at 595 (by decide +kernel) (by decide +kernel)
theorem kX6_43 : Cond.methodLink RX6 43 yX6_within ∈ gT := gT_at 597 (by decide +kernel) (by decide +kernel)
theorem mX6_within : gMeth yX6_within cX6_within 3 (some .boolean) 3 := ⟨gT_at 599 (by decide +kernel) (by decide +kernel), gT_at 51 (by decide +kernel) (by decide +kernel), by decide +kernel, by decide +kernel⟩
theorem sX6_within : Cond.static yX6_within ∈ gT := gT_at 598 (by decide +kernel) (by decide +kernel)
theorem kX6_61 : Cond.methodLink RX6 61 yX6_isSort ∈ gT := gT_at 600 (by decide +kernel) (by decide +kernel)
theorem mX6_isSort : gMeth yX6_isSort cX6_isSort 1 (some .boolean) 1 := ⟨gT_at 602 (by decide +kernel) (by decide +kernel), gT_at 51 (by decide +kernel) (by decide +kernel), by decide +kernel, by decide +kernel⟩
theorem sX6_isSort : Cond.static yX6_isSort ∈ gT := gT_at 601 (by decide +kernel) (by decide +kernel)
theorem kX6_64 : Cond.methodLink RX6 64 yX6_against ∈ gT := gT_at 603 (by decide +kernel) (by decide +kernel)
theorem mX6_against : gMeth yX6_against cX6_against 5 (some .int) 4 := ⟨gT_at 606 (by decide +kernel) (by decide +kernel), gT_at 51 (by decide +kernel) (by decide +kernel), by decide +kernel, by decide +kernel⟩
theorem vX6_against : gInst yX6_against := ⟨gT_at 605 (by decide +kernel) (by decide +kernel), gT_at 16 (by decide +kernel) (by decide +kernel)⟩
theorem kX6_68 : Cond.methodLink RX6 68 yX6_fails ∈ gT := gT_at 607 (by decide +kernel) (by decide +kernel)
theorem mX6_fails : gMeth yX6_fails cX6_fails 2 (some .int) 1 := ⟨gT_at 610 (by decide +kernel) (by decide +kernel), gT_at 51 (by decide +kernel) (by decide +kernel), by decide +kernel, by decide +kernel⟩
theorem vX6_fails : gInst yX6_fails := ⟨gT_at 609 (by decide +kernel) (by decide +kernel), gT_at 17 (by decide +kernel) (by decide +kernel)⟩
theorem kX6_74 : Cond.methodLink RX6 74 yX6_readAll ∈ gT := gT_at 611 (by decide +kernel) (by decide +kernel)
theorem mX6_readAll : gMeth yX6_readAll cX6_readAll 2 (some .boolean) 1 := ⟨gT_at 614 (by decide +kernel) (by decide +kernel), gT_at 51 (by decide +kernel) (by decide +kernel), by decide +kernel, by decide +kernel⟩
theorem vX6_readAll : gInst yX6_readAll := ⟨gT_at 613 (by decide +kernel) (by decide +kernel), gT_at 18 (by decide +kernel) (by decide +kernel)⟩
theorem kX6_83 : Cond.methodLink RX6 83 yX6_isSign ∈ gT := gT_at 615 (by decide +kernel) (by decide +kernel)
theorem mX6_isSign : gMeth yX6_isSign cX6_isSign 3 (some .boolean) 2 := ⟨gT_at 618 (by decide +kernel) (by decide +kernel), gT_at 51 (by decide +kernel) (by decide +kernel), by decide +kernel, by decide +kernel⟩
theorem vX6_isSign : gInst yX6_isSign := ⟨gT_at 617 (by decide +kernel) (by decide +kernel), gT_at 19 (by decide +kernel) (by decide +kernel)⟩
theorem kX6_87 : Cond.methodLink RX6 87 yX6_readRule ∈ gT := gT_at 619 (by decide +kernel) (by decide +kernel)
theorem mX6_readRule : gMeth yX6_readRule cX6_readRule 4 (some .boolean) 2 := ⟨gT_at 622 (by decide +kernel) (by decide +kernel), gT_at 51 (by decide +kernel) (by decide +kernel), by decide +kernel, by decide +kernel⟩
theorem vX6_readRule : gInst yX6_readRule := ⟨gT_at 621 (by decide +kernel) (by decide +kernel), gT_at 20 (by decide +kernel) (by decide +kernel)⟩
theorem kX6_90 : Cond.methodLink RX6 90 yX6_readNumber ∈ gT := gT_at 623 (by decide +kernel) (by decide +kernel)
theorem mX6_readNumber : gMeth yX6_readNumber cX6_readNumber 6 (some .boolean) 5 := ⟨gT_at 626 (by decide +kernel) (by decide +kernel), gT_at 51 (by decide +kernel) (by decide +kernel), by decide +kernel, by decide +kernel⟩
theorem vX6_readNumber : gInst yX6_readNumber := ⟨gT_at 625 (by decide +kernel) (by decide +kernel), gT_at 21 (by decide +kernel) (by decide +kernel)⟩
theorem kL_22 : Cond.methodLink RL 22 yX6_ofRule ∈ gT := gT_at 627 (by decide +kernel) (by decide +kernel)
theorem mX6_ofRule : gMeth yX6_ofRule cX6_ofRule 3 (some .int) 2 := ⟨gT_at 630 (by decide +kernel) (by decide +kernel), gT_at 51 (by decide +kernel) (by decide +kernel), by decide +kernel, by decide +kernel⟩
theorem vX6_ofRule : gInst yX6_ofRule := ⟨gT_at 628 (by decide +kernel) (by decide +kernel), gT_at 629 (by decide +kernel) (by decide +kernel)⟩
theorem kX6_116 : Cond.methodLink RX6 116 yX6_isRule ∈ gT := gT_at 631 (by decide +kernel) (by decide +kernel)
theorem mX6_isRule : gMeth yX6_isRule cX6_isRule 2 (some .boolean) 1 := ⟨gT_at 634 (by decide +kernel) (by decide +kernel), gT_at 51 (by decide +kernel) (by decide +kernel), by decide +kernel, by decide +kernel⟩
theorem vX6_isRule : gInst yX6_isRule := ⟨gT_at 633 (by decide +kernel) (by decide +kernel), gT_at 22 (by decide +kernel) (by decide +kernel)⟩
theorem kX6_110 : Cond.methodLink RX6 110 yX6_worthOf ∈ gT := gT_at 635 (by decide +kernel) (by decide +kernel)
theorem mX6_worthOf : gMeth yX6_worthOf cX6_worthOf 2 (some .int) 1 := ⟨gT_at 638 (by decide +kernel) (by decide +kernel), gT_at 51 (by decide +kernel) (by decide +kernel), by decide +kernel, by decide +kernel⟩
theorem vX6_worthOf : gInst yX6_worthOf := ⟨gT_at 637 (by decide +kernel) (by decide +kernel), gT_at 23 (by decide +kernel) (by decide +kernel)⟩
theorem kX6_50 : Cond.methodLink RX6 50 yX6_kindOf ∈ gT := gT_at 639 (by decide +kernel) (by decide +kernel)
theorem mX6_kindOf : gMeth yX6_kindOf cX6_kindOf 2 (some .int) 1 := ⟨gT_at 642 (by decide +kernel) (by decide +kernel), gT_at 51 (by decide +kernel) (by decide +kernel), by decide +kernel, by decide +kernel⟩
theorem vX6_kindOf : gInst yX6_kindOf := ⟨gT_at 641 (by decide +kernel) (by decide +kernel), gT_at 24 (by decide +kernel) (by decide +kernel)⟩
theorem kX6_54 : Cond.methodLink RX6 54 yX6_numberOf ∈ gT := gT_at 643 (by decide +kernel) (by decide +kernel)
theorem mX6_numberOf : gMeth yX6_numberOf cX6_numberOf 2 (some .int) 1 := ⟨gT_at 646 (by decide +kernel) (by decide +kernel), gT_at 51 (by decide +kernel) (by decide +kernel), by decide +kernel, by decide +kernel⟩
theorem vX6_numberOf : gInst yX6_numberOf := ⟨gT_at 645 (by decide +kernel) (by decide +kernel), gT_at 25 (by decide +kernel) (by decide +kernel)⟩
theorem kX6_119 : Cond.methodLink RX6 119 yX6_wins ∈ gT := gT_at 647 (by decide +kernel) (by decide +kernel)
theorem mX6_wins : gMeth yX6_wins cX6_wins 4 (some .int) 1 := ⟨gT_at 650 (by decide +kernel) (by decide +kernel), gT_at 51 (by decide +kernel) (by decide +kernel), by decide +kernel, by decide +kernel⟩
theorem vX6_wins : gInst yX6_wins := ⟨gT_at 649 (by decide +kernel) (by decide +kernel), gT_at 26 (by decide +kernel) (by decide +kernel)⟩
theorem kX6_113 : Cond.methodLink RX6 113 yX6_winnerOf ∈ gT := gT_at 651 (by decide +kernel) (by decide +kernel)
theorem mX6_winnerOf : gMeth yX6_winnerOf cX6_winnerOf 3 (some .int) 1 := ⟨gT_at 654 (by decide +kernel) (by decide +kernel), gT_at 51 (by decide +kernel) (by decide +kernel), by decide +kernel, by decide +kernel⟩
theorem vX6_winnerOf : gInst yX6_winnerOf := ⟨gT_at 653 (by decide +kernel) (by decide +kernel), gT_at 27 (by decide +kernel) (by decide +kernel)⟩
theorem kX6_103 : Cond.methodLink RX6 103 yX6_firstOf ∈ gT := gT_at 655 (by decide +kernel) (by decide +kernel)
theorem mX6_firstOf : gMeth yX6_firstOf cX6_firstOf 5 (some .int) 3 := ⟨gT_at 658 (by decide +kernel) (by decide +kernel), gT_at 51 (by decide +kernel) (by decide +kernel), by decide +kernel, by decide +kernel⟩
theorem vX6_firstOf : gInst yX6_firstOf := ⟨gT_at 657 (by decide +kernel) (by decide +kernel), gT_at 28 (by decide +kernel) (by decide +kernel)⟩
theorem kX6_94 : Cond.methodLink RX6 94 yX6_hasPoint ∈ gT := gT_at 659 (by decide +kernel) (by decide +kernel)
theorem mX6_hasPoint : gMeth yX6_hasPoint cX6_hasPoint 3 (some .boolean) 2 := ⟨gT_at 662 (by decide +kernel) (by decide +kernel), gT_at 51 (by decide +kernel) (by decide +kernel), by decide +kernel, by decide +kernel⟩
theorem vX6_hasPoint : gInst yX6_hasPoint := ⟨gT_at 661 (by decide +kernel) (by decide +kernel), gT_at 29 (by decide +kernel) (by decide +kernel)⟩
theorem kL_26 : Cond.methodLink RL 26 yX6_number ∈ gT := gT_at 663 (by decide +kernel) (by decide +kernel)
theorem mX6_number : gMeth yX6_number cX6_number 4 (some .int) 2 := ⟨gT_at 666 (by decide +kernel) (by decide +kernel), gT_at 51 (by decide +kernel) (by decide +kernel), by decide +kernel, by decide +kernel⟩
theorem vX6_number : gInst yX6_number := ⟨gT_at 664 (by decide +kernel) (by decide +kernel), gT_at 665 (by decide +kernel) (by decide +kernel)⟩
theorem kL_31 : Cond.methodLink RL 31 yX6_insert ∈ gT := gT_at 667 (by decide +kernel) (by decide +kernel)
theorem mX6_insert : gMeth yX6_insert cX6_insert 8 (some .int) 6 := ⟨gT_at 670 (by decide +kernel) (by decide +kernel), gT_at 51 (by decide +kernel) (by decide +kernel), by decide +kernel, by decide +kernel⟩
theorem vX6_insert : gInst yX6_insert := ⟨gT_at 668 (by decide +kernel) (by decide +kernel), gT_at 669 (by decide +kernel) (by decide +kernel)⟩
theorem kX6_122 : Cond.methodLink RX6 122 yX6_isPoint ∈ gT := gT_at 671 (by decide +kernel) (by decide +kernel)
theorem mX6_isPoint : gMeth yX6_isPoint cX6_isPoint 1 (some .boolean) 1 := ⟨gT_at 673 (by decide +kernel) (by decide +kernel), gT_at 51 (by decide +kernel) (by decide +kernel), by decide +kernel, by decide +kernel⟩
theorem sX6_isPoint : Cond.static yX6_isPoint ∈ gT := gT_at 672 (by decide +kernel) (by decide +kernel)
theorem kL_36 : Cond.methodLink RL 36 yX6_remove ∈ gT := gT_at 674 (by decide +kernel) (by decide +kernel)
theorem mX6_remove : gMeth yX6_remove cX6_remove 2 (some .int) 1 := ⟨gT_at 677 (by decide +kernel) (by decide +kernel), gT_at 51 (by decide +kernel) (by decide +kernel), by decide +kernel, by decide +kernel⟩
theorem vX6_remove : gInst yX6_remove := ⟨gT_at 675 (by decide +kernel) (by decide +kernel), gT_at 676 (by decide +kernel) (by decide +kernel)⟩
theorem kX6_125 : Cond.methodLink RX6 125 yX6_takes ∈ gT := gT_at 678 (by decide +kernel) (by decide +kernel)
theorem mX6_takes : gMeth yX6_takes cX6_takes 3 none 1 := ⟨gT_at 681 (by decide +kernel) (by decide +kernel), gT_at 51 (by decide +kernel) (by decide +kernel), by decide +kernel, by decide +kernel⟩
theorem vX6_takes : gInst yX6_takes := ⟨gT_at 680 (by decide +kernel) (by decide +kernel), gT_at 30 (by decide +kernel) (by decide +kernel)⟩
theorem kL_40 : Cond.methodLink RL 40 yX6_swap ∈ gT := gT_at 682 (by decide +kernel) (by decide +kernel)
theorem mX6_swap : gMeth yX6_swap cX6_swap 2 (some .int) 1 := ⟨gT_at 685 (by decide +kernel) (by decide +kernel), gT_at 51 (by decide +kernel) (by decide +kernel), by decide +kernel, by decide +kernel⟩
theorem vX6_swap : gInst yX6_swap := ⟨gT_at 683 (by decide +kernel) (by decide +kernel), gT_at 684 (by decide +kernel) (by decide +kernel)⟩
theorem kX6_129 : Cond.methodLink RX6 129 yX6_changes ∈ gT := gT_at 686 (by decide +kernel) (by decide +kernel)
theorem mX6_changes : gMeth yX6_changes cX6_changes 4 none 1 := ⟨gT_at 689 (by decide +kernel) (by decide +kernel), gT_at 51 (by decide +kernel) (by decide +kernel), by decide +kernel, by decide +kernel⟩
theorem vX6_changes : gInst yX6_changes := ⟨gT_at 688 (by decide +kernel) (by decide +kernel), gT_at 31 (by decide +kernel) (by decide +kernel)⟩
theorem kL_44 : Cond.methodLink RL 44 yX6_winner ∈ gT := gT_at 690 (by decide +kernel) (by decide +kernel)
theorem mX6_winner : gMeth yX6_winner cX6_winner 2 (some .int) 1 := ⟨gT_at 693 (by decide +kernel) (by decide +kernel), gT_at 51 (by decide +kernel) (by decide +kernel), by decide +kernel, by decide +kernel⟩
theorem vX6_winner : gInst yX6_winner := ⟨gT_at 691 (by decide +kernel) (by decide +kernel), gT_at 692 (by decide +kernel) (by decide +kernel)⟩
theorem kL_48 : Cond.methodLink RL 48 yX6_ask ∈ gT := gT_at 694 (by decide +kernel) (by decide +kernel)
theorem mX6_ask : gMeth yX6_ask cX6_ask 3 (some .int) 2 := ⟨gT_at 697 (by decide +kernel) (by decide +kernel), gT_at 51 (by decide +kernel) (by decide +kernel), by decide +kernel, by decide +kernel⟩
theorem vX6_ask : gInst yX6_ask := ⟨gT_at 695 (by decide +kernel) (by decide +kernel), gT_at 696 (by decide +kernel) (by decide +kernel)⟩
theorem kX6_132 : Cond.methodLink RX6 132 yX6_asks ∈ gT := gT_at 698 (by decide +kernel) (by decide +kernel)
theorem mX6_asks : gMeth yX6_asks cX6_asks 5 none 2 := ⟨gT_at 701 (by decide +kernel) (by decide +kernel), gT_at 51 (by decide +kernel) (by decide +kernel), by decide +kernel, by decide +kernel⟩
theorem vX6_asks : gInst yX6_asks := ⟨gT_at 700 (by decide +kernel) (by decide +kernel), gT_at 32 (by decide +kernel) (by decide +kernel)⟩
theorem kX6_107 : Cond.methodLink RX6 107 yX6_deedOf ∈ gT := gT_at 702 (by decide +kernel) (by decide +kernel)
theorem mX6_deedOf : gMeth yX6_deedOf cX6_deedOf 2 (some .int) 1 := ⟨gT_at 705 (by decide +kernel) (by decide +kernel), gT_at 51 (by decide +kernel) (by decide +kernel), by decide +kernel, by decide +kernel⟩
theorem vX6_deedOf : gInst yX6_deedOf := ⟨gT_at 704 (by decide +kernel) (by decide +kernel), gT_at 33 (by decide +kernel) (by decide +kernel)⟩
theorem kL_53 : Cond.methodLink RL 53 yX6_day ∈ gT := gT_at 706 (by decide +kernel) (by decide +kernel)
theorem mX6_day : gMeth yX6_day cX6_day 12 (some .int) 5 := ⟨gT_at 709 (by decide +kernel) (by decide +kernel), gT_at 51 (by decide +kernel) (by decide +kernel), by decide +kernel, by decide +kernel⟩
theorem vX6_day : gInst yX6_day := ⟨gT_at 707 (by decide +kernel) (by decide +kernel), gT_at 708 (by decide +kernel) (by decide +kernel)⟩
theorem kX6_139 : Cond.methodLink RX6 139 yX6_isPair ∈ gT := gT_at 710 (by decide +kernel) (by decide +kernel)
theorem mX6_isPair : gMeth yX6_isPair cX6_isPair 2 (some .boolean) 2 := ⟨gT_at 712 (by decide +kernel) (by decide +kernel), gT_at 51 (by decide +kernel) (by decide +kernel), by decide +kernel, by decide +kernel⟩
theorem sX6_isPair : Cond.static yX6_isPair ∈ gT := gT_at 711 (by decide +kernel) (by decide +kernel)
theorem kX6_142 : Cond.methodLink RX6 142 yX6_goDay ∈ gT := gT_at 713 (by decide +kernel) (by decide +kernel)
theorem mX6_goDay : gMeth yX6_goDay cX6_goDay 4 (some .int) 2 := ⟨gT_at 716 (by decide +kernel) (by decide +kernel), gT_at 51 (by decide +kernel) (by decide +kernel), by decide +kernel, by decide +kernel⟩
theorem vX6_goDay : gInst yX6_goDay := ⟨gT_at 715 (by decide +kernel) (by decide +kernel), gT_at 34 (by decide +kernel) (by decide +kernel)⟩
theorem kX6_136 : Cond.methodLink RX6 136 yX6_does ∈ gT := gT_at 717 (by decide +kernel) (by decide +kernel)
theorem mX6_does : gMeth yX6_does cX6_does 4 (some .boolean) 2 := ⟨gT_at 720 (by decide +kernel) (by decide +kernel), gT_at 51 (by decide +kernel) (by decide +kernel), by decide +kernel, by decide +kernel⟩
theorem vX6_does : gInst yX6_does := ⟨gT_at 719 (by decide +kernel) (by decide +kernel), gT_at 35 (by decide +kernel) (by decide +kernel)⟩
theorem kX6_146 : Cond.methodLink RX6 146 yX6_tellDay ∈ gT := gT_at 721 (by decide +kernel) (by decide +kernel)
theorem mX6_tellDay : gMeth yX6_tellDay cX6_tellDay 2 (some .int) 1 := ⟨gT_at 724 (by decide +kernel) (by decide +kernel), gT_at 51 (by decide +kernel) (by decide +kernel), by decide +kernel, by decide +kernel⟩
theorem vX6_tellDay : gInst yX6_tellDay := ⟨gT_at 723 (by decide +kernel) (by decide +kernel), gT_at 36 (by decide +kernel) (by decide +kernel)⟩
theorem kX6_149 : Cond.methodLink RX6 149 yX6_manyDenied ∈ gT := gT_at 725 (by decide +kernel) (by decide +kernel)
theorem mX6_manyDenied : gMeth yX6_manyDenied cX6_manyDenied 3 (some .int) 0 := ⟨gT_at 728 (by decide +kernel) (by decide +kernel), gT_at 51 (by decide +kernel) (by decide +kernel), by decide +kernel, by decide +kernel⟩
theorem vX6_manyDenied : gInst yX6_manyDenied := ⟨gT_at 727 (by decide +kernel) (by decide +kernel), gT_at 37 (by decide +kernel) (by decide +kernel)⟩
theorem kX6_153 : Cond.methodLink RX6 153 yX6_shadowed ∈ gT := gT_at 729 (by decide +kernel) (by decide +kernel)
theorem mX6_shadowed : gMeth yX6_shadowed cX6_shadowed 3 (some .int) 0 := ⟨gT_at 732 (by decide +kernel) (by decide +kernel), gT_at 51 (by decide +kernel) (by decide +kernel), by decide +kernel, by decide +kernel⟩
theorem vX6_shadowed : gInst yX6_shadowed := ⟨gT_at 731 (by decide +kernel) (by decide +kernel), gT_at 38 (by decide +kernel) (by decide +kernel)⟩
theorem kX6_156 : Cond.methodLink RX6 156 yX6_runs ∈ gT := gT_at 733 (by decide +kernel) (by decide +kernel)
theorem mX6_runs : gMeth yX6_runs cX6_runs 3 (some .int) 0 := ⟨gT_at 736 (by decide +kernel) (by decide +kernel), gT_at 51 (by decide +kernel) (by decide +kernel), by decide +kernel, by decide +kernel⟩
theorem vX6_runs : gInst yX6_runs := ⟨gT_at 735 (by decide +kernel) (by decide +kernel), gT_at 39 (by decide +kernel) (by decide +kernel)⟩
theorem kX6_159 : Cond.methodLink RX6 159 yX6_worthInAll ∈ gT := gT_at 737 (by decide +kernel) (by decide +kernel)
theorem mX6_worthInAll : gMeth yX6_worthInAll cX6_worthInAll 3 (some .int) 0 := ⟨gT_at 740 (by decide +kernel) (by decide +kernel), gT_at 51 (by decide +kernel) (by decide +kernel), by decide +kernel, by decide +kernel⟩
theorem vX6_worthInAll : gInst yX6_worthInAll := ⟨gT_at 739 (by decide +kernel) (by decide +kernel), gT_at 40 (by decide +kernel) (by decide +kernel)⟩
theorem kL_57 : Cond.methodLink RL 57 yX6_ofRun ∈ gT := gT_at 741 (by decide +kernel) (by decide +kernel)
theorem mX6_ofRun : gMeth yX6_ofRun cX6_ofRun 6 (some .int) 2 := ⟨gT_at 744 (by decide +kernel) (by decide +kernel), gT_at 51 (by decide +kernel) (by decide +kernel), by decide +kernel, by decide +kernel⟩
theorem vX6_ofRun : gInst yX6_ofRun := ⟨gT_at 742 (by decide +kernel) (by decide +kernel), gT_at 743 (by decide +kernel) (by decide +kernel)⟩
theorem kL_61 : Cond.methodLink RL 61 yX6_whole ∈ gT := gT_at 745 (by decide +kernel) (by decide +kernel)
theorem mX6_whole : gMeth yX6_whole cX6_whole 2 (some .int) 1 := ⟨gT_at 748 (by decide +kernel) (by decide +kernel), gT_at 51 (by decide +kernel) (by decide +kernel), by decide +kernel, by decide +kernel⟩
theorem vX6_whole : gInst yX6_whole := ⟨gT_at 746 (by decide +kernel) (by decide +kernel), gT_at 747 (by decide +kernel) (by decide +kernel)⟩
theorem kX6_162 : Cond.methodLink RX6 162 yX6_needed ∈ gT := gT_at 749 (by decide +kernel) (by decide +kernel)
theorem mX6_needed : gMeth yX6_needed cX6_needed 5 (some .int) 0 := ⟨gT_at 752 (by decide +kernel) (by decide +kernel), gT_at 51 (by decide +kernel) (by decide +kernel), by decide +kernel, by decide +kernel⟩
theorem vX6_needed : gInst yX6_needed := ⟨gT_at 751 (by decide +kernel) (by decide +kernel), gT_at 41 (by decide +kernel) (by decide +kernel)⟩
theorem kL_65 : Cond.methodLink RL 65 yX6_reading ∈ gT := gT_at 753 (by decide +kernel) (by decide +kernel)
theorem mX6_reading : gMeth yX6_reading cX6_reading 3 (some .int) 2 := ⟨gT_at 756 (by decide +kernel) (by decide +kernel), gT_at 51 (by decide +kernel) (by decide +kernel), by decide +kernel, by decide +kernel⟩
theorem vX6_reading : gInst yX6_reading := ⟨gT_at 754 (by decide +kernel) (by decide +kernel), gT_at 755 (by decide +kernel) (by decide +kernel)⟩
theorem kL_69 : Cond.methodLink RL 69 yX6_back ∈ gT := gT_at 757 (by decide +kernel) (by decide +kernel)
theorem mX6_back : gMeth yX6_back cX6_back 2 (some .int) 1 := ⟨gT_at 760 (by decide +kernel) (by decide +kernel), gT_at 51 (by decide +kernel) (by decide +kernel), by decide +kernel, by decide +kernel⟩
theorem vX6_back : gInst yX6_back := ⟨gT_at 758 (by decide +kernel) (by decide +kernel), gT_at 759 (by decide +kernel) (by decide +kernel)⟩
theorem kL_73 : Cond.methodLink RL 73 yX6_kinds ∈ gT := gT_at 761 (by decide +kernel) (by decide +kernel)
theorem mX6_kinds : gMeth yX6_kinds cX6_kinds 5 (some .int) 1 := ⟨gT_at 764 (by decide +kernel) (by decide +kernel), gT_at 51 (by decide +kernel) (by decide +kernel), by decide +kernel, by decide +kernel⟩
theorem vX6_kinds : gInst yX6_kinds := ⟨gT_at 762 (by decide +kernel) (by decide +kernel), gT_at 763 (by decide +kernel) (by decide +kernel)⟩
theorem kX6_165 : Cond.methodLink RX6 165 yX6_areSo ∈ gT := gT_at 765 (by decide +kernel) (by decide +kernel)
theorem mX6_areSo : gMeth yX6_areSo cX6_areSo 2 (some .boolean) 0 := ⟨gT_at 768 (by decide +kernel) (by decide +kernel), gT_at 51 (by decide +kernel) (by decide +kernel), by decide +kernel, by decide +kernel⟩
theorem vX6_areSo : gInst yX6_areSo := ⟨gT_at 767 (by decide +kernel) (by decide +kernel), gT_at 42 (by decide +kernel) (by decide +kernel)⟩
theorem kL_77 : Cond.methodLink RL 77 yX6_numbers ∈ gT := gT_at 769 (by decide +kernel) (by decide +kernel)
theorem mX6_numbers : gMeth yX6_numbers cX6_numbers 5 (some .int) 1 := ⟨gT_at 772 (by decide +kernel) (by decide +kernel), gT_at 51 (by decide +kernel) (by decide +kernel), by decide +kernel, by decide +kernel⟩
theorem vX6_numbers : gInst yX6_numbers := ⟨gT_at 770 (by decide +kernel) (by decide +kernel), gT_at 771 (by decide +kernel) (by decide +kernel)⟩
theorem kL_82 : Cond.methodLink RL 82 yX6_odds ∈ gT := gT_at 773 (by decide +kernel) (by decide +kernel)
theorem mX6_odds : gMeth yX6_odds cX6_odds 5 (some .long) 2 := ⟨gT_at 776 (by decide +kernel) (by decide +kernel), gT_at 51 (by decide +kernel) (by decide +kernel), by decide +kernel, by decide +kernel⟩
theorem vX6_odds : gInst yX6_odds := ⟨gT_at 774 (by decide +kernel) (by decide +kernel), gT_at 775 (by decide +kernel) (by decide +kernel)⟩
theorem kX6_171 : Cond.methodLink RX6 171 yX6_inLeastTerms ∈ gT := gT_at 779 (by decide +kernel) (by decide +kernel)
theorem mX6_inLeastTerms : gMeth yX6_inLeastTerms cX6_inLeastTerms 11 (some .long) 3 := ⟨gT_at 781 (by decide +kernel) (by decide +kernel), gT_at 51 (by decide +kernel) (by decide +kernel), by decide +kernel, by decide +kernel⟩
theorem sX6_inLeastTerms : Cond.static yX6_inLeastTerms ∈ gT := gT_at 780 (by decide +kernel) (by decide +kernel)
theorem kL_87 : Cond.methodLink RL 87 yX6_sheet ∈ gT := gT_at 782 (by decide +kernel) (by decide +kernel)
theorem mX6_sheet : gMeth yX6_sheet cX6_sheet 5 (some .int) 3 := ⟨gT_at 785 (by decide +kernel) (by decide +kernel), gT_at 51 (by decide +kernel) (by decide +kernel), by decide +kernel, by decide +kernel⟩
theorem vX6_sheet : gInst yX6_sheet := ⟨gT_at 783 (by decide +kernel) (by decide +kernel), gT_at 784 (by decide +kernel) (by decide +kernel)⟩
theorem kL_91 : Cond.methodLink RL 91 yX6_lose ∈ gT := gT_at 786 (by decide +kernel) (by decide +kernel)
theorem mX6_lose : gMeth yX6_lose cX6_lose 3 (some .int) 1 := ⟨gT_at 789 (by decide +kernel) (by decide +kernel), gT_at 51 (by decide +kernel) (by decide +kernel), by decide +kernel, by decide +kernel⟩
theorem vX6_lose : gInst yX6_lose := ⟨gT_at 787 (by decide +kernel) (by decide +kernel), gT_at 788 (by decide +kernel) (by decide +kernel)⟩
theorem kL_95 : Cond.methodLink RL 95 yX6_put ∈ gT := gT_at 790 (by decide +kernel) (by decide +kernel)
theorem mX6_put : gMeth yX6_put cX6_put 4 (some .int) 3 := ⟨gT_at 793 (by decide +kernel) (by decide +kernel), gT_at 51 (by decide +kernel) (by decide +kernel), by decide +kernel, by decide +kernel⟩
theorem vX6_put : gInst yX6_put := ⟨gT_at 791 (by decide +kernel) (by decide +kernel), gT_at 792 (by decide +kernel) (by decide +kernel)⟩
theorem kL_100 : Cond.methodLink RL 100 yX6_cell ∈ gT := gT_at 794 (by decide +kernel) (by decide +kernel)
theorem mX6_cell : gMeth yX6_cell cX6_cell 4 (some .long) 3 := ⟨gT_at 797 (by decide +kernel) (by decide +kernel), gT_at 51 (by decide +kernel) (by decide +kernel), by decide +kernel, by decide +kernel⟩
theorem vX6_cell : gInst yX6_cell := ⟨gT_at 795 (by decide +kernel) (by decide +kernel), gT_at 796 (by decide +kernel) (by decide +kernel)⟩
theorem kX6_175 : Cond.methodLink RX6 175 yX6_lost ∈ gT := gT_at 798 (by decide +kernel) (by decide +kernel)
theorem mX6_lost : gMeth yX6_lost cX6_lost 2 (some .long) 1 := ⟨gT_at 801 (by decide +kernel) (by decide +kernel), gT_at 51 (by decide +kernel) (by decide +kernel), by decide +kernel, by decide +kernel⟩
theorem vX6_lost : gInst yX6_lost := ⟨gT_at 800 (by decide +kernel) (by decide +kernel), gT_at 43 (by decide +kernel) (by decide +kernel)⟩
theorem kL_104 : Cond.methodLink RL 104 yX6_copy ∈ gT := gT_at 802 (by decide +kernel) (by decide +kernel)
theorem mX6_copy : gMeth yX6_copy cX6_copy 10 (some .int) 5 := ⟨gT_at 805 (by decide +kernel) (by decide +kernel), gT_at 51 (by decide +kernel) (by decide +kernel), by decide +kernel, by decide +kernel⟩
theorem vX6_copy : gInst yX6_copy := ⟨gT_at 803 (by decide +kernel) (by decide +kernel), gT_at 804 (by decide +kernel) (by decide +kernel)⟩
theorem kL_108 : Cond.methodLink RL 108 yX6_tell ∈ gT := gT_at 806 (by decide +kernel) (by decide +kernel)
theorem mX6_tell : gMeth yX6_tell cX6_tell 3 (some .int) 1 := ⟨gT_at 809 (by decide +kernel) (by decide +kernel), gT_at 51 (by decide +kernel) (by decide +kernel), by decide +kernel, by decide +kernel⟩
theorem vX6_tell : gInst yX6_tell := ⟨gT_at 807 (by decide +kernel) (by decide +kernel), gT_at 808 (by decide +kernel) (by decide +kernel)⟩
theorem kX6_182 : Cond.methodLink RX6 182 yX6_begins ∈ gT := gT_at 810 (by decide +kernel) (by decide +kernel)
theorem mX6_begins : gMeth yX6_begins cX6_begins 2 none 1 := ⟨gT_at 813 (by decide +kernel) (by decide +kernel), gT_at 51 (by decide +kernel) (by decide +kernel), by decide +kernel, by decide +kernel⟩
theorem vX6_begins : gInst yX6_begins := ⟨gT_at 812 (by decide +kernel) (by decide +kernel), gT_at 44 (by decide +kernel) (by decide +kernel)⟩
theorem kL_112 : Cond.methodLink RL 112 yX6_cite ∈ gT := gT_at 814 (by decide +kernel) (by decide +kernel)
theorem mX6_cite : gMeth yX6_cite cX6_cite 2 (some .int) 1 := ⟨gT_at 817 (by decide +kernel) (by decide +kernel), gT_at 51 (by decide +kernel) (by decide +kernel), by decide +kernel, by decide +kernel⟩
theorem vX6_cite : gInst yX6_cite := ⟨gT_at 815 (by decide +kernel) (by decide +kernel), gT_at 816 (by decide +kernel) (by decide +kernel)⟩
theorem kL_116 : Cond.methodLink RL 116 yX6_as ∈ gT := gT_at 818 (by decide +kernel) (by decide +kernel)
theorem mX6_as : gMeth yX6_as cX6_as 3 (some .int) 2 := ⟨gT_at 821 (by decide +kernel) (by decide +kernel), gT_at 51 (by decide +kernel) (by decide +kernel), by decide +kernel, by decide +kernel⟩
theorem vX6_as : gInst yX6_as := ⟨gT_at 819 (by decide +kernel) (by decide +kernel), gT_at 820 (by decide +kernel) (by decide +kernel)⟩
theorem kL_121 : Cond.methodLink RL 121 yX6_trace ∈ gT := gT_at 822 (by decide +kernel) (by decide +kernel)
theorem mX6_trace : gMeth yX6_trace cX6_trace 1 (some .int) 0 := ⟨gT_at 825 (by decide +kernel) (by decide +kernel), gT_at 51 (by decide +kernel) (by decide +kernel), by decide +kernel, by decide +kernel⟩
theorem vX6_trace : gInst yX6_trace := ⟨gT_at 823 (by decide +kernel) (by decide +kernel), gT_at 824 (by decide +kernel) (by decide +kernel)⟩
theorem kL_125 : Cond.methodLink RL 125 yX6_fault ∈ gT := gT_at 826 (by decide +kernel) (by decide +kernel)
theorem mX6_fault : gMeth yX6_fault cX6_fault 1 (some .int) 0 := ⟨gT_at 829 (by decide +kernel) (by decide +kernel), gT_at 51 (by decide +kernel) (by decide +kernel), by decide +kernel, by decide +kernel⟩
theorem vX6_fault : gInst yX6_fault := ⟨gT_at 827 (by decide +kernel) (by decide +kernel), gT_at 828 (by decide +kernel) (by decide +kernel)⟩
theorem kL_129 : Cond.methodLink RL 129 yX6_many ∈ gT := gT_at 830 (by decide +kernel) (by decide +kernel)
theorem mX6_many : gMeth yX6_many cX6_many 2 (some .int) 1 := ⟨gT_at 833 (by decide +kernel) (by decide +kernel), gT_at 51 (by decide +kernel) (by decide +kernel), by decide +kernel, by decide +kernel⟩
theorem vX6_many : gInst yX6_many := ⟨gT_at 831 (by decide +kernel) (by decide +kernel), gT_at 832 (by decide +kernel) (by decide +kernel)⟩
end
section
/-! plain facts on numbers and arrays, to paste: each family by itself; over the kit's rows on nI and upd -/
/-! ===== order of ints, in all its forms, and through longs ===== -/
theorem fa_lt (a b : Int32) : a < b ↔ a.toInt < b.toInt := Int32.lt_iff_toInt_lt
theorem fa_le (a b : Int32) : a ≤ b ↔ a.toInt ≤ b.toInt := Int32.le_iff_toInt_le
theorem fa_eq (a b : Int32) : a = b ↔ a.toInt = b.toInt := Int32.toInt_inj.symm
theorem fa_lt64 (a b : Int64) : a < b ↔ a.toInt < b.toInt := Int64.lt_iff_toInt_lt
theorem fa_le64 (a b : Int64) : a ≤ b ↔ a.toInt ≤ b.toInt := Int64.le_iff_toInt_le
theorem fa_eq64 (a b : Int64) : a = b ↔ a.toInt = b.toInt := Int64.toInt_inj.symm
/-- a comparison of two ints taken as longs -/
theorem fa_wide_lt (a b : Int32) : a.toInt64 < b.toInt64 ↔ a < b := by rw [fa_lt64, fa_lt, Int32.toInt_toInt64, Int32.toInt_toInt64]
theorem fa_wide_le (a b : Int32) : a.toInt64 ≤ b.toInt64 ↔ a ≤ b := by rw [fa_le64, fa_le, Int32.toInt_toInt64, Int32.toInt_toInt64]
theorem fa_wide_eq (a b : Int32) : a.toInt64 = b.toInt64 ↔ a = b := by rw [fa_eq64, fa_eq, Int32.toInt_toInt64, Int32.toInt_toInt64]
/-- one strict comparison gives all the others -/
theorem fa_of_lt {a b : Int32} (h : a < b) : a ≤ b ∧ ¬ b ≤ a ∧ ¬ b < a ∧ a ≠ b ∧ b ≠ a := by
  rw [fa_lt] at h
  refine ⟨?_, ?_, ?_, ?_, ?_⟩
  · rw [fa_le]; omega
  · rw [fa_le]; omega
  · rw [fa_lt]; omega
  · intro e; rw [fa_eq] at e; omega
  · intro e; rw [fa_eq] at e; omega
theorem fa_of_nlt {a b : Int32} (h : ¬ a < b) : b ≤ a := by
  rw [fa_lt] at h
  rw [fa_le]
  omega
theorem fa_of_nle {a b : Int32} (h : ¬ a ≤ b) : b < a := by
  rw [fa_le] at h
  rw [fa_lt]
  omega
theorem fa_le_ne {a b : Int32} (h : a ≤ b) (h2 : a ≠ b) : a < b := by
  rw [fa_le] at h
  rw [fa_lt]
  have h3 : a.toInt ≠ b.toInt := fun e => h2 ((fa_eq a b).mpr e)
  omega
theorem fa_three (a b : Int32) : a < b ∨ a = b ∨ b < a := by
  rw [fa_lt, fa_lt, fa_eq]
  omega
theorem fa_trans {a b c : Int32} (h : a < b) (h2 : b ≤ c) : a < c := by
  rw [fa_lt] at *
  rw [fa_le] at h2
  omega
/-! ===== small literals as numbers ===== -/
theorem fa_lit (n : Nat) : (OfNat.ofNat n : Int32) = nI n := rfl
theorem fa_litL (n : Nat) : (OfNat.ofNat n : Int64) = lN n := rfl
/-! ===== bits of a number: 'or', masks, one bit ===== -/
theorem fa_and (a b : Nat) : nI a &&& nI b = nI (a &&& b) := by
  apply Int32.toBitVec_inj.1
  show BitVec.ofNat 32 a &&& BitVec.ofNat 32 b = BitVec.ofNat 32 (a &&& b)
  apply BitVec.eq_of_getLsbD_eq
  intro i hi
  simp [hi]
theorem fa_or (a b : Nat) : nI a ||| nI b = nI (a ||| b) := by
  apply Int32.toBitVec_inj.1
  show BitVec.ofNat 32 a ||| BitVec.ofNat 32 b = BitVec.ofNat 32 (a ||| b)
  apply BitVec.eq_of_getLsbD_eq
  intro i hi
  simp [hi]
/-- a remainder by a power of two, as a mask -/
theorem fa_mask (n k : Nat) : nI n &&& nI (2 ^ k - 1) = nI (n % 2 ^ k) := by rw [fa_and, Nat.and_two_pow_sub_one_eq_mod]
/-- 'or' of a high part and a low one that don't meet is their sum -/
theorem fa_or_sum {a k : Nat} (b : Nat) (h : a < 2 ^ k) : nI (2 ^ k * b) ||| nI a = nI (2 ^ k * b + a) := by rw [fa_or, Nat.two_pow_add_eq_or_of_lt h]
/-- one bit, by 'and' with a power of two -/
theorem fa_bit {n j : Nat} (hj : j < 31) : nI n &&& nI (2 ^ j) = 0 ↔ n.testBit j = false := by
  have h2 : (2 : Nat) ^ j < 2 ^ 31 := Nat.pow_lt_pow_right (by decide) hj
  have hle : n &&& 2 ^ j ≤ 2 ^ j := Nat.and_le_right
  have e : n &&& 2 ^ j = 0 ↔ n.testBit j = false := by
    constructor
    · intro h
      have h1 : (n &&& 2 ^ j).testBit j = false := by rw [h]; simp
      rw [Nat.testBit_and] at h1
      first | simpa using h1 | simpa [Nat.testBit_two_pow_self] using h1 | simpa [Nat.testBit_two_pow] using h1
    · intro h
      apply Nat.eq_of_testBit_eq
      intro i
      rw [Nat.testBit_and]
      by_cases hi : j = i
      · subst hi; simp [h]
      · first | (simp [Nat.testBit_two_pow, hi]; done) | (simp [Nat.testBit_two_pow_of_ne hi]; done)
  rw [fa_and]
  constructor
  · intro h
    apply e.mp
    rcases Nat.eq_zero_or_pos (n &&& 2 ^ j) with z | z
    · exact z
    · exact absurd h (nI_ne0 z (Nat.lt_of_le_of_lt hle h2))
  · intro h
    rw [e.mpr h]; exact nI_0
/-- a remainder by a power of two of a number that isn't negative, as Java divides -/
theorem fa_rem {a k : Nat} (ha : a < 2 ^ 31) (hk : k < 31) : nI a - nI a / nI (2 ^ k) * nI (2 ^ k) = nI (a % 2 ^ k) := pk_rem ha (Nat.two_pow_pos k) (Nat.pow_lt_pow_right (by decide) hk)
/-! ===== cuts to a byte, a short ===== -/
theorem fa_byte_xor (x y : Int32) : (x ^^^ y).toInt8 = x.toInt8 ^^^ y.toInt8 := by
  apply Int8.toBitVec_inj.1
  apply BitVec.eq_of_getLsbD_eq
  intro i hi
  first | (simp [hi]; done) | (simp [hi, BitVec.getLsbD_setWidth, BitVec.getLsbD_signExtend]; done)
theorem fa_short_xor (x y : Int32) : (x ^^^ y).toInt16 = x.toInt16 ^^^ y.toInt16 := by
  apply Int16.toBitVec_inj.1
  apply BitVec.eq_of_getLsbD_eq
  intro i hi
  first | (simp [hi]; done) | (simp [hi, BitVec.getLsbD_setWidth, BitVec.getLsbD_signExtend]; done)
/-- the cut to a byte sees the low byte alone -/
theorem fa_byte_low (x : Int32) : (x &&& 255).toInt8 = x.toInt8 := by
  apply Int8.toBitVec_inj.1
  apply BitVec.eq_of_getLsbD_eq
  intro i hi
  have h2 : (255 : Int32).toBitVec.getLsbD i = true := by
    have : ∀ j : Fin 8, (255 : Int32).toBitVec.getLsbD j.val = true := by decide +kernel
    exact this ⟨i, hi⟩
  have h4 : (x &&& 255).toBitVec.getLsbD i = x.toBitVec.getLsbD i := by
    show (x.toBitVec &&& (255 : Int32).toBitVec).getLsbD i = _
    rw [BitVec.getLsbD_and, h2, Bool.and_true]
  have h3 : i < 32 := by omega
  first
    | (show (((x &&& 255).toBitVec).signExtend 8).getLsbD i = (x.toBitVec.signExtend 8).getLsbD i; rw [BitVec.getLsbD_signExtend, BitVec.getLsbD_signExtend, if_pos h3, if_pos h3, h4])
    | (show (((x &&& 255).toBitVec).setWidth 8).getLsbD i = (x.toBitVec.setWidth 8).getLsbD i; rw [BitVec.getLsbD_setWidth, BitVec.getLsbD_setWidth, h4])
    | (simp [hi, h3, h4]; done)
theorem fa_short_low (x : Int32) : (x &&& 65535).toInt16 = x.toInt16 := by
  apply Int16.toBitVec_inj.1
  apply BitVec.eq_of_getLsbD_eq
  intro i hi
  have h2 : (65535 : Int32).toBitVec.getLsbD i = true := by
    have : ∀ j : Fin 16, (65535 : Int32).toBitVec.getLsbD j.val = true := by decide +kernel
    exact this ⟨i, hi⟩
  have h4 : (x &&& 65535).toBitVec.getLsbD i = x.toBitVec.getLsbD i := by
    show (x.toBitVec &&& (65535 : Int32).toBitVec).getLsbD i = _
    rw [BitVec.getLsbD_and, h2, Bool.and_true]
  have h3 : i < 32 := by omega
  first
    | (show (((x &&& 65535).toBitVec).signExtend 16).getLsbD i = (x.toBitVec.signExtend 16).getLsbD i; rw [BitVec.getLsbD_signExtend, BitVec.getLsbD_signExtend, if_pos h3, if_pos h3, h4])
    | (show (((x &&& 65535).toBitVec).setWidth 16).getLsbD i = (x.toBitVec.setWidth 16).getLsbD i; rw [BitVec.getLsbD_setWidth, BitVec.getLsbD_setWidth, h4])
    | (simp [hi, h3, h4]; done)
/-- a small number is its own byte, its own short -/
theorem fa_byte_small {n : Nat} (h : n < 128) : (nI n).toInt8.toInt32 = nI n := by
  have : ∀ j : Fin 128, (nI j.val).toInt8.toInt32 = nI j.val := by decide +kernel
  exact this ⟨n, h⟩
/-! ===== absolute difference ===== -/
theorem fa_absdiff {a b : Nat} (ha : a < 2 ^ 31) (hb : b < 2 ^ 31) : (if nI a < nI b then nI b - nI a else nI a - nI b) = nI (if a < b then b - a else a - b) := by
  by_cases h : a < b
  · rw [if_pos (nI_lt h hb), if_pos h]
    exact pk_sub (Nat.le_of_lt h)
  · rw [if_neg (nI_nlt (Nat.le_of_not_lt h) ha), if_neg h]
    exact pk_sub (Nat.le_of_not_lt h)
/-! ===== an array behind i stores, a conditional store, a row copied ===== -/
/-- f where k < i, what stood there else -/
def fa_fill {α : Type} (f g : Nat → α) (i : Nat) : Nat → α := fun k => if k < i then f k else g k
theorem fa_fill_0 {α : Type} (f g : Nat → α) : fa_fill f g 0 = g := funext fun k => if_neg (Nat.not_lt_zero k)
theorem fa_fill_in {α : Type} {f g : Nat → α} {i k : Nat} (h : k < i) : fa_fill f g i k = f k := if_pos h
theorem fa_fill_out {α : Type} {f g : Nat → α} {i k : Nat} (h : i ≤ k) : fa_fill f g i k = g k := if_neg (Nat.not_lt.mpr h)
theorem fa_fill_succ (f g : Nat → Int32) (i : Nat) : upd (fa_fill f g i) i (f i) = fa_fill f g (i + 1) := by
  funext k
  by_cases e : k = i
  · subst e
    rw [pk_us]
    exact (if_pos (Nat.lt_succ_self k)).symm
  · rw [pk_un e]
    by_cases h : k < i
    · rw [fa_fill_in h, fa_fill_in (Nat.lt_succ_of_lt h)]
    · rw [fa_fill_out (Nat.le_of_not_lt h), fa_fill_out (by omega)]
/-- a store that changes nothing -/
theorem fa_upd_same {f : Nat → Int32} {i : Nat} {x : Int32} (h : f i = x) : upd f i x = f := by
  funext k
  by_cases e : k = i
  · subst e
    rw [pk_us, h]
  · rw [pk_un e]
/-- a store under a condition, told as one -/
theorem fa_upd_if (c : Prop) [Decidable c] (f : Nat → Int32) (i : Nat) (x : Int32) : (if c then upd f i x else f) = upd f i (if c then x else f i) := by
  by_cases h : c
  · rw [if_pos h, if_pos h]
  · rw [if_neg h, if_neg h, fa_upd_same rfl]
/-- two stores at one place, at two -/
theorem fa_upd_twice (f : Nat → Int32) (i : Nat) (x y : Int32) : upd (upd f i x) i y = upd f i y := by
  funext k
  by_cases e : k = i
  · subst e
    rw [pk_us, pk_us]
  · rw [pk_un e, pk_un e, pk_un e]
theorem fa_upd_swap (f : Nat → Int32) {i j : Nat} (h : i ≠ j) (x y : Int32) : upd (upd f i x) j y = upd (upd f j y) i x := by
  funext k
  by_cases e : k = i
  · subst e
    rw [pk_un h, pk_us, pk_us]
  · by_cases e2 : k = j
    · subst e2
      rw [pk_us, pk_un e, pk_us]
    · rw [pk_un e2, pk_un e, pk_un e, pk_un e2]
/-! ===== the first index with a property; a count ===== -/
/-- the first k < n with p k, n if there is none -/
def fa_first (p : Nat → Bool) : Nat → Nat
  | 0 => 0
  | n + 1 => if fa_first p n < n then fa_first p n else if p n then n else n + 1
theorem fa_first_le (p : Nat → Bool) : ∀ n, fa_first p n ≤ n
  | 0 => Nat.le_refl 0
  | n + 1 => by
    have ih := fa_first_le p n
    unfold fa_first
    split
    · omega
    · split
      · omega
      · omega
theorem fa_first_no (p : Nat → Bool) : ∀ n k, k < fa_first p n → p k = false
  | 0, k, h => absurd h (Nat.not_lt_zero k)
  | n + 1, k, h => by
    have ih := fa_first_no p n
    have hl := fa_first_le p n
    unfold fa_first at h
    split at h
    · exact ih k h
    · rename_i h1
      split at h
      · exact ih k (by omega)
      · rename_i h2
        by_cases e : k = n
        · subst e
          exact Bool.eq_false_iff.mpr h2
        · exact ih k (by omega)
theorem fa_first_yes (p : Nat → Bool) : ∀ n, fa_first p n < n → p (fa_first p n) = true
  | 0, h => absurd h (Nat.not_lt_zero _)
  | n + 1, h => by
    have ih := fa_first_yes p n
    have hl := fa_first_le p n
    unfold fa_first at h ⊢
    split at h
    · rename_i h1
      rw [if_pos h1]
      exact ih h1
    · rename_i h1
      rw [if_neg h1]
      split at h
      · rename_i h2
        rw [if_pos h2]
        exact h2
      · omega
/-- how many k < n have p k -/
def fa_cnt (p : Nat → Bool) : Nat → Nat
  | 0 => 0
  | n + 1 => fa_cnt p n + if p n then 1 else 0
theorem fa_cnt_le (p : Nat → Bool) : ∀ n, fa_cnt p n ≤ n
  | 0 => Nat.le_refl 0
  | n + 1 => by
    have ih := fa_cnt_le p n
    unfold fa_cnt
    split
    · omega
    · omega
theorem fa_cnt_yes {p : Nat → Bool} {n : Nat} (h : p n = true) : fa_cnt p (n + 1) = fa_cnt p n + 1 := by rw [fa_cnt, if_pos h]
theorem fa_cnt_no {p : Nat → Bool} {n : Nat} (h : p n = false) : fa_cnt p (n + 1) = fa_cnt p n := by rw [fa_cnt, if_neg (by rw [h]; decide)]; rfl
theorem fa_cnt_cong {p q : Nat → Bool} : ∀ {n : Nat}, (∀ k, k < n → p k = q k) → fa_cnt p n = fa_cnt q n
  | 0, _ => rfl
  | n + 1, h => by rw [fa_cnt, fa_cnt, fa_cnt_cong (fun k hk => h k (Nat.lt_succ_of_lt hk)), h n (Nat.lt_succ_self n)]
/-! ===== an answer carried into a post; a branch on a boolean answer ===== -/
theorem fa_post {α : Type} {P : α → Prop} {x y : α} (h : x = y) (hp : P y) : P x := h ▸ hp
theorem fa_post2 {α β : Type} {P : α → β → Prop} {x y : α} {u v : β} (h : x = y) (h2 : u = v) (hp : P y v) : P x u := h ▸ h2 ▸ hp
theorem fa_bool {r : Int32} {b : Bool} (h : r = if b then 1 else 0) : (r = 0 ↔ b = false) ∧ (¬ r = 0 ↔ b = true) := by
  subst h
  cases b
  · exact ⟨⟨fun _ => rfl, fun _ => rfl⟩, ⟨fun h => absurd rfl h, fun h => absurd h (by decide)⟩⟩
  · exact ⟨⟨fun h => absurd h (by decide), fun h => absurd h (by decide)⟩, ⟨fun _ => rfl, fun _ => by decide⟩⟩
/-- a boolean's narrowing changes nothing -/
theorem fa_bool_and {r : Int32} (h : r = 0 ∨ r = 1) : r &&& 1 = r := by
  rcases h with rfl | rfl
  · decide
  · decide
theorem fa_bool_prop {c : Prop} [Decidable c] {r : Int32} (h : r = if c then 1 else 0) : (r = 0 ↔ ¬ c) ∧ (¬ r = 0 ↔ c) := by
  subst h
  by_cases hc : c
  · rw [if_pos hc]
    exact ⟨⟨fun h => absurd h (by decide), fun h => absurd hc h⟩, ⟨fun _ => hc, fun _ => by decide⟩⟩
  · rw [if_neg hc]
    exact ⟨⟨fun _ => hc, fun _ => rfl⟩, ⟨fun h => absurd rfl h, fun h => absurd h hc⟩⟩
end
section
/-! the walk's own judgement: a body's machine data as one tuple K; the world: the cells from the address V.2.2 on, by place, as a function E -/
abbrev gX : Type := Program × Launch × Env × Room × State × MethodId × Array Value × List Frame × Method × Code
abbrev gW (K : gX) (H : Heap) (locs : List Loc) (cells slots : Nat) (Q : State → Prop) (g : JFrame) : Prop := W K.1 K.2.1 K.2.2.1 K.2.2.2.1 K.2.2.2.2.1 K.2.2.2.2.2.1 K.2.2.2.2.2.2.1 K.2.2.2.2.2.2.2.1 K.2.2.2.2.2.2.2.2.1 K.2.2.2.2.2.2.2.2.2 H locs cells slots Q g
abbrev gs (K : gX) : State := K.2.2.2.2.1
abbrev gm (K : gX) : MethodId := K.2.2.2.2.2.1
abbrev ga (K : gX) : Array Value := K.2.2.2.2.2.2.1
abbrev gme (K : gX) : Method := K.2.2.2.2.2.2.2.2.1
abbrev gc (K : gX) : Code := K.2.2.2.2.2.2.2.2.2
abbrev gV : Type := va_G × (ClassId × ClassId × ClassId) × Nat
abbrev gtys (V : gV) : List (ClassId × FieldType) := [(V.2.1.1, .int), (V.2.1.2.1, .object RX2), (V.2.1.2.2, .object RX3)]
abbrev gI (V : gV) (n : Nat) (f : Nat → Int32) : va_E := .inl (V.2.1.1, n, .inl f)
abbrev gRw (V : gV) (n : Nat) (f : Nat → Option Nat) : va_E := .inl (V.2.1.2.1, n, .inr (.inr (.inr (.inr f))))
abbrev gRl (V : gV) (n : Nat) (f : Nat → Option Nat) : va_E := .inl (V.2.1.2.2, n, .inr (.inr (.inr (.inr f))))
def gwd (ad : Nat → Nat) (N : Nat) (E : Nat → va_E) : va_W := (List.range N).map (fun k => (ad k, E k))
theorem gwd_get {ad : Nat → Nat} {N k : Nat} {E : Nat → va_E} (h : k < N) : (gwd ad N E)[k]? = some (ad k, E k) := by simp [gwd, h]
theorem gwd_lt {ad : Nat → Nat} {N k : Nat} {E : Nat → va_E} {q : Nat × va_E} (h : (gwd ad N E)[k]? = some q) : k < N ∧ q = (ad k, E k) := by
  have hl := (List.getElem?_eq_some_iff.mp h).1
  simp only [gwd, List.length_map, List.length_range] at hl
  rw [gwd_get hl] at h
  exact ⟨hl, (Option.some.inj h).symm⟩
theorem gwd_set {ad : Nat → Nat} {N k : Nat} {E : Nat → va_E} {e : va_E} (h : k < N) : (gwd ad N E).set k (ad k, e) = gwd ad N (va_up E k e) := by
  apply List.ext_getElem?
  intro i
  by_cases hi : i < N
  · rw [gwd_get hi]
    by_cases hk : i = k
    · subst hk
      rw [List.getElem?_set_self (by simp [gwd]; exact hi), va_up_self]
    · rw [List.getElem?_set_ne (Ne.symm hk), gwd_get hi, va_up_ne _ _ hk]
  · rw [List.getElem?_eq_none (by simp [gwd]; omega), List.getElem?_eq_none (by simp [gwd]; omega)]
theorem gwd_push {ad : Nat → Nat} {N q : Nat} {E : Nat → va_E} {e : va_E} : gwd ad N E ++ [(q, e)] = gwd (va_up ad N q) (N + 1) (va_up E N e) := by
  unfold gwd
  rw [List.range_succ, List.map_append]
  congr 1
  · apply List.map_congr_left
    intro k hk
    have hne := Nat.ne_of_lt (List.mem_range.mp hk)
    rw [va_up_ne _ _ hne, va_up_ne _ _ hne]
  · simp [va_up_self]
/-- what isn't good as a word of a table: links to nest mates, arrays over own classes -/
def gNs (U : State) : Prop := va_Nw (.methodLinkNest RX1 19 yX0_init RX5) U ∧ va_Nw (.methodLinkNest RX1 24 yX3_init RX5) U ∧ va_Nw (.methodLinkNest RX5 34 yX2_init RX5) U ∧ va_Nw (.methodLinkNest RX4 27 yX5_isIn RX5) U ∧ va_AO RX3 U ∧ va_AO RX2 U
theorem gNs.warm {s U : State} (hW : s.WarmedH U.vm) (h : gNs s) : gNs U := ⟨va_Nw.warmM hW h.1, va_Nw.warmM hW h.2.1, va_Nw.warmM hW h.2.2.1, va_Nw.warmM hW h.2.2.2.1, va_AO.moved hW.alike h.2.2.2.2.1, va_AO.moved hW.alike h.2.2.2.2.2⟩
theorem gNs.same {s U : State} (h : gNs s) (e : s.vm = U.vm) : gNs U := ⟨va_Nw.same rfl e h.1, va_Nw.same rfl e h.2.1, va_Nw.same rfl e h.2.2.1, va_Nw.same rfl e h.2.2.2.1, va_AO.moved (e ▸ Vm.Alike.refl s.vm) h.2.2.2.2.1, va_AO.moved (e ▸ Vm.Alike.refl s.vm) h.2.2.2.2.2⟩
/-- what a body knows -/
def gOk (l : Launch) (rm : Room) (K : gX) (V : gV) (cc : ByteArray) (nL : Nat) (own : String) (ret : Option FieldType) (nm : String) : Prop :=
  K.2.1 = l ∧ K.2.2.2.1 = rm ∧ K.1.tables.exec = Jvm.exec ∧ (gc K).code = cc ∧ (gc K).maxLocals = nL ∧ (gs K).vm.findClass own = some (gm K).cls ∧ (∀ w ∈ gT, w.before (ga K) (gs K) = true) ∧ (gme K).sig.returnType = ret ∧ (gme K).name = nm ∧ (gme K).locks = false ∧ va_K V.1 vwCl (gtys V) (gs K) ∧ V.2.2 ≤ (gs K).heap.size ∧ gNs (gs K)
/-- locals: the first pair of a place counts -/
def gL : List (Nat × Value) → Nat → Option Value
  | [], _ => none
  | q :: l, i => if q.1 = i then some q.2 else gL l i
def gDd : List (Nat × Value) → List (Nat × Value)
  | [] => []
  | q :: l => q :: (gDd l).filter (fun r => !(r.1 == q.1))
def gN1 : List (Nat × Value) → Nat → Bool
  | [], _ => true
  | q :: l, i => (!(q.1 + 1 == i) || q.2.category == 1) && gN1 l i
def gN0 : List (Nat × Value) → Nat → Bool
  | [], _ => true
  | q :: l, i => !(q.1 == i) && gN0 l i
theorem gDd_of : ∀ (l : List (Nat × Value)) (q : Nat × Value), q ∈ gDd l → gL l q.1 = some q.2
  | [], q, h => by cases h
  | r :: l, q, h => by
    simp only [gDd, List.mem_cons, List.mem_filter] at h
    rcases h with rfl | ⟨h1, h2⟩
    · simp [gL]
    · have ih := gDd_of l q h1
      have hne : ¬ r.1 = q.1 := by
        intro e
        simp [e] at h2
      simp only [gL, if_neg hne]
      exact ih
theorem gDd_in : ∀ (l : List (Nat × Value)) (i : Nat) (v : Value), gL l i = some v → (i, v) ∈ gDd l
  | [], i, v, h => by cases h
  | r :: l, i, v, h => by
    simp only [gL] at h
    split at h
    · rename_i e
      cases h
      subst e
      simp [gDd]
    · rename_i e
      have ih := gDd_in l i v h
      simp only [gDd, List.mem_cons, List.mem_filter]
      refine Or.inr ⟨ih, ?_⟩
      simp
      exact fun q => e q.symm
theorem gN1_of : ∀ (l : List (Nat × Value)) (i j : Nat) (v : Value), gN1 l i = true → gL l j = some v → j + 1 = i → v.category = 1
  | [], i, j, v, _, h, _ => by cases h
  | r :: l, i, j, v, h1, h2, h3 => by
    simp only [gN1, Bool.and_eq_true] at h1
    simp only [gL] at h2
    split at h2
    · rename_i e
      cases h2
      have h4 := h1.1
      simp [e, h3] at h4
      exact h4
    · exact gN1_of l i j v h1.2 h2 h3
theorem gN0_of : ∀ (l : List (Nat × Value)) (i : Nat), gN0 l i = true → gL l i = none
  | [], i, _ => rfl
  | r :: l, i, h => by
    simp only [gN0, Bool.and_eq_true] at h
    have h1 : ¬ r.1 = i := by
      intro e
      simp [e] at h
    simp only [gL, if_neg h1]
    exact gN0_of l i h.2
def gH (ls : Array Slot) (nL : Nat) (lv : List (Nat × Value)) : Prop := ls.size = nL ∧ lv_wf ls ∧ ∀ (i : Nat) (v : Value), gL lv i = some v → ls[i]? = some (.val v)
theorem gH.has {ls : Array Slot} {nL : Nat} {lv : List (Nat × Value)} (h : gH ls nL lv) : lv_has ls nL (gDd lv) := ⟨h.1, h.2.1, fun q hq => h.2.2 _ _ (gDd_of lv q hq)⟩
theorem gH.of {ls : Array Slot} {nL : Nat} {lv : List (Nat × Value)} (h : lv_has ls nL (gDd lv)) : gH ls nL lv := ⟨h.1, h.2.1, fun i v hv => h.2.2 (i, v) (gDd_in lv i v hv)⟩
theorem gH.of1 {ls : Array Slot} {nL i : Nat} {v : Value} {lv : List (Nat × Value)} (hn : gN1 lv i = true) (h : lv_has ls nL ((i, v) :: (gDd lv).filter (fun q => !(q.1 == i) && !(q.1 + 1 == i && q.2.category == 2)))) : gH ls nL ((i, v) :: lv) := by
  refine ⟨h.1, h.2.1, fun j w hj => ?_⟩
  simp only [gL] at hj
  split at hj
  · rename_i e
    cases hj
    subst e
    exact h.2.2 (i, v) List.mem_cons_self
  · rename_i e
    refine h.2.2 (j, w) (List.mem_cons_of_mem _ (List.mem_filter.mpr ⟨gDd_in lv j w hj, ?_⟩))
    have h1 : ¬ j = i := fun q => e q.symm
    by_cases h2 : j + 1 = i
    · have h3 := gN1_of lv i j w hn hj h2
      simp [h1, h3]
    · simp [h1, h2]
theorem gH.of2 {ls : Array Slot} {nL i : Nat} {v : Value} {lv : List (Nat × Value)} (hn : gN1 lv i = true) (h0 : gN0 lv (i + 1) = true) (h : lv_has ls nL ((i, v) :: (gDd lv).filter (fun q => !(q.1 == i) && (!(q.1 == i + 1) && !(q.1 + 1 == i && q.2.category == 2))))) : gH ls nL ((i, v) :: lv) := by
  refine ⟨h.1, h.2.1, fun j w hj => ?_⟩
  simp only [gL] at hj
  split at hj
  · rename_i e
    cases hj
    subst e
    exact h.2.2 (i, v) List.mem_cons_self
  · rename_i e
    refine h.2.2 (j, w) (List.mem_cons_of_mem _ (List.mem_filter.mpr ⟨gDd_in lv j w hj, ?_⟩))
    have h1 : ¬ j = i := fun q => e q.symm
    have h4 : ¬ j = i + 1 := fun q => by
      subst q
      rw [gN0_of lv _ h0] at hj
      cases hj
    by_cases h2 : j + 1 = i
    · have h3 := gN1_of lv i j w hn hj h2
      simp [h1, h3, h4]
    · simp [h1, h2, h4]
/-- from pc, with these locals, this stack, this world of N cells: the body comes to Q -/
def G (K : gX) (V : gV) (nL : Nat) (Q : State → Prop) (ad : Nat → Nat) (N cells slots pc : Nat) (lv : List (Nat × Value)) (st : List Value) (E : Nat → va_E) : Prop :=
  ∀ (H : Heap) (locs : List Loc) (ls : Array Slot), va_P V.1 vwCl (gwd ad N E) H → va_D (fun q => V.2.2 ≤ q) (gwd ad N E) → va_S (fun q => V.2.2 ≤ q) (gs K).heap H locs → gH ls nL lv → gW K H locs cells slots Q (F0 (gm K) pc ls st)
def gQc (V : gV) (N : Nat) (post : Option Value → (Nat → Nat) → (Nat → va_E) → Prop) : Array Value → State → Outcome → State → Prop := fun _ st oc t =>
  (∃ (r : Option Value) (ad : Nat → Nat) (E : Nat → va_E), oc = .returned r ∧ post r ad E ∧ va_P V.1 vwCl (gwd ad N E) t.heap ∧ va_D (fun q => V.2.2 ≤ q) (gwd ad N E)) ∧ va_F (fun q => V.2.2 ≤ q) st t
def gPc (V : gV) (ad : Nat → Nat) (N : Nat) (as : List Value) (E : Nat → va_E) : Array Value → State → Prop := va_Pc as (fun U => va_P V.1 vwCl (gwd ad N E) U.heap ∧ va_K V.1 vwCl (gtys V) U ∧ va_D (fun q => V.2.2 ≤ q) (gwd ad N E) ∧ V.2.2 ≤ U.heap.size ∧ gNs U)
theorem gL_mem : ∀ (l : List (Nat × Value)) (i : Nat) (v : Value), gL l i = some v → (i, v) ∈ l
  | [], i, v, h => by cases h
  | r :: l, i, v, h => by
    simp only [gL] at h
    split at h
    · rename_i e
      cases h
      subst e
      exact List.mem_cons_self
    · exact List.mem_cons_of_mem _ (gL_mem l i v h)
/-- a method's contract over the whole world -/
def Ct (l : Launch) (V : gV) (ad : Nat → Nat) (N N' : Nat) (y : MethodName) (cc : ByteArray) (maxL : Nat) (ret : Option FieldType) (rm : Room) (as : List Value) (E : Nat → va_E) (post : Option Value → (Nat → Nat) → (Nat → va_E) → Prop) : Prop :=
  Met l y (Cond.code y cc maxL ret :: gT) rm (gPc V ad N as E) (gQc V N' post) rm.cells rm.slots (fun q => V.2.2 ≤ q)
abbrev gQ (K : gX) (V : gV) (N c s : Nat) (post : Option Value → (Nat → Nat) → (Nat → va_E) → Prop) : State → Prop := MQ K.2.2.2.2.2.2.2.1 (gQc V N post) (ga K) (gs K) c s (fun q => V.2.2 ≤ q)
def pI (ad : Nat → Nat) (post : Int32 → (Nat → va_E) → Prop) : Option Value → (Nat → Nat) → (Nat → va_E) → Prop := fun r ad2 E => ∃ v : Int32, r = some (.int v) ∧ ad2 = ad ∧ post v E
def pJ (ad : Nat → Nat) (post : Int64 → (Nat → va_E) → Prop) : Option Value → (Nat → Nat) → (Nat → va_E) → Prop := fun r ad2 E => ∃ v : Int64, r = some (.long v) ∧ ad2 = ad ∧ post v E
def pV (ad : Nat → Nat) (post : (Nat → va_E) → Prop) : Option Value → (Nat → Nat) → (Nat → va_E) → Prop := fun r ad2 E => r = none ∧ ad2 = ad ∧ post E
/-- a maker: the addresses of the old places stay -/
def pN (post : (Nat → Nat) → (Nat → va_E) → Prop) : Option Value → (Nat → Nat) → (Nat → va_E) → Prop := fun r ad2 E => r = none ∧ post ad2 E
theorem gCt {l : Launch} {V : gV} {ad : Nat → Nat} {N N' : Nat} {y : MethodName} {cc : ByteArray} {maxL n : Nat} {ret : Option FieldType} {rm : Room} {as : List Value} {E : Nat → va_E} {post : Option Value → (Nat → Nat) → (Nat → va_E) → Prop} (hm : gMeth y cc maxL ret n) (hsl : (lg_sl as).length ≤ maxL)
    (body : ∀ K : gX, gOk l rm K V cc maxL y.cls ret y.name → G K V maxL (gQ K V N' rm.cells rm.slots post) ad N 0 0 0 (lv_args 0 as) [] E) : Ct l V ad N N' y cc maxL ret rm as E post := by
  refine Met.ofW (cc := cc) (maxL := maxL) (ret := ret) hm.2.2.2 rfl ?_
  intro p e s m args below meth c s₁ B hml hv
  obtain ⟨rfl, hP, hK, hz, hbs, hns⟩ := hv
  have hts := atoms_spec (ws := Cond.code y cc maxL ret :: gT) B.pre
  have hl := lv_entry as (n := maxL) hsl
  rw [lg_entry_eq]
  exact body (p, l, e, rm, s, m, as.toArray, below, meth, c) ⟨rfl, rfl, B.exec, B.bytes, hml, findClass_of_methodNamed B.named, fun w hw => hts w (List.mem_cons_of_mem _ hw), B.returns, (name_of_methodNamed B.named B.method).1, B.notSynchronized, hK, hbs, hns⟩ s.heap [] _ hP hz va_S.rf ⟨hl.1, hl.2.1, fun i v hv => hl.2.2 (i, v) (gL_mem _ _ _ hv)⟩

section GEE
variable {l : Launch} {rm : Room} {K : gX} {V : gV} {cc : ByteArray} {nL : Nat} {own : String} {ret : Option FieldType} {nm : String} {Q : State → Prop} {ad : Nat → Nat} {N cells slots pc : Nat} {lv : List (Nat × Value)} {st : List Value} {E : Nat → va_E}

theorem G_iconst (hk : gOk l rm K V cc nL own ret nm) {n : Int} {v : Int32} (hd : decode cc pc = .ok (.iconst n, 1)) (hv : Int32.ofInt n = v)
    (k : G K V nL Q ad N cells slots (pc + 1) lv (.int v :: st) E) : G K V nL Q ad N cells slots pc lv st E := by
  obtain ⟨hl0, hR, hx, hb, hml, hown, hts, hr, hnm, hlk, hK, hbs, hns⟩ := hk
  intro H locs ls hP hz hS hl
  exact lv_iconst hx hb hd hv (k H locs ls hP hz hS hl)
theorem G_bipush (hk : gOk l rm K V cc nL own ret nm) {n : Int} {v : Int32} (hd : decode cc pc = .ok (.bipush n, 2)) (hv : (Int8.ofInt n).toInt32 = v)
    (k : G K V nL Q ad N cells slots (pc + 2) lv (.int v :: st) E) : G K V nL Q ad N cells slots pc lv st E := by
  obtain ⟨hl0, hR, hx, hb, hml, hown, hts, hr, hnm, hlk, hK, hbs, hns⟩ := hk
  intro H locs ls hP hz hS hl
  exact lv_bipush hx hb hd hv (k H locs ls hP hz hS hl)
theorem G_sipush (hk : gOk l rm K V cc nL own ret nm) {n : Int} {v : Int32} (hd : decode cc pc = .ok (.sipush n, 3)) (hv : (Int16.ofInt n).toInt32 = v)
    (k : G K V nL Q ad N cells slots (pc + 3) lv (.int v :: st) E) : G K V nL Q ad N cells slots pc lv st E := by
  obtain ⟨hl0, hR, hx, hb, hml, hown, hts, hr, hnm, hlk, hK, hbs, hns⟩ := hk
  intro H locs ls hP hz hS hl
  exact lv_sipush hx hb hd hv (k H locs ls hP hz hS hl)
theorem G_lconst (hk : gOk l rm K V cc nL own ret nm) {n : Fin 2} {v : Int64} (hd : decode cc pc = .ok (.lconst n, 1)) (hv : Int64.ofNat (n : Nat) = v)
    (k : G K V nL Q ad N cells slots (pc + 1) lv (.long v :: st) E) : G K V nL Q ad N cells slots pc lv st E := by
  obtain ⟨hl0, hR, hx, hb, hml, hown, hts, hr, hnm, hlk, hK, hbs, hns⟩ := hk
  intro H locs ls hP hz hS hl
  exact lv_lconst hx hb hd hv (k H locs ls hP hz hS hl)
theorem G_ldc2 (hk : gOk l rm K V cc nL own ret nm) {index : Nat} {v : Int64} (hc : Jvm.Cond.constantLong own index v ∈ gT) (hd : decode cc pc = .ok (.ldc2_w index, 3))
    (k : G K V nL Q ad N cells slots (pc + 3) lv (.long v :: st) E) : G K V nL Q ad N cells slots pc lv st E := by
  obtain ⟨hl0, hR, hx, hb, hml, hown, hts, hr, hnm, hlk, hK, hbs, hns⟩ := hk
  intro H locs ls hP hz hS hl
  exact lv_ldc2 hx hb hown (hts _ hc) hd (k H locs ls hP hz hS hl)
theorem G_iload_n (hk : gOk l rm K V cc nL own ret nm) {j : Fin 4} {i : Nat} {x : Int32} (hd : decode cc pc = .ok (.iload_n j, 1)) (hi : (j : Nat) = i) (hv : gL lv i = some (.int x))
    (k : G K V nL Q ad N cells slots (pc + 1) lv (.int x :: st) E) : G K V nL Q ad N cells slots pc lv st E := by
  obtain ⟨hl0, hR, hx, hb, hml, hown, hts, hr, hnm, hlk, hK, hbs, hns⟩ := hk
  intro H locs ls hP hz hS hl
  exact lv_iload_n hx hb hd hi (hl.2.2 _ _ hv) (k H locs ls hP hz hS hl)
theorem G_iload (hk : gOk l rm K V cc nL own ret nm) {i : Nat} {x : Int32} (hd : decode cc pc = .ok (.iload i, 2)) (hv : gL lv i = some (.int x))
    (k : G K V nL Q ad N cells slots (pc + 2) lv (.int x :: st) E) : G K V nL Q ad N cells slots pc lv st E := by
  obtain ⟨hl0, hR, hx, hb, hml, hown, hts, hr, hnm, hlk, hK, hbs, hns⟩ := hk
  intro H locs ls hP hz hS hl
  exact lv_iload hx hb hd (hl.2.2 _ _ hv) (k H locs ls hP hz hS hl)
theorem G_lload_n (hk : gOk l rm K V cc nL own ret nm) {j : Fin 4} {i : Nat} {x : Int64} (hd : decode cc pc = .ok (.lload_n j, 1)) (hi : (j : Nat) = i) (hv : gL lv i = some (.long x))
    (k : G K V nL Q ad N cells slots (pc + 1) lv (.long x :: st) E) : G K V nL Q ad N cells slots pc lv st E := by
  obtain ⟨hl0, hR, hx, hb, hml, hown, hts, hr, hnm, hlk, hK, hbs, hns⟩ := hk
  intro H locs ls hP hz hS hl
  exact lv_lload_n hx hb hd hi (hl.2.2 _ _ hv) (k H locs ls hP hz hS hl)
theorem G_lload (hk : gOk l rm K V cc nL own ret nm) {i : Nat} {x : Int64} (hd : decode cc pc = .ok (.lload i, 2)) (hv : gL lv i = some (.long x))
    (k : G K V nL Q ad N cells slots (pc + 2) lv (.long x :: st) E) : G K V nL Q ad N cells slots pc lv st E := by
  obtain ⟨hl0, hR, hx, hb, hml, hown, hts, hr, hnm, hlk, hK, hbs, hns⟩ := hk
  intro H locs ls hP hz hS hl
  exact lv_lload hx hb hd (hl.2.2 _ _ hv) (k H locs ls hP hz hS hl)
theorem G_aload_n (hk : gOk l rm K V cc nL own ret nm) {j : Fin 4} {i : Nat} {x : Nat} (hd : decode cc pc = .ok (.aload_n j, 1)) (hi : (j : Nat) = i) (hv : gL lv i = some (.ref x))
    (k : G K V nL Q ad N cells slots (pc + 1) lv (.ref x :: st) E) : G K V nL Q ad N cells slots pc lv st E := by
  obtain ⟨hl0, hR, hx, hb, hml, hown, hts, hr, hnm, hlk, hK, hbs, hns⟩ := hk
  intro H locs ls hP hz hS hl
  exact lv_aload_n hx hb hd hi (hl.2.2 _ _ hv) (k H locs ls hP hz hS hl)
theorem G_aload (hk : gOk l rm K V cc nL own ret nm) {i : Nat} {x : Nat} (hd : decode cc pc = .ok (.aload i, 2)) (hv : gL lv i = some (.ref x))
    (k : G K V nL Q ad N cells slots (pc + 2) lv (.ref x :: st) E) : G K V nL Q ad N cells slots pc lv st E := by
  obtain ⟨hl0, hR, hx, hb, hml, hown, hts, hr, hnm, hlk, hK, hbs, hns⟩ := hk
  intro H locs ls hP hz hS hl
  exact lv_aload hx hb hd (hl.2.2 _ _ hv) (k H locs ls hP hz hS hl)
theorem G_istore_n (hk : gOk l rm K V cc nL own ret nm) {j : Fin 4} {i : Nat} {x : Int32} (hd : decode cc pc = .ok (.istore_n j, 1)) (hi : (j : Nat) = i) (hn : i < nL) (h1 : gN1 lv i = true)
    (k : G K V nL Q ad N cells slots (pc + 1) ((i, .int x) :: lv) st E) : G K V nL Q ad N cells slots pc lv (.int x :: st) E := by
  obtain ⟨hl0, hR, hx, hb, hml, hown, hts, hr, hnm, hlk, hK, hbs, hns⟩ := hk
  intro H locs ls hP hz hS hl
  exact lv_istore_n hx hb hd hi hl.has hn rfl (fun ls1 hl1 => k H locs ls1 hP hz hS (gH.of1 h1 hl1))
theorem G_istore (hk : gOk l rm K V cc nL own ret nm) {i : Nat} {x : Int32} (hd : decode cc pc = .ok (.istore i, 2)) (hn : i < nL) (h1 : gN1 lv i = true)
    (k : G K V nL Q ad N cells slots (pc + 2) ((i, .int x) :: lv) st E) : G K V nL Q ad N cells slots pc lv (.int x :: st) E := by
  obtain ⟨hl0, hR, hx, hb, hml, hown, hts, hr, hnm, hlk, hK, hbs, hns⟩ := hk
  intro H locs ls hP hz hS hl
  exact lv_istore hx hb hd hl.has hn rfl (fun ls1 hl1 => k H locs ls1 hP hz hS (gH.of1 h1 hl1))
theorem G_astore_n (hk : gOk l rm K V cc nL own ret nm) {j : Fin 4} {i : Nat} {x : Nat} (hd : decode cc pc = .ok (.astore_n j, 1)) (hi : (j : Nat) = i) (hn : i < nL) (h1 : gN1 lv i = true)
    (k : G K V nL Q ad N cells slots (pc + 1) ((i, .ref x) :: lv) st E) : G K V nL Q ad N cells slots pc lv (.ref x :: st) E := by
  obtain ⟨hl0, hR, hx, hb, hml, hown, hts, hr, hnm, hlk, hK, hbs, hns⟩ := hk
  intro H locs ls hP hz hS hl
  exact lv_astore_n hx hb hd hi hl.has hn rfl (fun ls1 hl1 => k H locs ls1 hP hz hS (gH.of1 h1 hl1))
theorem G_astore (hk : gOk l rm K V cc nL own ret nm) {i : Nat} {x : Nat} (hd : decode cc pc = .ok (.astore i, 2)) (hn : i < nL) (h1 : gN1 lv i = true)
    (k : G K V nL Q ad N cells slots (pc + 2) ((i, .ref x) :: lv) st E) : G K V nL Q ad N cells slots pc lv (.ref x :: st) E := by
  obtain ⟨hl0, hR, hx, hb, hml, hown, hts, hr, hnm, hlk, hK, hbs, hns⟩ := hk
  intro H locs ls hP hz hS hl
  exact lv_astore hx hb hd hl.has hn rfl (fun ls1 hl1 => k H locs ls1 hP hz hS (gH.of1 h1 hl1))
theorem G_lstore (hk : gOk l rm K V cc nL own ret nm) {i : Nat} {x : Int64} (hd : decode cc pc = .ok (.lstore i, 2)) (hn : i + 1 < nL) (h1 : gN1 lv i = true) (h0 : gN0 lv (i + 1) = true)
    (k : G K V nL Q ad N cells slots (pc + 2) ((i, .long x) :: lv) st E) : G K V nL Q ad N cells slots pc lv (.long x :: st) E := by
  obtain ⟨hl0, hR, hx, hb, hml, hown, hts, hr, hnm, hlk, hK, hbs, hns⟩ := hk
  intro H locs ls hP hz hS hl
  exact lv_lstore hx hb hd hl.has hn rfl (fun ls1 hl1 => k H locs ls1 hP hz hS (gH.of2 h1 h0 hl1))
theorem gDd_k {lv : List (Nat × Value)} {i : Nat} {v : Value} (h : gL lv i = some v) : ∃ k : Nat, (gDd lv)[k]? = some (i, v) := List.getElem?_of_mem (gDd_in lv i v h)
theorem G_iinc (hk : gOk l rm K V cc nL own ret nm) {i : Nat} {n : Int} {x v : Int32} (hd : decode cc pc = .ok (.iinc i n, 3)) (hg : gL lv i = some (.int x)) (hv : x + Int32.ofInt n = v) (hn : i < nL) (h1 : gN1 lv i = true)
    (k : G K V nL Q ad N cells slots (pc + 3) ((i, .int v) :: lv) st E) : G K V nL Q ad N cells slots pc lv st E := by
  obtain ⟨hl0, hR, hx, hb, hml, hown, hts, hr, hnm, hlk, hK, hbs, hns⟩ := hk
  intro H locs ls hP hz hS hl
  obtain ⟨j, hj⟩ := gDd_k hg
  exact lv_iinc hx hb hd hl.has hj hv hn rfl (fun ls1 hl1 => k H locs ls1 hP hz hS (gH.of1 h1 hl1))
theorem G_iadd (hk : gOk l rm K V cc nL own ret nm) {x y : Int32} (hd : decode cc pc = .ok (.iadd, 1))
    (k : G K V nL Q ad N cells slots (pc + 1) lv (.int (x + y) :: st) E) : G K V nL Q ad N cells slots pc lv (.int y :: .int x :: st) E := by
  obtain ⟨hl0, hR, hx, hb, hml, hown, hts, hr, hnm, hlk, hK, hbs, hns⟩ := hk
  intro H locs ls hP hz hS hl
  exact lv_iadd hx hb hd (k H locs ls hP hz hS hl)
theorem G_isub (hk : gOk l rm K V cc nL own ret nm) {x y : Int32} (hd : decode cc pc = .ok (.isub, 1))
    (k : G K V nL Q ad N cells slots (pc + 1) lv (.int (x - y) :: st) E) : G K V nL Q ad N cells slots pc lv (.int y :: .int x :: st) E := by
  obtain ⟨hl0, hR, hx, hb, hml, hown, hts, hr, hnm, hlk, hK, hbs, hns⟩ := hk
  intro H locs ls hP hz hS hl
  exact lv_isub hx hb hd (k H locs ls hP hz hS hl)
theorem G_imul (hk : gOk l rm K V cc nL own ret nm) {x y : Int32} (hd : decode cc pc = .ok (.imul, 1))
    (k : G K V nL Q ad N cells slots (pc + 1) lv (.int (x * y) :: st) E) : G K V nL Q ad N cells slots pc lv (.int y :: .int x :: st) E := by
  obtain ⟨hl0, hR, hx, hb, hml, hown, hts, hr, hnm, hlk, hK, hbs, hns⟩ := hk
  intro H locs ls hP hz hS hl
  exact lv_imul hx hb hd (k H locs ls hP hz hS hl)
theorem G_iand (hk : gOk l rm K V cc nL own ret nm) {x y : Int32} (hd : decode cc pc = .ok (.iand, 1))
    (k : G K V nL Q ad N cells slots (pc + 1) lv (.int (x &&& y) :: st) E) : G K V nL Q ad N cells slots pc lv (.int y :: .int x :: st) E := by
  obtain ⟨hl0, hR, hx, hb, hml, hown, hts, hr, hnm, hlk, hK, hbs, hns⟩ := hk
  intro H locs ls hP hz hS hl
  exact lv_iand hx hb hd (k H locs ls hP hz hS hl)
theorem G_ior (hk : gOk l rm K V cc nL own ret nm) {x y : Int32} (hd : decode cc pc = .ok (.ior, 1))
    (k : G K V nL Q ad N cells slots (pc + 1) lv (.int (x ||| y) :: st) E) : G K V nL Q ad N cells slots pc lv (.int y :: .int x :: st) E := by
  obtain ⟨hl0, hR, hx, hb, hml, hown, hts, hr, hnm, hlk, hK, hbs, hns⟩ := hk
  intro H locs ls hP hz hS hl
  exact lv_ior hx hb hd (k H locs ls hP hz hS hl)
theorem G_idiv (hk : gOk l rm K V cc nL own ret nm) {x y : Int32} (hd : decode cc pc = .ok (.idiv, 1)) (hne : ¬ y = 0)
    (k : G K V nL Q ad N cells slots (pc + 1) lv (.int (x / y) :: st) E) : G K V nL Q ad N cells slots pc lv (.int y :: .int x :: st) E := by
  obtain ⟨hl0, hR, hx, hb, hml, hown, hts, hr, hnm, hlk, hK, hbs, hns⟩ := hk
  intro H locs ls hP hz hS hl
  exact lv_idiv hx hb hd hne (k H locs ls hP hz hS hl)
theorem G_irem (hk : gOk l rm K V cc nL own ret nm) {x y : Int32} (hd : decode cc pc = .ok (.irem, 1)) (hne : ¬ y = 0)
    (k : G K V nL Q ad N cells slots (pc + 1) lv (.int (x - x / y * y) :: st) E) : G K V nL Q ad N cells slots pc lv (.int y :: .int x :: st) E := by
  obtain ⟨hl0, hR, hx, hb, hml, hown, hts, hr, hnm, hlk, hK, hbs, hns⟩ := hk
  intro H locs ls hP hz hS hl
  exact lv_irem hx hb hd hne (k H locs ls hP hz hS hl)
theorem G_ldiv (hk : gOk l rm K V cc nL own ret nm) {x y : Int64} (hd : decode cc pc = .ok (.ldiv, 1)) (hne : ¬ y = 0)
    (k : G K V nL Q ad N cells slots (pc + 1) lv (.long (x / y) :: st) E) : G K V nL Q ad N cells slots pc lv (.long y :: .long x :: st) E := by
  obtain ⟨hl0, hR, hx, hb, hml, hown, hts, hr, hnm, hlk, hK, hbs, hns⟩ := hk
  intro H locs ls hP hz hS hl
  exact lv_ldiv hx hb hd hne (k H locs ls hP hz hS hl)
theorem G_lrem (hk : gOk l rm K V cc nL own ret nm) {x y : Int64} (hd : decode cc pc = .ok (.lrem, 1)) (hne : ¬ y = 0)
    (k : G K V nL Q ad N cells slots (pc + 1) lv (.long (x - x / y * y) :: st) E) : G K V nL Q ad N cells slots pc lv (.long y :: .long x :: st) E := by
  obtain ⟨hl0, hR, hx, hb, hml, hown, hts, hr, hnm, hlk, hK, hbs, hns⟩ := hk
  intro H locs ls hP hz hS hl
  exact lv_lrem hx hb hd hne (k H locs ls hP hz hS hl)
theorem G_ishl (hk : gOk l rm K V cc nL own ret nm) {x y : Int32} (hd : decode cc pc = .ok (.ishl, 1))
    (k : G K V nL Q ad N cells slots (pc + 1) lv (.int (x <<< (y &&& 31)) :: st) E) : G K V nL Q ad N cells slots pc lv (.int y :: .int x :: st) E := by
  obtain ⟨hl0, hR, hx, hb, hml, hown, hts, hr, hnm, hlk, hK, hbs, hns⟩ := hk
  intro H locs ls hP hz hS hl
  exact lv_ishl hx hb hd (k H locs ls hP hz hS hl)
theorem G_lcmp (hk : gOk l rm K V cc nL own ret nm) {x y : Int64} (hd : decode cc pc = .ok (.lcmp, 1))
    (k : G K V nL Q ad N cells slots (pc + 1) lv (.int (lg_cmp x y) :: st) E) : G K V nL Q ad N cells slots pc lv (.long y :: .long x :: st) E := by
  obtain ⟨hl0, hR, hx, hb, hml, hown, hts, hr, hnm, hlk, hK, hbs, hns⟩ := hk
  intro H locs ls hP hz hS hl
  exact W.lcmp hx hb hd (k H locs ls hP hz hS hl)
theorem G_i2l (hk : gOk l rm K V cc nL own ret nm) {x : Int32} (hd : decode cc pc = .ok (.i2l, 1))
    (k : G K V nL Q ad N cells slots (pc + 1) lv (.long x.toInt64 :: st) E) : G K V nL Q ad N cells slots pc lv (.int x :: st) E := by
  obtain ⟨hl0, hR, hx, hb, hml, hown, hts, hr, hnm, hlk, hK, hbs, hns⟩ := hk
  intro H locs ls hP hz hS hl
  exact lv_i2l hx hb hd rfl (k H locs ls hP hz hS hl)
theorem G_i2b (hk : gOk l rm K V cc nL own ret nm) {x : Int32} (hd : decode cc pc = .ok (.i2b, 1))
    (k : G K V nL Q ad N cells slots (pc + 1) lv (.int x.toInt8.toInt32 :: st) E) : G K V nL Q ad N cells slots pc lv (.int x :: st) E := by
  obtain ⟨hl0, hR, hx, hb, hml, hown, hts, hr, hnm, hlk, hK, hbs, hns⟩ := hk
  intro H locs ls hP hz hS hl
  exact lv_i2b hx hb hd rfl (k H locs ls hP hz hS hl)
theorem G_i2s (hk : gOk l rm K V cc nL own ret nm) {x : Int32} (hd : decode cc pc = .ok (.i2s, 1))
    (k : G K V nL Q ad N cells slots (pc + 1) lv (.int x.toInt16.toInt32 :: st) E) : G K V nL Q ad N cells slots pc lv (.int x :: st) E := by
  obtain ⟨hl0, hR, hx, hb, hml, hown, hts, hr, hnm, hlk, hK, hbs, hns⟩ := hk
  intro H locs ls hP hz hS hl
  exact lv_i2s hx hb hd rfl (k H locs ls hP hz hS hl)
theorem G_dup (hk : gOk l rm K V cc nL own ret nm) {v : Value} (hd : decode cc pc = .ok (.dup, 1)) (hc : v.category = 1)
    (k : G K V nL Q ad N cells slots (pc + 1) lv (v :: v :: st) E) : G K V nL Q ad N cells slots pc lv (v :: st) E := by
  obtain ⟨hl0, hR, hx, hb, hml, hown, hts, hr, hnm, hlk, hK, hbs, hns⟩ := hk
  intro H locs ls hP hz hS hl
  exact lv_dup hx hb hd hc (k H locs ls hP hz hS hl)
theorem G_if_eq (hk : gOk l rm K V cc nL own ret nm) {x : Int32} {off : Int} {tgt : Nat} (hd : decode cc pc = .ok (.ifCond .eq off, 3)) (ht : (pc : Int) + off = (tgt : Int))
    (kt : x = 0 → G K V nL Q ad N cells slots tgt lv st E) (kf : ¬ x = 0 → G K V nL Q ad N cells slots (pc + 3) lv st E) : G K V nL Q ad N cells slots pc lv (.int x :: st) E := by
  obtain ⟨hl0, hR, hx, hb, hml, hown, hts, hr, hnm, hlk, hK, hbs, hns⟩ := hk
  intro H locs ls hP hz hS hl
  exact lv_if_eq hx hb hd ht (fun q => kt q H locs ls hP hz hS hl) (fun q => kf q H locs ls hP hz hS hl)
theorem G_icmp_eq (hk : gOk l rm K V cc nL own ret nm) {x y : Int32} {off : Int} {tgt : Nat} (hd : decode cc pc = .ok (.if_icmp .eq off, 3)) (ht : (pc : Int) + off = (tgt : Int))
    (kt : x = y → G K V nL Q ad N cells slots tgt lv st E) (kf : ¬ x = y → G K V nL Q ad N cells slots (pc + 3) lv st E) : G K V nL Q ad N cells slots pc lv (.int y :: .int x :: st) E := by
  obtain ⟨hl0, hR, hx, hb, hml, hown, hts, hr, hnm, hlk, hK, hbs, hns⟩ := hk
  intro H locs ls hP hz hS hl
  exact lv_icmp_eq hx hb hd ht (fun q => kt q H locs ls hP hz hS hl) (fun q => kf q H locs ls hP hz hS hl)
theorem G_if_ne (hk : gOk l rm K V cc nL own ret nm) {x : Int32} {off : Int} {tgt : Nat} (hd : decode cc pc = .ok (.ifCond .ne off, 3)) (ht : (pc : Int) + off = (tgt : Int))
    (kt : ¬ x = 0 → G K V nL Q ad N cells slots tgt lv st E) (kf : x = 0 → G K V nL Q ad N cells slots (pc + 3) lv st E) : G K V nL Q ad N cells slots pc lv (.int x :: st) E := by
  obtain ⟨hl0, hR, hx, hb, hml, hown, hts, hr, hnm, hlk, hK, hbs, hns⟩ := hk
  intro H locs ls hP hz hS hl
  exact lv_if_ne hx hb hd ht (fun q => kt q H locs ls hP hz hS hl) (fun q => kf q H locs ls hP hz hS hl)
theorem G_icmp_ne (hk : gOk l rm K V cc nL own ret nm) {x y : Int32} {off : Int} {tgt : Nat} (hd : decode cc pc = .ok (.if_icmp .ne off, 3)) (ht : (pc : Int) + off = (tgt : Int))
    (kt : ¬ x = y → G K V nL Q ad N cells slots tgt lv st E) (kf : x = y → G K V nL Q ad N cells slots (pc + 3) lv st E) : G K V nL Q ad N cells slots pc lv (.int y :: .int x :: st) E := by
  obtain ⟨hl0, hR, hx, hb, hml, hown, hts, hr, hnm, hlk, hK, hbs, hns⟩ := hk
  intro H locs ls hP hz hS hl
  exact lv_icmp_ne hx hb hd ht (fun q => kt q H locs ls hP hz hS hl) (fun q => kf q H locs ls hP hz hS hl)
theorem G_if_lt (hk : gOk l rm K V cc nL own ret nm) {x : Int32} {off : Int} {tgt : Nat} (hd : decode cc pc = .ok (.ifCond .lt off, 3)) (ht : (pc : Int) + off = (tgt : Int))
    (kt : x < 0 → G K V nL Q ad N cells slots tgt lv st E) (kf : ¬ x < 0 → G K V nL Q ad N cells slots (pc + 3) lv st E) : G K V nL Q ad N cells slots pc lv (.int x :: st) E := by
  obtain ⟨hl0, hR, hx, hb, hml, hown, hts, hr, hnm, hlk, hK, hbs, hns⟩ := hk
  intro H locs ls hP hz hS hl
  exact lv_if_lt hx hb hd ht (fun q => kt q H locs ls hP hz hS hl) (fun q => kf q H locs ls hP hz hS hl)
theorem G_icmp_lt (hk : gOk l rm K V cc nL own ret nm) {x y : Int32} {off : Int} {tgt : Nat} (hd : decode cc pc = .ok (.if_icmp .lt off, 3)) (ht : (pc : Int) + off = (tgt : Int))
    (kt : x < y → G K V nL Q ad N cells slots tgt lv st E) (kf : ¬ x < y → G K V nL Q ad N cells slots (pc + 3) lv st E) : G K V nL Q ad N cells slots pc lv (.int y :: .int x :: st) E := by
  obtain ⟨hl0, hR, hx, hb, hml, hown, hts, hr, hnm, hlk, hK, hbs, hns⟩ := hk
  intro H locs ls hP hz hS hl
  exact lv_icmp_lt hx hb hd ht (fun q => kt q H locs ls hP hz hS hl) (fun q => kf q H locs ls hP hz hS hl)
theorem G_if_ge (hk : gOk l rm K V cc nL own ret nm) {x : Int32} {off : Int} {tgt : Nat} (hd : decode cc pc = .ok (.ifCond .ge off, 3)) (ht : (pc : Int) + off = (tgt : Int))
    (kt : 0 ≤ x → G K V nL Q ad N cells slots tgt lv st E) (kf : ¬ 0 ≤ x → G K V nL Q ad N cells slots (pc + 3) lv st E) : G K V nL Q ad N cells slots pc lv (.int x :: st) E := by
  obtain ⟨hl0, hR, hx, hb, hml, hown, hts, hr, hnm, hlk, hK, hbs, hns⟩ := hk
  intro H locs ls hP hz hS hl
  exact lv_if_ge hx hb hd ht (fun q => kt q H locs ls hP hz hS hl) (fun q => kf q H locs ls hP hz hS hl)
theorem G_icmp_ge (hk : gOk l rm K V cc nL own ret nm) {x y : Int32} {off : Int} {tgt : Nat} (hd : decode cc pc = .ok (.if_icmp .ge off, 3)) (ht : (pc : Int) + off = (tgt : Int))
    (kt : y ≤ x → G K V nL Q ad N cells slots tgt lv st E) (kf : ¬ y ≤ x → G K V nL Q ad N cells slots (pc + 3) lv st E) : G K V nL Q ad N cells slots pc lv (.int y :: .int x :: st) E := by
  obtain ⟨hl0, hR, hx, hb, hml, hown, hts, hr, hnm, hlk, hK, hbs, hns⟩ := hk
  intro H locs ls hP hz hS hl
  exact lv_icmp_ge hx hb hd ht (fun q => kt q H locs ls hP hz hS hl) (fun q => kf q H locs ls hP hz hS hl)
theorem G_if_gt (hk : gOk l rm K V cc nL own ret nm) {x : Int32} {off : Int} {tgt : Nat} (hd : decode cc pc = .ok (.ifCond .gt off, 3)) (ht : (pc : Int) + off = (tgt : Int))
    (kt : 0 < x → G K V nL Q ad N cells slots tgt lv st E) (kf : ¬ 0 < x → G K V nL Q ad N cells slots (pc + 3) lv st E) : G K V nL Q ad N cells slots pc lv (.int x :: st) E := by
  obtain ⟨hl0, hR, hx, hb, hml, hown, hts, hr, hnm, hlk, hK, hbs, hns⟩ := hk
  intro H locs ls hP hz hS hl
  exact lv_if_gt hx hb hd ht (fun q => kt q H locs ls hP hz hS hl) (fun q => kf q H locs ls hP hz hS hl)
theorem G_icmp_gt (hk : gOk l rm K V cc nL own ret nm) {x y : Int32} {off : Int} {tgt : Nat} (hd : decode cc pc = .ok (.if_icmp .gt off, 3)) (ht : (pc : Int) + off = (tgt : Int))
    (kt : y < x → G K V nL Q ad N cells slots tgt lv st E) (kf : ¬ y < x → G K V nL Q ad N cells slots (pc + 3) lv st E) : G K V nL Q ad N cells slots pc lv (.int y :: .int x :: st) E := by
  obtain ⟨hl0, hR, hx, hb, hml, hown, hts, hr, hnm, hlk, hK, hbs, hns⟩ := hk
  intro H locs ls hP hz hS hl
  exact lv_icmp_gt hx hb hd ht (fun q => kt q H locs ls hP hz hS hl) (fun q => kf q H locs ls hP hz hS hl)
theorem G_if_le (hk : gOk l rm K V cc nL own ret nm) {x : Int32} {off : Int} {tgt : Nat} (hd : decode cc pc = .ok (.ifCond .le off, 3)) (ht : (pc : Int) + off = (tgt : Int))
    (kt : x ≤ 0 → G K V nL Q ad N cells slots tgt lv st E) (kf : ¬ x ≤ 0 → G K V nL Q ad N cells slots (pc + 3) lv st E) : G K V nL Q ad N cells slots pc lv (.int x :: st) E := by
  obtain ⟨hl0, hR, hx, hb, hml, hown, hts, hr, hnm, hlk, hK, hbs, hns⟩ := hk
  intro H locs ls hP hz hS hl
  exact lv_if_le hx hb hd ht (fun q => kt q H locs ls hP hz hS hl) (fun q => kf q H locs ls hP hz hS hl)
theorem G_icmp_le (hk : gOk l rm K V cc nL own ret nm) {x y : Int32} {off : Int} {tgt : Nat} (hd : decode cc pc = .ok (.if_icmp .le off, 3)) (ht : (pc : Int) + off = (tgt : Int))
    (kt : x ≤ y → G K V nL Q ad N cells slots tgt lv st E) (kf : ¬ x ≤ y → G K V nL Q ad N cells slots (pc + 3) lv st E) : G K V nL Q ad N cells slots pc lv (.int y :: .int x :: st) E := by
  obtain ⟨hl0, hR, hx, hb, hml, hown, hts, hr, hnm, hlk, hK, hbs, hns⟩ := hk
  intro H locs ls hP hz hS hl
  exact lv_icmp_le hx hb hd ht (fun q => kt q H locs ls hP hz hS hl) (fun q => kf q H locs ls hP hz hS hl)
theorem G_goto (hk : gOk l rm K V cc nL own ret nm) {off : Int} {tgt : Nat} (hd : decode cc pc = .ok (.goto off, 3)) (ht : (pc : Int) + off = (tgt : Int))
    (k : G K V nL Q ad N cells slots tgt lv st E) : G K V nL Q ad N cells slots pc lv st E := by
  obtain ⟨hl0, hR, hx, hb, hml, hown, hts, hr, hnm, hlk, hK, hbs, hns⟩ := hk
  intro H locs ls hP hz hS hl
  exact lv_goto hx hb hd ht (k H locs ls hP hz hS hl)
theorem G_tableOut (hk : gOk l rm K V cc nL own ret nm) {dflt lo hi : Int} {offs : Array Int} {len : Nat} {x : Int32} {tgt : Nat} (hd : decode cc pc = .ok (.tableswitch dflt lo hi offs, len)) (h : x.toInt < lo ∨ hi < x.toInt) (ht : (pc : Int) + dflt = (tgt : Int))
    (k : G K V nL Q ad N cells slots tgt lv st E) : G K V nL Q ad N cells slots pc lv (.int x :: st) E := by
  obtain ⟨hl0, hR, hx, hb, hml, hown, hts, hr, hnm, hlk, hK, hbs, hns⟩ := hk
  intro H locs ls hP hz hS hl
  exact lv_tableOut hx hb hd h ht (k H locs ls hP hz hS hl)
theorem G_tableIn (hk : gOk l rm K V cc nL own ret nm) {dflt lo hi : Int} {offs : Array Int} {len : Nat} {x : Int32} {off : Int} {tgt : Nat} (hd : decode cc pc = .ok (.tableswitch dflt lo hi offs, len)) (h1 : ¬ x.toInt < lo) (h2 : ¬ hi < x.toInt) (ho : offs[(x.toInt - lo).toNat]? = some off) (ht : (pc : Int) + off = (tgt : Int))
    (k : G K V nL Q ad N cells slots tgt lv st E) : G K V nL Q ad N cells slots pc lv (.int x :: st) E := by
  obtain ⟨hl0, hR, hx, hb, hml, hown, hts, hr, hnm, hlk, hK, hbs, hns⟩ := hk
  intro H locs ls hP hz hS hl
  exact lv_tableIn hx hb hd h1 h2 ho ht (k H locs ls hP hz hS hl)
theorem G_lookup (hk : gOk l rm K V cc nL own ret nm) {dflt : Int} {ps : Array (Int × Int)} {len : Nat} {x : Int32} {off : Int} {tgt : Nat} (hd : decode cc pc = .ok (.lookupswitch dflt ps, len)) (hp : (ps.toList.zip (ps.toList.drop 1)).all (fun (a, next) => a.1 < next.1) = true) (ho : Op.lookupswitch.offset ps.toList dflt x.toInt = off) (ht : (pc : Int) + off = (tgt : Int))
    (k : G K V nL Q ad N cells slots tgt lv st E) : G K V nL Q ad N cells slots pc lv (.int x :: st) E := by
  obtain ⟨hl0, hR, hx, hb, hml, hown, hts, hr, hnm, hlk, hK, hbs, hns⟩ := hk
  intro H locs ls hP hz hS hl
  exact lv_lookup hx hb hd hp ho ht (k H locs ls hP hz hS hl)
theorem G_get (hk : gOk l rm K V cc nL own ret nm) {idx ci j k : Nat} {fs : List Value} {v : Value} (hf : gFld own idx ci j) (hd : decode cc pc = .ok (.getfield idx, 3)) (hE : E k = .inr (ci, fs)) (hv : fs[j]? = some v) (hN : k < N)
    (kk : G K V nL Q ad N cells slots (pc + 3) lv (v :: st) E) : G K V nL Q ad N cells slots pc lv (.ref (ad k) :: st) E := by
  obtain ⟨hl0, hR, hx, hb, hml, hown, hts, hr, hnm, hlk, hK, hbs, hns⟩ := hk
  intro H locs ls hP hz hS hl
  obtain ⟨⟨C, T, n⟩, hq, hj, hli, hin⟩ := hf
  exact va_get (ci := ci) hx hb hts hin hown hK hP k (by rw [gwd_get hN, hE]) hq j hj (hts _ hli) (fun _ h => h) hv hd (kk H locs ls hP hz hS hl)
theorem G_put (hk : gOk l rm K V cc nL own ret nm) {idx ci j k : Nat} {fs : List Value} {x : Int32} (hf : gFld own idx ci j) (hi : gInt ci j) (hd : decode cc pc = .ok (.putfield idx, 3)) (hE : E k = .inr (ci, fs)) (hlen : j < fs.length) (hN : k < N)
    (kk : G K V nL Q ad N cells slots (pc + 3) lv st (va_up E k (.inr (ci, fs.set j (.int x))))) : G K V nL Q ad N cells slots pc lv (.int x :: .ref (ad k) :: st) E := by
  obtain ⟨hl0, hR, hx, hb, hml, hown, hts, hr, hnm, hlk, hK, hbs, hns⟩ := hk
  intro H locs ls hP hz hS hl
  obtain ⟨⟨C, T, n⟩, hq, hj, hli, hin⟩ := hf
  obtain ⟨q2, ty, hq2, hj2, hty, hnm2, hfin, hpd⟩ := hi
  cases hq.symm.trans hq2
  refine va_put (ci := ci) (v := .int x) (ty := .int) hx hb hts hin ty hty hnm2 hown hK hP hz hS k (by rw [gwd_get hN, hE]) hq j hj (hts _ hli) (fun _ h => h) hfin hpd rfl rfl hlen hd (fun H1 locs1 hP1 hD1 hS1 => ?_)
  rw [gwd_set hN] at hP1 hD1
  exact kk H1 locs1 ls hP1 hD1 hS1 hl
theorem G_putF (hk : gOk l rm K V cc nL own ret nm) {idx ci j k a : Nat} {fs : List Value} {ty1 : FieldType} (hin0 : nm = "<init>") (hf : gFld own idx ci j) (hi : gFin ci j ty1) (hd : decode cc pc = .ok (.putfield idx, 3)) (hE : E k = .inr (ci, fs)) (hc : (vwCl[ci]?).map (fun q => q.1) = some own) (hn : narrow ty1 (.ref a) = .ref a) (hfit : fits ty1 (.ref a) = true) (hlen : j < fs.length) (hN : k < N)
    (kk : G K V nL Q ad N cells slots (pc + 3) lv st (va_up E k (.inr (ci, fs.set j (.ref a))))) : G K V nL Q ad N cells slots pc lv (.ref a :: .ref (ad k) :: st) E := by
  obtain ⟨hl0, hR, hx, hb, hml, hown, hts, hr, hnm, hlk, hK, hbs, hns⟩ := hk
  intro H locs ls hP hz hS hl
  obtain ⟨⟨C, T, n⟩, hq, hj, hli, hin⟩ := hf
  obtain ⟨q2, ty, hq2, hj2, hty, hnm2, hfin, hdc, hpd⟩ := hi
  cases hq.symm.trans hq2
  rw [hq] at hc
  cases hc
  refine va_putF (ci := ci) (v := .ref a) (ty := ty1) hx hb hts hin ty hty hnm2 hown hK hP hz hS k (by rw [gwd_get hN, hE]) hq j hj (hts _ hli) (fun _ h => h) hfin (hnm.trans hin0) hdc hpd hn hfit hlen hd (fun H1 locs1 hP1 hD1 hS1 => ?_)
  rw [gwd_set hN] at hP1 hD1
  exact kk H1 locs1 ls hP1 hD1 hS1 hl
theorem G_iald (hk : gOk l rm K V cc nL own ret nm) {k n : Nat} {f : Nat → Int32} {i : Int32} (hd : decode cc pc = .ok (.iaload, 1)) (hE : E k = gI V n f) (hin : vp_in i n) (hN : k < N)
    (kk : G K V nL Q ad N cells slots (pc + 1) lv (.int (f i.toNatClampNeg) :: st) E) : G K V nL Q ad N cells slots pc lv (.int i :: .ref (ad k) :: st) E := by
  obtain ⟨hl0, hR, hx, hb, hml, hown, hts, hr, hnm, hlk, hK, hbs, hns⟩ := hk
  intro H locs ls hP hz hS hl
  exact va_iald hx hb hK hP k 0 (by rw [gwd_get hN, hE]) rfl hin hd (kk H locs ls hP hz hS hl)
theorem G_iast (hk : gOk l rm K V cc nL own ret nm) {k n : Nat} {f : Nat → Int32} {i x : Int32} (hd : decode cc pc = .ok (.iastore, 1)) (hE : E k = gI V n f) (hin : vp_in i n) (hN : k < N)
    (kk : G K V nL Q ad N cells slots (pc + 1) lv st (va_up E k (gI V n (upd f i.toNatClampNeg x)))) : G K V nL Q ad N cells slots pc lv (.int x :: .int i :: .ref (ad k) :: st) E := by
  obtain ⟨hl0, hR, hx, hb, hml, hown, hts, hr, hnm, hlk, hK, hbs, hns⟩ := hk
  intro H locs ls hP hz hS hl
  refine va_iast hx hb hK hP hz hS k 0 (by rw [gwd_get hN, hE]) rfl hin hd (fun H1 locs1 hP1 hD1 hS1 => ?_)
  rw [gwd_set hN] at hP1 hD1
  exact kk H1 locs1 ls hP1 hD1 hS1 hl
theorem G_aaldRl (hk : gOk l rm K V cc nL own ret nm) {k n a : Nat} {f : Nat → Option Nat} {i : Int32} (hd : decode cc pc = .ok (.aaload, 1)) (hE : E k = gRl V n f) (hin : vp_in i n) (hv : f i.toNatClampNeg = some a) (hN : k < N)
    (kk : G K V nL Q ad N cells slots (pc + 1) lv (.ref a :: st) E) : G K V nL Q ad N cells slots pc lv (.int i :: .ref (ad k) :: st) E := by
  obtain ⟨hl0, hR, hx, hb, hml, hown, hts, hr, hnm, hlk, hK, hbs, hns⟩ := hk
  intro H locs ls hP hz hS hl
  refine va_aldq hx hb hK hP k 2 (by rw [gwd_get hN, hE]) rfl hin hd ?_
  rw [hv]
  exact kk H locs ls hP hz hS hl
theorem G_aastRl (hk : gOk l rm K V cc nL own ret nm) {k n k2 : Nat} {fs : List Value} {f : Nat → Option Nat} {i : Int32} (hd : decode cc pc = .ok (.aastore, 1)) (hE : E k = gRl V n f) (hin : vp_in i n) (hN : k < N) (hE2 : E k2 = .inr (3, fs)) (hN2 : k2 < N)
    (kk : G K V nL Q ad N cells slots (pc + 1) lv st (va_up E k (gRl V n (va_up f i.toNatClampNeg (some (ad k2)))))) : G K V nL Q ad N cells slots pc lv (.ref (ad k2) :: .int i :: .ref (ad k) :: st) E := by
  obtain ⟨hl0, hR, hx, hb, hml, hown, hts, hr, hnm, hlk, hK, hbs, hns⟩ := hk
  intro H locs ls hP hz hS hl
  refine va_astq hx hb hK hP hz hS k 2 k2 3 (by rw [gwd_get hN, hE]) rfl (by rw [gwd_get hN2, hE2]) rfl hin hd (fun H1 locs1 hP1 hD1 hS1 => ?_)
  rw [gwd_set hN] at hP1 hD1
  exact kk H1 locs1 ls hP1 hD1 hS1 hl
theorem G_aaldRw (hk : gOk l rm K V cc nL own ret nm) {k n a : Nat} {f : Nat → Option Nat} {i : Int32} (hd : decode cc pc = .ok (.aaload, 1)) (hE : E k = gRw V n f) (hin : vp_in i n) (hv : f i.toNatClampNeg = some a) (hN : k < N)
    (kk : G K V nL Q ad N cells slots (pc + 1) lv (.ref a :: st) E) : G K V nL Q ad N cells slots pc lv (.int i :: .ref (ad k) :: st) E := by
  obtain ⟨hl0, hR, hx, hb, hml, hown, hts, hr, hnm, hlk, hK, hbs, hns⟩ := hk
  intro H locs ls hP hz hS hl
  refine va_aldq hx hb hK hP k 1 (by rw [gwd_get hN, hE]) rfl hin hd ?_
  rw [hv]
  exact kk H locs ls hP hz hS hl
theorem G_aastRw (hk : gOk l rm K V cc nL own ret nm) {k n k2 : Nat} {fs : List Value} {f : Nat → Option Nat} {i : Int32} (hd : decode cc pc = .ok (.aastore, 1)) (hE : E k = gRw V n f) (hin : vp_in i n) (hN : k < N) (hE2 : E k2 = .inr (2, fs)) (hN2 : k2 < N)
    (kk : G K V nL Q ad N cells slots (pc + 1) lv st (va_up E k (gRw V n (va_up f i.toNatClampNeg (some (ad k2)))))) : G K V nL Q ad N cells slots pc lv (.ref (ad k2) :: .int i :: .ref (ad k) :: st) E := by
  obtain ⟨hl0, hR, hx, hb, hml, hown, hts, hr, hnm, hlk, hK, hbs, hns⟩ := hk
  intro H locs ls hP hz hS hl
  refine va_astq hx hb hK hP hz hS k 1 k2 2 (by rw [gwd_get hN, hE]) rfl (by rw [gwd_get hN2, hE2]) rfl hin hd (fun H1 locs1 hP1 hD1 hS1 => ?_)
  rw [gwd_set hN] at hP1 hD1
  exact kk H1 locs1 ls hP1 hD1 hS1 hl
theorem G_alen (hk : gOk l rm K V cc nL own ret nm) {k n : Nat} {f : Nat → Int32} {v : Int32} (hd : decode cc pc = .ok (.arraylength, 1)) (hE : E k = gI V n f) (hv : Int32.ofNat n = v) (hN : k < N)
    (kk : G K V nL Q ad N cells slots (pc + 1) lv (.int v :: st) E) : G K V nL Q ad N cells slots pc lv (.ref (ad k) :: st) E := by
  obtain ⟨hl0, hR, hx, hb, hml, hown, hts, hr, hnm, hlk, hK, hbs, hns⟩ := hk
  intro H locs ls hP hz hS hl
  exact va_alen hx hb hK hP k 0 (by rw [gwd_get hN, hE]) rfl hv hd (kk H locs ls hP hz hS hl)
end GEE
end
section
section GRET
variable {l : Launch} {rm : Room} {K : gX} {V : gV} {cc : ByteArray} {nL : Nat} {own : String} {ret : Option FieldType} {nm : String} {Q : State → Prop} {ad : Nat → Nat} {N N' cells slots pc : Nat} {lv : List (Nat × Value)} {st rest : List Value} {E : Nat → va_E}
theorem G_iret (hk : gOk l rm K V cc nL own (some .int) nm) {post : Int32 → (Nat → va_E) → Prop} {v : Int32} (hd : decode cc pc = .ok (.ireturn, 1)) (hp : post v E) : G K V nL (gQ K V N cells slots (pI ad post)) ad N cells slots pc lv [.int v] E := by
  obtain ⟨hl0, hR, hx, hb, hml, hown, hts, hr, hnm, hlk, hK, hbs, hns⟩ := hk
  intro H locs ls hP hz hS hl
  exact W.iret hx hb hr (fun t ht hW => ⟨⟨_, ad, E, rfl, ⟨v, rfl, rfl, hp⟩, by rw [ht]; exact hP, hz⟩, hS.F ht⟩) hS.2.2 hd hlk
theorem G_zret (hk : gOk l rm K V cc nL own (some .boolean) nm) {post : Int32 → (Nat → va_E) → Prop} {v : Int32} (hd : decode cc pc = .ok (.ireturn, 1)) (hn : narrow .boolean (.int v) = .int v) (hp : post v E) : G K V nL (gQ K V N cells slots (pI ad post)) ad N cells slots pc lv [.int v] E := by
  obtain ⟨hl0, hR, hx, hb, hml, hown, hts, hr, hnm, hlk, hK, hbs, hns⟩ := hk
  intro H locs ls hP hz hS hl
  exact W.zret hx hb hr hn (fun t ht hW => ⟨⟨_, ad, E, rfl, ⟨v, rfl, rfl, hp⟩, by rw [ht]; exact hP, hz⟩, hS.F ht⟩) hS.2.2 hd hlk
theorem G_lret (hk : gOk l rm K V cc nL own (some .long) nm) {post : Int64 → (Nat → va_E) → Prop} {v : Int64} (hd : decode cc pc = .ok (.lreturn, 1)) (hp : post v E) : G K V nL (gQ K V N cells slots (pJ ad post)) ad N cells slots pc lv [.long v] E := by
  obtain ⟨hl0, hR, hx, hb, hml, hown, hts, hr, hnm, hlk, hK, hbs, hns⟩ := hk
  intro H locs ls hP hz hS hl
  exact W.lret hx hb hr (fun t ht hW => ⟨⟨_, ad, E, rfl, ⟨v, rfl, rfl, hp⟩, by rw [ht]; exact hP, hz⟩, hS.F ht⟩) hS.2.2 hd hlk
theorem G_vret (hk : gOk l rm K V cc nL own none nm) {post : (Nat → va_E) → Prop} (hd : decode cc pc = .ok (.return_, 1)) (hp : post E) : G K V nL (gQ K V N cells slots (pV ad post)) ad N cells slots pc lv [] E := by
  obtain ⟨hl0, hR, hx, hb, hml, hown, hts, hr, hnm, hlk, hK, hbs, hns⟩ := hk
  intro H locs ls hP hz hS hl
  exact W.vret hx hb hr (fun t ht hW => ⟨⟨_, ad, E, rfl, ⟨rfl, rfl, hp⟩, by rw [ht]; exact hP, hz⟩, hS.F ht⟩) hS.2.2 hd hlk
theorem G_nret (hk : gOk l rm K V cc nL own none nm) {post : (Nat → Nat) → (Nat → va_E) → Prop} (hd : decode cc pc = .ok (.return_, 1)) (hp : post ad E) : G K V nL (gQ K V N cells slots (pN post)) ad N cells slots pc lv [] E := by
  obtain ⟨hl0, hR, hx, hb, hml, hown, hts, hr, hnm, hlk, hK, hbs, hns⟩ := hk
  intro H locs ls hP hz hS hl
  exact W.vret hx hb hr (fun t ht hW => ⟨⟨_, ad, E, rfl, ⟨rfl, hp⟩, by rw [ht]; exact hP, hz⟩, hS.F ht⟩) hS.2.2 hd hlk
theorem gFB {as : List Value} : FrameBlind (gPc V ad N as E) := fun a U g mk q => by
  obtain ⟨q0, qP, qK, qD, qb, qn⟩ := q
  exact ⟨q0, qP, va_K.moved (u := U) (U := U.calling g mk a) (Vm.Alike.refl U.vm) qK, qD, qb, gNs.same qn rfl⟩
theorem gRun {H : Heap} {locs : List Loc} {ls : Array Slot} {st0 : List Value} {a : Array Value} {mc ms : Nat} {post : Option Value → (Nat → Nat) → (Nat → va_E) → Prop}
    (hr : va_Run K.1 K.2.1 K.2.2.1 K.2.2.2.1 K.2.2.2.2.1 K.2.2.2.2.2.1 K.2.2.2.2.2.2.1 K.2.2.2.2.2.2.2.1 K.2.2.2.2.2.2.2.2.1 K.2.2.2.2.2.2.2.2.2 H locs cells slots mc ms (F0 (gm K) pc ls st0) rest (gQc V N' post a) (fun q => V.2.2 ≤ q)) (hS : va_S (fun q => V.2.2 ≤ q) (gs K).heap H locs)
    (kk : ∀ (r : Option Value) (ad2 : Nat → Nat) (E2 : Nat → va_E) (H1 : Heap) (locs1 : List Loc), post r ad2 E2 → va_P V.1 vwCl (gwd ad2 N' E2) H1 → va_D (fun q => V.2.2 ≤ q) (gwd ad2 N' E2) → va_S (fun q => V.2.2 ≤ q) (gs K).heap H1 locs1 → gW K H1 locs1 (cells + mc) (slots + ms) Q (F0 (gm K) (pc + 3) ls (r.toList ++ rest))) : gW K H locs cells slots Q (F0 (gm K) pc ls st0) := by
  intro T hT X
  obtain ⟨v, st₀, t, T', L, h0, X', hL, e1, e2, ⟨⟨r, ad2, E2, hv, hp, hb, hd⟩, hz, hk⟩, stp⟩ := hr T hT X
  cases hv
  rw [h0] at hz hk
  obtain ⟨t2, a1, b1⟩ := kk v ad2 E2 T'.heap (locs ++ L) hp (by rw [e1]; exact hb) hd ⟨Nat.le_trans hS.1 (by rw [e1]; exact hz), fun q h1 h2 => by rw [e1, hk q (Nat.lt_of_lt_of_le h1 hS.1) h2]; exact hS.2.1 q h1 h2, fun q hq => (List.mem_append.mp hq).elim (hS.2.2 q) (hL q)⟩ T' rfl X'
  exact ⟨t2, stp t2 a1, b1⟩
theorem gGood {w : Cond} (h : w ∈ gT) : GoodIn gT (w :: gT) := fun u hu => by
  have h1 : u ∈ gT := (List.mem_cons.mp hu).elim (fun e => e ▸ h) id
  exact ⟨h1, gT_good h1⟩
theorem gCB {y : MethodName} {cy : ByteArray} {mL n idx : Nat} {ry : Option FieldType} {rmy : Room} (hk : gOk l rm K V cc nL own ret nm) (hm : gMeth y cy mL ry n) (hlk : Cond.methodLink own idx y ∈ gT) (hR : rmy.frames + 1 ≤ rm.frames ∧ 8 + (mL + 11) + rmy.locals ≤ rm.locals) :
    CallB K.2.2.2.1 (gs K) (ga K) own idx y cy mL ry (Cond.code y cy mL ry :: gT) rmy rmy.cells rmy.slots n := by
  obtain ⟨hl0, rfl, hx, hb, hml, hown, hts, hr, hnm, hlk2, hK, hbs, hns⟩ := hk
  exact callB_of n hts (gGood hm.1) rfl rfl rfl (hts _ hm.2.1) (hts _ hlk) hm.2.2.1 hR
/-- a call of an object's method -/
theorem G_callV {y : MethodName} {cy : ByteArray} {mL n idx k ci : Nat} {ry : Option FieldType} {rmy : Room} {As fs : List Value} {post : Option Value → (Nat → Nat) → (Nat → va_E) → Prop} (hk : gOk l rm K V cc nL own ret nm)
    (hM : Ct l V ad N N' y cy mL ry rmy (.ref (ad k) :: As) E post) (hm : gMeth y cy mL ry n) (hi : gInst y) (hlk : Cond.methodLink own idx y ∈ gT) (hd : decode cc pc = .ok (.invokevirtual idx, 3)) (hE : E k = .inr (ci, fs)) (hc : (vwCl[ci]?).map (fun q => q.1) = some y.cls) (hN : k < N) (hlen : As.length = n) (hR : rmy.frames + 1 ≤ rm.frames ∧ 8 + (mL + 11) + rmy.locals ≤ rm.locals) (hcs : cells + rmy.cells ≤ rm.cells ∧ slots + rmy.slots ≤ rm.slots) (hst : st = As.reverse ++ .ref (ad k) :: rest) (hw : (rest.map fun v => v.category).sum ≤ 8)
    (kk : ∀ (r : Option Value) (ad2 : Nat → Nat) (E2 : Nat → va_E), post r ad2 E2 → G K V nL Q ad2 N' (cells + rmy.cells) (slots + rmy.slots) (pc + 3) lv (r.toList ++ rest) E2) : G K V nL Q ad N cells slots pc lv st E := by
  have hcb := gCB (idx := idx) hk hm hlk hR
  obtain ⟨rfl, rfl, hx, hb, hml, hown, hts, hr, hnm, hlk2, hK, hbs, hns⟩ := hk
  subst hst
  intro H locs ls hP hz hS hl
  obtain ⟨q, hq, hq1⟩ := Option.map_eq_some_iff.mp hc
  obtain ⟨cell, c1, c2, c3⟩ := va_recv hK hP (ci := ci) (q0 := k) (a := ad k) (fs := fs) hq (by rw [gwd_get hN, hE])
  refine gRun (va_runV (As := As) (rest := rest) ⟨hx, hb, hml, hown, hts⟩ hM ⟨hcb, hts _ hi.1, hts _ hi.2⟩ ⟨gFB, ⟨cell, c1, c2, by rw [← hq1]; exact c3⟩, fun U hU hW => ⟨rfl, by rw [hU]; exact hP, va_K.moved hW.alike hK, hz, by rw [hU]; exact Nat.le_trans hbs hS.1, gNs.warm hW hns⟩⟩ rfl hlen hl.1 rfl (lv_room hw) hd hcs) hS (fun r ad2 E2 H1 locs1 hp hP1 hD1 hS1 => kk r ad2 E2 hp H1 locs1 ls hP1 hD1 hS1 hl)
theorem G_callS {y : MethodName} {cy : ByteArray} {mL n idx : Nat} {ry : Option FieldType} {rmy : Room} {As : List Value} {post : Option Value → (Nat → Nat) → (Nat → va_E) → Prop} (hk : gOk l rm K V cc nL own ret nm)
    (hM : Ct l V ad N N' y cy mL ry rmy As E post) (hm : gMeth y cy mL ry n) (hi : Cond.static y ∈ gT) (hlk : Cond.methodLink own idx y ∈ gT) (hd : decode cc pc = .ok (.invokestatic idx, 3)) (hlen : As.length = n) (hR : rmy.frames + 1 ≤ rm.frames ∧ 8 + (mL + 11) + rmy.locals ≤ rm.locals) (hcs : cells + rmy.cells ≤ rm.cells ∧ slots + rmy.slots ≤ rm.slots) (hst : st = As.reverse ++ rest) (hw : (rest.map fun v => v.category).sum ≤ 8)
    (kk : ∀ (r : Option Value) (ad2 : Nat → Nat) (E2 : Nat → va_E), post r ad2 E2 → G K V nL Q ad2 N' (cells + rmy.cells) (slots + rmy.slots) (pc + 3) lv (r.toList ++ rest) E2) : G K V nL Q ad N cells slots pc lv st E := by
  have hcb := gCB (idx := idx) hk hm hlk hR
  obtain ⟨rfl, rfl, hx, hb, hml, hown, hts, hr, hnm, hlk2, hK, hbs, hns⟩ := hk
  subst hst
  intro H locs ls hP hz hS hl
  refine gRun (va_runS (As := As) (rest := rest) ⟨hx, hb, hml, hown, hts⟩ hM ⟨hcb, hts _ hi⟩ ⟨gFB, fun U hU hW => ⟨rfl, by rw [hU]; exact hP, va_K.moved hW.alike hK, hz, by rw [hU]; exact Nat.le_trans hbs hS.1, gNs.warm hW hns⟩⟩ rfl hlen hl.1 rfl (lv_room hw) hd hcs) hS (fun r ad2 E2 H1 locs1 hp hP1 hD1 hS1 => kk r ad2 E2 hp H1 locs1 ls hP1 hD1 hS1 hl)
/-- a nest mate's private static method -/
theorem G_callSN {y : MethodName} {cy : ByteArray} {mL n idx : Nat} {ry : Option FieldType} {rmy : Room} {As : List Value} {host : String} {post : Option Value → (Nat → Nat) → (Nat → va_E) → Prop} (hk : gOk l rm K V cc nL own ret nm)
    (hM : Ct l V ad N N' y cy mL ry rmy As E post) (hm : gMeth y cy mL ry n) (hi : Cond.static y ∈ gT) (hlk : gNs (gs K) → va_Nw (.methodLinkNest own idx y host) (gs K)) (hd : decode cc pc = .ok (.invokestatic idx, 3)) (hlen : As.length = n) (hR : rmy.frames + 1 ≤ rm.frames ∧ 8 + (mL + 11) + rmy.locals ≤ rm.locals) (hcs : cells + rmy.cells ≤ rm.cells ∧ slots + rmy.slots ≤ rm.slots) (hst : st = As.reverse ++ rest) (hw : (rest.map fun v => v.category).sum ≤ 8)
    (kk : ∀ (r : Option Value) (ad2 : Nat → Nat) (E2 : Nat → va_E), post r ad2 E2 → G K V nL Q ad2 N' (cells + rmy.cells) (slots + rmy.slots) (pc + 3) lv (r.toList ++ rest) E2) : G K V nL Q ad N cells slots pc lv st E := by
  obtain ⟨rfl, rfl, hx, hb, hml, hown, hts, hr, hnm, hlk2, hK, hbs, hns⟩ := hk
  subst hst
  intro H locs ls hP hz hS hl
  refine gRun (va_runSN (As := As) (rest := rest) ⟨hx, hb, hml, hown, hts⟩ hM ⟨va_cnB n hts (gGood hm.1) rfl rfl rfl (hlk hns) (hts _ hm.2.1) hm.2.2.1 hR, hts _ hi, trivial⟩ ⟨gFB, fun U hU hW => ⟨rfl, by rw [hU]; exact hP, va_K.moved hW.alike hK, hz, by rw [hU]; exact Nat.le_trans hbs hS.1, gNs.warm hW hns⟩⟩ rfl hlen hl.1 rfl (lv_room hw) hd hcs) hS (fun r ad2 E2 H1 locs1 hp hP1 hD1 hS1 => kk r ad2 E2 hp H1 locs1 ls hP1 hD1 hS1 hl)
/-- a constructor of another class; of a nest mate's private one -/
theorem G_callI {y : MethodName} {cy : ByteArray} {mL n idx k : Nat} {rmy : Room} {As : List Value} {post : Option Value → (Nat → Nat) → (Nat → va_E) → Prop} (hk : gOk l rm K V cc nL own ret nm)
    (hM : Ct l V ad N N' y cy mL none rmy (.ref (ad k) :: As) E post) (hm : gMeth y cy mL none n) (hi : Cond.instanceMethod y ∈ gT) (hy : y.name = "<init>") (hlk : Cond.methodLink own idx y ∈ gT) (hd : decode cc pc = .ok (.invokespecial idx, 3)) (hlen : As.length = n) (hR : rmy.frames + 1 ≤ rm.frames ∧ 8 + (mL + 11) + rmy.locals ≤ rm.locals) (hcs : cells + rmy.cells ≤ rm.cells ∧ slots + rmy.slots ≤ rm.slots) (hst : st = As.reverse ++ .ref (ad k) :: rest) (hw : (rest.map fun v => v.category).sum ≤ 8)
    (kk : ∀ (r : Option Value) (ad2 : Nat → Nat) (E2 : Nat → va_E), post r ad2 E2 → G K V nL Q ad2 N' (cells + rmy.cells) (slots + rmy.slots) (pc + 3) lv (r.toList ++ rest) E2) : G K V nL Q ad N cells slots pc lv st E := by
  have hcb := gCB (idx := idx) hk hm hlk hR
  obtain ⟨rfl, rfl, hx, hb, hml, hown, hts, hr, hnm, hlk2, hK, hbs, hns⟩ := hk
  subst hst
  intro H locs ls hP hz hS hl
  refine gRun (va_runI (As := As) (rest := rest) ⟨hx, hb, hml, hown, hts⟩ hM ⟨hcb, hy, hts _ hi⟩ ⟨gFB, fun U hU hW => ⟨rfl, by rw [hU]; exact hP, va_K.moved hW.alike hK, hz, by rw [hU]; exact Nat.le_trans hbs hS.1, gNs.warm hW hns⟩⟩ rfl hlen hl.1 rfl (lv_room hw) hd hcs) hS (fun r ad2 E2 H1 locs1 hp hP1 hD1 hS1 => kk r ad2 E2 hp H1 locs1 ls hP1 hD1 hS1 hl)
theorem G_callIN {y : MethodName} {cy : ByteArray} {mL n idx k : Nat} {rmy : Room} {As : List Value} {host : String} {post : Option Value → (Nat → Nat) → (Nat → va_E) → Prop} (hk : gOk l rm K V cc nL own ret nm)
    (hM : Ct l V ad N N' y cy mL none rmy (.ref (ad k) :: As) E post) (hm : gMeth y cy mL none n) (hi : Cond.instanceMethod y ∈ gT) (hy : y.name = "<init>") (hlk : gNs (gs K) → va_Nw (.methodLinkNest own idx y host) (gs K)) (hd : decode cc pc = .ok (.invokespecial idx, 3)) (hlen : As.length = n) (hR : rmy.frames + 1 ≤ rm.frames ∧ 8 + (mL + 11) + rmy.locals ≤ rm.locals) (hcs : cells + rmy.cells ≤ rm.cells ∧ slots + rmy.slots ≤ rm.slots) (hst : st = As.reverse ++ .ref (ad k) :: rest) (hw : (rest.map fun v => v.category).sum ≤ 8)
    (kk : ∀ (r : Option Value) (ad2 : Nat → Nat) (E2 : Nat → va_E), post r ad2 E2 → G K V nL Q ad2 N' (cells + rmy.cells) (slots + rmy.slots) (pc + 3) lv (r.toList ++ rest) E2) : G K V nL Q ad N cells slots pc lv st E := by
  obtain ⟨rfl, rfl, hx, hb, hml, hown, hts, hr, hnm, hlk2, hK, hbs, hns⟩ := hk
  subst hst
  intro H locs ls hP hz hS hl
  refine gRun (va_runIN (As := As) (rest := rest) ⟨hx, hb, hml, hown, hts⟩ hM ⟨va_cnB n hts (gGood hm.1) rfl rfl rfl (hlk hns) (hts _ hm.2.1) hm.2.2.1 hR, hy, hts _ hi⟩ ⟨gFB, fun U hU hW => ⟨rfl, by rw [hU]; exact hP, va_K.moved hW.alike hK, hz, by rw [hU]; exact Nat.le_trans hbs hS.1, gNs.warm hW hns⟩⟩ rfl hlen hl.1 rfl (lv_room hw) hd hcs) hS (fun r ad2 E2 H1 locs1 hp hP1 hD1 hS1 => kk r ad2 E2 hp H1 locs1 ls hP1 hD1 hS1 hl)
/-! the calls as walks use them: nothing is made -/
theorem G_cVi {y : MethodName} {cy : ByteArray} {mL n idx k ci fr lo : Nat} {ry : Option FieldType} {As fs : List Value} {post : Int32 → (Nat → va_E) → Prop} (hk : gOk l rm K V cc nL own ret nm)
    (hM : Ct l V ad N N y cy mL ry { frames := fr, cells := 0, slots := 0, locals := lo } (.ref (ad k) :: As) E (pI ad post)) (hm : gMeth y cy mL ry n) (hi : gInst y) (hlk : Cond.methodLink own idx y ∈ gT) (hd : decode cc pc = .ok (.invokevirtual idx, 3)) (hE : E k = .inr (ci, fs)) (hc : (vwCl[ci]?).map (fun q => q.1) = some y.cls) (hN : k < N) (hlen : As.length = n) (hR : fr + 1 ≤ rm.frames ∧ 8 + (mL + 11) + lo ≤ rm.locals) (hcs : cells ≤ rm.cells ∧ slots ≤ rm.slots) (hst : st = As.reverse ++ .ref (ad k) :: rest) (hw : (rest.map fun v => v.category).sum ≤ 8)
    (kk : ∀ (v : Int32) (E2 : Nat → va_E), post v E2 → G K V nL Q ad N cells slots (pc + 3) lv (.int v :: rest) E2) : G K V nL Q ad N cells slots pc lv st E := by
  refine G_callV hk hM hm hi hlk hd hE hc hN hlen hR hcs hst hw ?_
  rintro r ad2 E2 ⟨v, rfl, rfl, hp⟩
  exact kk v E2 hp
theorem G_cVl {y : MethodName} {cy : ByteArray} {mL n idx k ci fr lo : Nat} {ry : Option FieldType} {As fs : List Value} {post : Int64 → (Nat → va_E) → Prop} (hk : gOk l rm K V cc nL own ret nm)
    (hM : Ct l V ad N N y cy mL ry { frames := fr, cells := 0, slots := 0, locals := lo } (.ref (ad k) :: As) E (pJ ad post)) (hm : gMeth y cy mL ry n) (hi : gInst y) (hlk : Cond.methodLink own idx y ∈ gT) (hd : decode cc pc = .ok (.invokevirtual idx, 3)) (hE : E k = .inr (ci, fs)) (hc : (vwCl[ci]?).map (fun q => q.1) = some y.cls) (hN : k < N) (hlen : As.length = n) (hR : fr + 1 ≤ rm.frames ∧ 8 + (mL + 11) + lo ≤ rm.locals) (hcs : cells ≤ rm.cells ∧ slots ≤ rm.slots) (hst : st = As.reverse ++ .ref (ad k) :: rest) (hw : (rest.map fun v => v.category).sum ≤ 8)
    (kk : ∀ (v : Int64) (E2 : Nat → va_E), post v E2 → G K V nL Q ad N cells slots (pc + 3) lv (.long v :: rest) E2) : G K V nL Q ad N cells slots pc lv st E := by
  refine G_callV hk hM hm hi hlk hd hE hc hN hlen hR hcs hst hw ?_
  rintro r ad2 E2 ⟨v, rfl, rfl, hp⟩
  exact kk v E2 hp
theorem G_cVv {y : MethodName} {cy : ByteArray} {mL n idx k ci fr lo : Nat} {ry : Option FieldType} {As fs : List Value} {post : (Nat → va_E) → Prop} (hk : gOk l rm K V cc nL own ret nm)
    (hM : Ct l V ad N N y cy mL ry { frames := fr, cells := 0, slots := 0, locals := lo } (.ref (ad k) :: As) E (pV ad post)) (hm : gMeth y cy mL ry n) (hi : gInst y) (hlk : Cond.methodLink own idx y ∈ gT) (hd : decode cc pc = .ok (.invokevirtual idx, 3)) (hE : E k = .inr (ci, fs)) (hc : (vwCl[ci]?).map (fun q => q.1) = some y.cls) (hN : k < N) (hlen : As.length = n) (hR : fr + 1 ≤ rm.frames ∧ 8 + (mL + 11) + lo ≤ rm.locals) (hcs : cells ≤ rm.cells ∧ slots ≤ rm.slots) (hst : st = As.reverse ++ .ref (ad k) :: rest) (hw : (rest.map fun v => v.category).sum ≤ 8)
    (kk : ∀ (E2 : Nat → va_E), post E2 → G K V nL Q ad N cells slots (pc + 3) lv rest E2) : G K V nL Q ad N cells slots pc lv st E := by
  refine G_callV hk hM hm hi hlk hd hE hc hN hlen hR hcs hst hw ?_
  rintro r ad2 E2 ⟨rfl, rfl, hp⟩
  exact kk E2 hp
theorem G_cSi {y : MethodName} {cy : ByteArray} {mL n idx fr lo : Nat} {ry : Option FieldType} {As : List Value} {post : Int32 → (Nat → va_E) → Prop} (hk : gOk l rm K V cc nL own ret nm)
    (hM : Ct l V ad N N y cy mL ry { frames := fr, cells := 0, slots := 0, locals := lo } As E (pI ad post)) (hm : gMeth y cy mL ry n) (hi : Cond.static y ∈ gT) (hlk : Cond.methodLink own idx y ∈ gT) (hd : decode cc pc = .ok (.invokestatic idx, 3)) (hlen : As.length = n) (hR : fr + 1 ≤ rm.frames ∧ 8 + (mL + 11) + lo ≤ rm.locals) (hcs : cells ≤ rm.cells ∧ slots ≤ rm.slots) (hst : st = As.reverse ++ rest) (hw : (rest.map fun v => v.category).sum ≤ 8)
    (kk : ∀ (v : Int32) (E2 : Nat → va_E), post v E2 → G K V nL Q ad N cells slots (pc + 3) lv (.int v :: rest) E2) : G K V nL Q ad N cells slots pc lv st E := by
  refine G_callS hk hM hm hi hlk hd hlen hR hcs hst hw ?_
  rintro r ad2 E2 ⟨v, rfl, rfl, hp⟩
  exact kk v E2 hp
theorem G_cSl {y : MethodName} {cy : ByteArray} {mL n idx fr lo : Nat} {ry : Option FieldType} {As : List Value} {post : Int64 → (Nat → va_E) → Prop} (hk : gOk l rm K V cc nL own ret nm)
    (hM : Ct l V ad N N y cy mL ry { frames := fr, cells := 0, slots := 0, locals := lo } As E (pJ ad post)) (hm : gMeth y cy mL ry n) (hi : Cond.static y ∈ gT) (hlk : Cond.methodLink own idx y ∈ gT) (hd : decode cc pc = .ok (.invokestatic idx, 3)) (hlen : As.length = n) (hR : fr + 1 ≤ rm.frames ∧ 8 + (mL + 11) + lo ≤ rm.locals) (hcs : cells ≤ rm.cells ∧ slots ≤ rm.slots) (hst : st = As.reverse ++ rest) (hw : (rest.map fun v => v.category).sum ≤ 8)
    (kk : ∀ (v : Int64) (E2 : Nat → va_E), post v E2 → G K V nL Q ad N cells slots (pc + 3) lv (.long v :: rest) E2) : G K V nL Q ad N cells slots pc lv st E := by
  refine G_callS hk hM hm hi hlk hd hlen hR hcs hst hw ?_
  rintro r ad2 E2 ⟨v, rfl, rfl, hp⟩
  exact kk v E2 hp
theorem G_cSv {y : MethodName} {cy : ByteArray} {mL n idx fr lo : Nat} {ry : Option FieldType} {As : List Value} {post : (Nat → va_E) → Prop} (hk : gOk l rm K V cc nL own ret nm)
    (hM : Ct l V ad N N y cy mL ry { frames := fr, cells := 0, slots := 0, locals := lo } As E (pV ad post)) (hm : gMeth y cy mL ry n) (hi : Cond.static y ∈ gT) (hlk : Cond.methodLink own idx y ∈ gT) (hd : decode cc pc = .ok (.invokestatic idx, 3)) (hlen : As.length = n) (hR : fr + 1 ≤ rm.frames ∧ 8 + (mL + 11) + lo ≤ rm.locals) (hcs : cells ≤ rm.cells ∧ slots ≤ rm.slots) (hst : st = As.reverse ++ rest) (hw : (rest.map fun v => v.category).sum ≤ 8)
    (kk : ∀ (E2 : Nat → va_E), post E2 → G K V nL Q ad N cells slots (pc + 3) lv rest E2) : G K V nL Q ad N cells slots pc lv st E := by
  refine G_callS hk hM hm hi hlk hd hlen hR hcs hst hw ?_
  rintro r ad2 E2 ⟨rfl, rfl, hp⟩
  exact kk E2 hp
theorem G_cSNi {y : MethodName} {cy : ByteArray} {mL n idx fr lo : Nat} {ry : Option FieldType} {As : List Value} {host : String} {post : Int32 → (Nat → va_E) → Prop} (hk : gOk l rm K V cc nL own ret nm)
    (hM : Ct l V ad N N y cy mL ry { frames := fr, cells := 0, slots := 0, locals := lo } As E (pI ad post)) (hm : gMeth y cy mL ry n) (hi : Cond.static y ∈ gT) (hlk : gNs (gs K) → va_Nw (.methodLinkNest own idx y host) (gs K)) (hd : decode cc pc = .ok (.invokestatic idx, 3)) (hlen : As.length = n) (hR : fr + 1 ≤ rm.frames ∧ 8 + (mL + 11) + lo ≤ rm.locals) (hcs : cells ≤ rm.cells ∧ slots ≤ rm.slots) (hst : st = As.reverse ++ rest) (hw : (rest.map fun v => v.category).sum ≤ 8)
    (kk : ∀ (v : Int32) (E2 : Nat → va_E), post v E2 → G K V nL Q ad N cells slots (pc + 3) lv (.int v :: rest) E2) : G K V nL Q ad N cells slots pc lv st E := by
  refine G_callSN hk hM hm hi hlk hd hlen hR hcs hst hw ?_
  rintro r ad2 E2 ⟨v, rfl, rfl, hp⟩
  exact kk v E2 hp
/-- fewer locals -/
def gSub : List (Nat × Value) → List (Nat × Value) → Prop
  | [], _ => True
  | q :: l1, l2 => gL l2 q.1 = some q.2 ∧ gSub l1 l2
theorem gSub_of : ∀ (l1 l2 : List (Nat × Value)), gSub l1 l2 → ∀ (i : Nat) (v : Value), gL l1 i = some v → gL l2 i = some v
  | [], _, _, i, v, h => by cases h
  | q :: l1, l2, h, i, v, hv => by
    simp only [gL] at hv
    split at hv
    · rename_i e
      cases hv
      rw [← e]
      exact h.1
    · exact gSub_of l1 l2 h.2 i v hv
theorem G_lv {lv2 : List (Nat × Value)} (h : gSub lv2 lv) (k : G K V nL Q ad N cells slots pc lv2 st E) : G K V nL Q ad N cells slots pc lv st E := fun H locs ls hP hz hS hl => k H locs ls hP hz hS ⟨hl.1, hl.2.1, fun i v hv => hl.2.2 i v (gSub_of lv2 lv h i v hv)⟩
theorem G_E {E2 : Nat → va_E} (h : E = E2) (k : G K V nL Q ad N cells slots pc lv st E2) : G K V nL Q ad N cells slots pc lv st E := h ▸ k
end GRET
end
section
def gB (c : Prop) [Decidable c] : Int32 := if c then 1 else 0
theorem gB_ne {c : Prop} [Decidable c] : (¬ gB c = 0) ↔ c := by
  unfold gB
  split <;> simp [*]
theorem gB_eq {c : Prop} [Decidable c] : gB c = 0 ↔ ¬ c := by
  unfold gB
  split <;> simp [*]
theorem gB_nar (c : Prop) [Decidable c] : narrow .boolean (.int (gB c)) = .int (gB c) := by
  unfold gB
  split <;> rfl
theorem gB_t {c : Prop} [Decidable c] (h : c) : gB c = 1 := if_pos h
theorem gB_f {c : Prop} [Decidable c] (h : ¬ c) : gB c = 0 := if_neg h
theorem gB_c {c d : Prop} [Decidable c] [Decidable d] (h : c ↔ d) : gB c = gB d := by
  by_cases hd : d
  · rw [gB_t hd, gB_t (h.mpr hd)]
  · rw [gB_f hd, gB_f (fun q => hd (h.mp q))]
/-- nothing is changed, the answer is x -/
def pS (E : Nat → va_E) (x : Int32) : Int32 → (Nat → va_E) → Prop := fun v E2 => E = E2 ∧ v = x
theorem va_up_up {α : Type} (f : Nat → α) (k : Nat) (v w : α) : va_up (va_up f k v) k w = va_up f k w := bx_uu f k v w
theorem gIx {i : Int32} {n : Nat} (h0 : ¬ i < 0) (h1 : i < nI n) (hn : n < 2147483648) : ∃ j : Nat, j < n ∧ i = nI j := by
  rcases pk_ix i (n := n) hn with h | h | h
  · exact absurd h h0
  · exact absurd h1 (by rw [Int32.not_lt]; exact h)
  · exact h
section GX
variable {l : Launch} {rm : Room} {K : gX} {V : gV} {cc : ByteArray} {nL : Nat} {own : String} {ret : Option FieldType} {nm : String} {Q : State → Prop} {ad : Nat → Nat} {N cells slots pc : Nat} {lv : List (Nat × Value)} {st : List Value} {E : Nat → va_E}
theorem G_ialdX {k n j : Nat} {f : Nat → Int32} {i : Int32} (hk : gOk l rm K V cc nL own ret nm) (hd : decode cc pc = .ok (.iaload, 1)) (hE : E k = gI V n f) (hi : i = nI j) (hj : j < n) (hn : n < 2147483648) (hN : k < N) (kk : G K V nL Q ad N cells slots (pc + 1) lv (.int (f j) :: st) E) : G K V nL Q ad N cells slots pc lv (.int i :: .ref (ad k) :: st) E := by
  subst hi
  exact G_iald hk hd hE (vp_in_nI hj hn) hN (by rw [nI_clamp (Nat.lt_trans hj hn)]; exact kk)
theorem G_iastX {k n j : Nat} {f : Nat → Int32} {i x : Int32} (hk : gOk l rm K V cc nL own ret nm) (hd : decode cc pc = .ok (.iastore, 1)) (hE : E k = gI V n f) (hi : i = nI j) (hj : j < n) (hn : n < 2147483648) (hN : k < N) (kk : G K V nL Q ad N cells slots (pc + 1) lv st (va_up E k (gI V n (upd f j x)))) : G K V nL Q ad N cells slots pc lv (.int x :: .int i :: .ref (ad k) :: st) E := by
  subst hi
  exact G_iast hk hd hE (vp_in_nI hj hn) hN (by rw [nI_clamp (Nat.lt_trans hj hn)]; exact kk)
theorem G_aaldRlX {k n j a : Nat} {f : Nat → Option Nat} {i : Int32} (hk : gOk l rm K V cc nL own ret nm) (hd : decode cc pc = .ok (.aaload, 1)) (hE : E k = gRl V n f) (hi : i = nI j) (hj : j < n) (hn : n < 2147483648) (hv : f j = some a) (hN : k < N) (kk : G K V nL Q ad N cells slots (pc + 1) lv (.ref a :: st) E) : G K V nL Q ad N cells slots pc lv (.int i :: .ref (ad k) :: st) E := by
  subst hi
  exact G_aaldRl hk hd hE (vp_in_nI hj hn) (by rw [nI_clamp (Nat.lt_trans hj hn)]; exact hv) hN kk
theorem G_aaldRwX {k n j a : Nat} {f : Nat → Option Nat} {i : Int32} (hk : gOk l rm K V cc nL own ret nm) (hd : decode cc pc = .ok (.aaload, 1)) (hE : E k = gRw V n f) (hi : i = nI j) (hj : j < n) (hn : n < 2147483648) (hv : f j = some a) (hN : k < N) (kk : G K V nL Q ad N cells slots (pc + 1) lv (.ref a :: st) E) : G K V nL Q ad N cells slots pc lv (.int i :: .ref (ad k) :: st) E := by
  subst hi
  exact G_aaldRw hk hd hE (vp_in_nI hj hn) (by rw [nI_clamp (Nat.lt_trans hj hn)]; exact hv) hN kk
theorem G_aastRlX {k n j k2 : Nat} {fs : List Value} {f : Nat → Option Nat} {i : Int32} (hk : gOk l rm K V cc nL own ret nm) (hd : decode cc pc = .ok (.aastore, 1)) (hE : E k = gRl V n f) (hi : i = nI j) (hj : j < n) (hn : n < 2147483648) (hN : k < N) (hE2 : E k2 = .inr (3, fs)) (hN2 : k2 < N) (kk : G K V nL Q ad N cells slots (pc + 1) lv st (va_up E k (gRl V n (va_up f j (some (ad k2)))))) : G K V nL Q ad N cells slots pc lv (.ref (ad k2) :: .int i :: .ref (ad k) :: st) E := by
  subst hi
  exact G_aastRl hk hd hE (vp_in_nI hj hn) hN hE2 hN2 (by rw [nI_clamp (Nat.lt_trans hj hn)]; exact kk)
theorem G_aastRwX {k n j k2 : Nat} {fs : List Value} {f : Nat → Option Nat} {i : Int32} (hk : gOk l rm K V cc nL own ret nm) (hd : decode cc pc = .ok (.aastore, 1)) (hE : E k = gRw V n f) (hi : i = nI j) (hj : j < n) (hn : n < 2147483648) (hN : k < N) (hE2 : E k2 = .inr (2, fs)) (hN2 : k2 < N) (kk : G K V nL Q ad N cells slots (pc + 1) lv st (va_up E k (gRw V n (va_up f j (some (ad k2)))))) : G K V nL Q ad N cells slots pc lv (.ref (ad k2) :: .int i :: .ref (ad k) :: st) E := by
  subst hi
  exact G_aastRw hk hd hE (vp_in_nI hj hn) hN hE2 hN2 (by rw [nI_clamp (Nat.lt_trans hj hn)]; exact kk)
/-- a switch by a table: one value of it -/
theorem G_tbl {dflt lo hi : Int} {offs : Array Int} {len : Nat} {x : Int32} {off : Int} {tgt : Nat} (v : Int) (hk : gOk l rm K V cc nL own ret nm) (hd : decode cc pc = .ok (.tableswitch dflt lo hi offs, len)) (hv : x.toInt = v) (h1 : ¬ v < lo) (h2 : ¬ hi < v) (ho : offs[(v - lo).toNat]? = some off) (ht : (pc : Int) + off = (tgt : Int)) (k : G K V nL Q ad N cells slots tgt lv st E) : G K V nL Q ad N cells slots pc lv (.int x :: st) E :=
  G_tableIn hk hd (by rw [hv]; exact h1) (by rw [hv]; exact h2) (by rw [hv]; exact ho) ht k
end GX
theorem iT_0 : (0 : Int32).toInt = 0 := by decide
theorem iT_1 : (1 : Int32).toInt = 1 := by decide
theorem iT_2 : (2 : Int32).toInt = 2 := by decide
theorem iT_3 : (3 : Int32).toInt = 3 := by decide
theorem iT_4 : (4 : Int32).toInt = 4 := by decide
theorem iT_5 : (5 : Int32).toInt = 5 := by decide
theorem iT_6 : (6 : Int32).toInt = 6 := by decide
theorem iT_7 : (7 : Int32).toInt = 7 := by decide
theorem iT_8 : (8 : Int32).toInt = 8 := by decide
theorem iT_9 : (9 : Int32).toInt = 9 := by decide
theorem iT_10 : (10 : Int32).toInt = 10 := by decide
theorem iT_11 : (11 : Int32).toInt = 11 := by decide
theorem iT_12 : (12 : Int32).toInt = 12 := by decide
theorem iT_13 : (13 : Int32).toInt = 13 := by decide
theorem iT_14 : (14 : Int32).toInt = 14 := by decide
theorem iT_15 : (15 : Int32).toInt = 15 := by decide
theorem iT_16 : (16 : Int32).toInt = 16 := by decide
theorem iT_17 : (17 : Int32).toInt = 17 := by decide
theorem iT_18 : (18 : Int32).toInt = 18 := by decide
theorem iT_19 : (19 : Int32).toInt = 19 := by decide
theorem iT_20 : (20 : Int32).toInt = 20 := by decide
theorem iT_21 : (21 : Int32).toInt = 21 := by decide
theorem iT_22 : (22 : Int32).toInt = 22 := by decide
theorem iT_23 : (23 : Int32).toInt = 23 := by decide
theorem iT_24 : (24 : Int32).toInt = 24 := by decide
theorem iT_25 : (25 : Int32).toInt = 25 := by decide
theorem iT_26 : (26 : Int32).toInt = 26 := by decide
theorem iT_27 : (27 : Int32).toInt = 27 := by decide
theorem iT_28 : (28 : Int32).toInt = 28 := by decide
theorem iT_29 : (29 : Int32).toInt = 29 := by decide
theorem iT_30 : (30 : Int32).toInt = 30 := by decide
theorem iT_31 : (31 : Int32).toInt = 31 := by decide
theorem iT_32 : (32 : Int32).toInt = 32 := by decide
theorem iT_33 : (33 : Int32).toInt = 33 := by decide
theorem iT_34 : (34 : Int32).toInt = 34 := by decide
theorem iT_35 : (35 : Int32).toInt = 35 := by decide
theorem iT_36 : (36 : Int32).toInt = 36 := by decide
theorem iT_37 : (37 : Int32).toInt = 37 := by decide
theorem iT_38 : (38 : Int32).toInt = 38 := by decide
theorem iT_39 : (39 : Int32).toInt = 39 := by decide
theorem iT_40 : (40 : Int32).toInt = 40 := by decide
theorem iT_41 : (41 : Int32).toInt = 41 := by decide
theorem iT_42 : (42 : Int32).toInt = 42 := by decide
theorem iT_43 : (43 : Int32).toInt = 43 := by decide
theorem iT_44 : (44 : Int32).toInt = 44 := by decide
theorem iT_45 : (45 : Int32).toInt = 45 := by decide
theorem iT_46 : (46 : Int32).toInt = 46 := by decide
theorem iT_47 : (47 : Int32).toInt = 47 := by decide
theorem iT_48 : (48 : Int32).toInt = 48 := by decide
theorem iT_49 : (49 : Int32).toInt = 49 := by decide
theorem iT_50 : (50 : Int32).toInt = 50 := by decide
theorem iT_51 : (51 : Int32).toInt = 51 := by decide
theorem iT_52 : (52 : Int32).toInt = 52 := by decide
theorem iT_53 : (53 : Int32).toInt = 53 := by decide
theorem iT_54 : (54 : Int32).toInt = 54 := by decide
theorem iT_55 : (55 : Int32).toInt = 55 := by decide
theorem iT_56 : (56 : Int32).toInt = 56 := by decide
theorem iT_57 : (57 : Int32).toInt = 57 := by decide
theorem iT_58 : (58 : Int32).toInt = 58 := by decide
theorem iT_59 : (59 : Int32).toInt = 59 := by decide
theorem iT_60 : (60 : Int32).toInt = 60 := by decide
theorem iT_61 : (61 : Int32).toInt = 61 := by decide
theorem iT_66 : (66 : Int32).toInt = 66 := by decide
theorem iT_68 : (68 : Int32).toInt = 68 := by decide
theorem iT_71 : (71 : Int32).toInt = 71 := by decide
theorem iT_74 : (74 : Int32).toInt = 74 := by decide
theorem iT_80 : (80 : Int32).toInt = 80 := by decide
theorem iT_87 : (87 : Int32).toInt = 87 := by decide
theorem iT_97 : (97 : Int32).toInt = 97 := by decide
theorem iT_100 : (100 : Int32).toInt = 100 := by decide
theorem iT_113 : (113 : Int32).toInt = 113 := by decide
theorem iT_122 : (122 : Int32).toInt = 122 := by decide
theorem iT_200 : (200 : Int32).toInt = 200 := by decide
theorem iT_240 : (240 : Int32).toInt = 240 := by decide
theorem iTm1 : (-1 : Int32).toInt = -1 := by decide
theorem iTm2 : (-2 : Int32).toInt = -2 := by decide
theorem iTm3 : (-3 : Int32).toInt = -3 := by decide
theorem iTm4 : (-4 : Int32).toInt = -4 := by decide
theorem iTm9 : (-9 : Int32).toInt = -9 := by decide
theorem iTm10 : (-10 : Int32).toInt = -10 := by decide
theorem iTm11 : (-11 : Int32).toInt = -11 := by decide
theorem iTm12 : (-12 : Int32).toInt = -12 := by decide
theorem iTm13 : (-13 : Int32).toInt = -13 := by decide
theorem iTm14 : (-14 : Int32).toInt = -14 := by decide
theorem iTm100 : (-100 : Int32).toInt = -100 := by decide
end
section
theorem jw_max : Cond.static Lib.Math.max.name ∈ gT ∧ Cond.initialized "java/lang/Math" ∈ gT ∧ Cond.code Lib.Math.max.name Lib.Math.max.code 2 (some .int) ∈ gT := ⟨gT_at 440 (by decide +kernel) (by decide +kernel), gT_at 53 (by decide +kernel) (by decide +kernel), gT_at 441 (by decide +kernel) (by decide +kernel)⟩
theorem jw_min : Cond.static Lib.Math.min.name ∈ gT ∧ Cond.initialized "java/lang/Math" ∈ gT ∧ Cond.code Lib.Math.min.name Lib.Math.min.code 2 (some .int) ∈ gT := ⟨gT_at 232 (by decide +kernel) (by decide +kernel), gT_at 53 (by decide +kernel) (by decide +kernel), gT_at 233 (by decide +kernel) (by decide +kernel)⟩
theorem jw_copy : Cond.native arraycopyName ∈ gT ∧ Cond.static arraycopyName ∈ gT ∧ Cond.initialized "java/lang/System" ∈ gT := ⟨gT_at 483 (by decide +kernel) (by decide +kernel), gT_at 482 (by decide +kernel) (by decide +kernel), gT_at 54 (by decide +kernel) (by decide +kernel)⟩
theorem jlL_7 : Cond.classLink RL 7 RX5 ∈ gT := gT_at 55 (by decide +kernel) (by decide +kernel)
theorem jiX5 : Cond.instantiable RX5 8 ∈ gT := gT_at 56 (by decide +kernel) (by decide +kernel)
theorem jlX5_9 : Cond.classLink RX5 9 RX1 ∈ gT := gT_at 63 (by decide +kernel) (by decide +kernel)
theorem jiX1 : Cond.instantiable RX1 3 ∈ gT := gT_at 64 (by decide +kernel) (by decide +kernel)
theorem jlX1_9 : Cond.classLink RX1 9 RX3 ∈ gT := gT_at 69 (by decide +kernel) (by decide +kernel)
theorem jlX1_17 : Cond.classLink RX1 17 RX0 ∈ gT := gT_at 71 (by decide +kernel) (by decide +kernel)
theorem jiX0 : Cond.instantiable RX0 3 ∈ gT := gT_at 72 (by decide +kernel) (by decide +kernel)
theorem ja_int : Cond.arrayClass .int ∈ gT := gT_at 90 (by decide +kernel) (by decide +kernel)
theorem jiX3 : Cond.instantiable RX3 5 ∈ gT := gT_at 91 (by decide +kernel) (by decide +kernel)
theorem jlX5_21 : Cond.classLink RX5 21 RX2 ∈ gT := gT_at 141 (by decide +kernel) (by decide +kernel)
theorem jiX2 : Cond.instantiable RX2 3 ∈ gT := gT_at 143 (by decide +kernel) (by decide +kernel)
theorem jkX4_31 : Cond.methodLink RX4 31 Lib.Math.min.name ∈ gT := gT_at 231 (by decide +kernel) (by decide +kernel)
theorem jcX5_186 : Cond.constantLong RX5 186 (-9223372036854775808 : Int64) ∈ gT := gT_at 434 (by decide +kernel) (by decide +kernel)
theorem jkX5_245 : Cond.methodLink RX5 245 Lib.Math.max.name ∈ gT := gT_at 439 (by decide +kernel) (by decide +kernel)
theorem jkX2_22 : Cond.methodLink RX2 22 Lib.Math.min.name ∈ gT := gT_at 450 (by decide +kernel) (by decide +kernel)
theorem jkX2_28 : Cond.methodLink RX2 28 Lib.Math.max.name ∈ gT := gT_at 451 (by decide +kernel) (by decide +kernel)
theorem jkX5_217 : Cond.methodLink RX5 217 arraycopyName ∈ gT := gT_at 481 (by decide +kernel) (by decide +kernel)
theorem jlL_10 : Cond.classLink RL 10 RX6 ∈ gT := gT_at 532 (by decide +kernel) (by decide +kernel)
theorem jiX6 : Cond.instantiable RX6 17 ∈ gT := gT_at 533 (by decide +kernel) (by decide +kernel)
theorem jcX6_41 : Cond.constantLong RX6 41 (-9223372036854775808 : Int64) ∈ gT := gT_at 777 (by decide +kernel) (by decide +kernel)
theorem jcX6_169 : Cond.constantLong RX6 169 (26 : Int64) ∈ gT := gT_at 778 (by decide +kernel) (by decide +kernel)
theorem jnX0 : Cond.initialized RX0 ∈ gT := gT_at 48 (by decide +kernel) (by decide +kernel)
theorem jnX1 : Cond.initialized RX1 ∈ gT := gT_at 47 (by decide +kernel) (by decide +kernel)
theorem jnX2 : Cond.initialized RX2 ∈ gT := gT_at 50 (by decide +kernel) (by decide +kernel)
theorem jnX3 : Cond.initialized RX3 ∈ gT := gT_at 49 (by decide +kernel) (by decide +kernel)
theorem jnX5 : Cond.initialized RX5 ∈ gT := gT_at 46 (by decide +kernel) (by decide +kernel)
theorem jnX6 : Cond.initialized RX6 ∈ gT := gT_at 51 (by decide +kernel) (by decide +kernel)
section GJ
variable {l : Launch} {rm : Room} {K : gX} {V : gV} {cc : ByteArray} {nL : Nat} {own : String} {ret : Option FieldType} {nm : String} {Q : State → Prop} {ad : Nat → Nat} {N cells slots pc : Nat} {lv : List (Nat × Value)} {st : List Value} {E : Nat → va_E}
theorem G_mmax (hk : gOk l rm K V cc nL own ret nm) {idx : Nat} {x y : Int32} (hlk : Cond.methodLink own idx Lib.Math.max.name ∈ gT) (hd : decode cc pc = .ok (.invokestatic idx, 3)) (hw : (st.map fun v => v.category).sum + 13 ≤ rm.locals) (hf : 1 ≤ rm.frames) (hcs : cells ≤ rm.cells ∧ slots ≤ rm.slots) (kk : G K V nL Q ad N cells slots (pc + 3) lv (.int (if x < y then y else x) :: st) E) : G K V nL Q ad N cells slots pc lv (.int y :: .int x :: st) E := by
  obtain ⟨rfl, rfl, hx, hb, hml, hown, hts, hr, hnm, hlk2, hK, hbs, hns⟩ := hk
  intro H locs ls hP hz hS hl
  exact va_mmax hx hb (hml.trans hl.1.symm) hown (hts _ hlk) (hts _ jw_max.1) (hts _ jw_max.2.1) (hts _ jw_max.2.2) hf hw hcs.1 hcs.2 hd (kk H locs ls hP hz hS hl)
theorem G_mmin (hk : gOk l rm K V cc nL own ret nm) {idx : Nat} {x y : Int32} (hlk : Cond.methodLink own idx Lib.Math.min.name ∈ gT) (hd : decode cc pc = .ok (.invokestatic idx, 3)) (hw : (st.map fun v => v.category).sum + 13 ≤ rm.locals) (hf : 1 ≤ rm.frames) (hcs : cells ≤ rm.cells ∧ slots ≤ rm.slots) (kk : G K V nL Q ad N cells slots (pc + 3) lv (.int (if y < x then y else x) :: st) E) : G K V nL Q ad N cells slots pc lv (.int y :: .int x :: st) E := by
  obtain ⟨rfl, rfl, hx, hb, hml, hown, hts, hr, hnm, hlk2, hK, hbs, hns⟩ := hk
  intro H locs ls hP hz hS hl
  exact va_mmin hx hb (hml.trans hl.1.symm) hown (hts _ hlk) (hts _ jw_min.1) (hts _ jw_min.2.1) (hts _ jw_min.2.2) hf hw hcs.1 hcs.2 hd (kk H locs ls hP hz hS hl)
theorem G_copyi (hk : gOk l rm K V cc nL own ret nm) {idx k0 k1 n0 n1 : Nat} {f g : Nat → Int32} {sp dp n : Int32} (hlk : Cond.methodLink own idx arraycopyName ∈ gT) (hd : decode cc pc = .ok (.invokestatic idx, 3)) (hE0 : E k0 = gI V n0 f) (hE1 : E k1 = gI V n1 g) (h1 : ¬ sp < 0) (h2 : ¬ dp < 0) (h3 : ¬ n < 0) (h4 : sp.toNatClampNeg + n.toNatClampNeg ≤ n0) (h5 : dp.toNatClampNeg + n.toNatClampNeg ≤ n1) (hN0 : k0 < N) (hN1 : k1 < N) (hw : (st.map fun v => v.category).sum + (nativeFrameWords "java/lang/System" "arraycopy" 5 + 11) ≤ rm.locals) (hf : 1 ≤ rm.frames) (kk : G K V nL Q ad N cells slots (pc + 3) lv st (va_up E k1 (gI V n1 (va_cpy f g sp.toNatClampNeg dp.toNatClampNeg n.toNatClampNeg)))) : G K V nL Q ad N cells slots pc lv (.int n :: .int dp :: .ref (ad k1) :: .int sp :: .ref (ad k0) :: st) E := by
  obtain ⟨rfl, rfl, hx, hb, hml, hown, hts, hr, hnm, hlk2, hK, hbs, hns⟩ := hk
  intro H locs ls hP hz hS hl
  refine va_copyi hx hb (hml.trans hl.1.symm) hown (hts _ hlk) (hts _ jw_copy.1) (hts _ jw_copy.2.1) (hts _ jw_copy.2.2) hK hP hz hS k0 k1 0 0 (ty := .int) (by rw [gwd_get hN0, hE0]) (by rw [gwd_get hN1, hE1]) rfl rfl rfl h1 h2 h3 h4 h5 (fun i _ => rfl) hf hw hd (fun H1 locs1 hP1 hD1 hS1 => ?_)
  rw [gwd_set hN1] at hP1 hD1
  exact kk H1 locs1 ls hP1 hD1 hS1 hl
end GJ
end
section
/-! RULE cells -/
abbrev rC (r : Nat → Int32) : va_E := .inr (3, [.int (r 0), .int (r 1), .int (r 2), .int (r 3), .int (r 4)])
abbrev sHas (r : Nat → Int32) (x : Int32) : Prop := r 3 ≤ x ∧ x ≤ r 4
/-- WORTH of a rule -/
def sWr (r : Nat → Int32) : Int32 := if r 0 = 1 then r 2 + 1 else if r 0 = 2 then 2 * r 2 else r 2

-- Rule.hasPoint
set_option maxHeartbeats 4000000 in
set_option maxRecDepth 100000 in
theorem c_X3_hasPoint (l : Launch) (V : gV) (ad : Nat → Nat) (E : Nat → va_E) (k : Nat) (hk0 : k < 44) (r : Nat → Int32) (x : Int32) (hE : E k = rC r) : Ct l V ad 44 44 yX3_hasPoint cX3_hasPoint 2 (some .boolean) { frames := 0, cells := 0, slots := 0, locals := 0 } [.ref (ad k), .int x] E (pI ad (pS E (gB (r 3 ≤ x ∧ x ≤ r 4)))) := by
  refine gCt mX3_hasPoint (Nat.le_of_ble_eq_true rfl) ?_
  intro K hk
  refine G_iload_n (i := 1) hk dX3_hasPoint_0 rfl rfl ?_
  refine G_aload_n (i := 0) hk dX3_hasPoint_1 rfl rfl ?_
  refine G_get hk fX3_21 dX3_hasPoint_2 (by assumption) (by rfl) (by first | decide | omega) ?_
  refine G_icmp_lt (tgt := 20) hk dX3_hasPoint_5 (by decide) (fun c_5 => ?_) (fun c_5 => ?_)
  · try simp only [gB_ne, gB_eq, Decidable.not_not] at c_5
    refine G_iconst (v := 0) hk dX3_hasPoint_20 (by decide) ?_
    refine G_zret hk dX3_hasPoint_21 (by first | rfl | exact gB_nar _) ?_
    exact ⟨rfl, by first | (simp [gB, *]; done) | exact (gB_t (by (simp only [fa_lt, fa_le, fa_eq, iT_0, iT_1, iT_2, iT_3, iT_4, iT_5, iT_6, iT_7, iT_9, iT_10, iT_20, iT_25, iT_26, iTm1, iTm2, iTm3, iTm4, iTm9] at *; omega))).symm | exact (gB_f (by (simp only [fa_lt, fa_le, fa_eq, iT_0, iT_1, iT_2, iT_3, iT_4, iT_5, iT_6, iT_7, iT_9, iT_10, iT_20, iT_25, iT_26, iTm1, iTm2, iTm3, iTm4, iTm9] at *; omega))).symm⟩
  · try simp only [gB_ne, gB_eq, Decidable.not_not] at c_5
    refine G_iload_n (i := 1) hk dX3_hasPoint_8 rfl rfl ?_
    refine G_aload_n (i := 0) hk dX3_hasPoint_9 rfl rfl ?_
    refine G_get hk fX3_24 dX3_hasPoint_10 (by assumption) (by rfl) (by first | decide | omega) ?_
    refine G_icmp_gt (tgt := 20) hk dX3_hasPoint_13 (by decide) (fun c_13 => ?_) (fun c_13 => ?_)
    · try simp only [gB_ne, gB_eq, Decidable.not_not] at c_13
      refine G_iconst (v := 0) hk dX3_hasPoint_20 (by decide) ?_
      refine G_zret hk dX3_hasPoint_21 (by first | rfl | exact gB_nar _) ?_
      exact ⟨rfl, by first | (simp [gB, *]; done) | exact (gB_t (by (simp only [fa_lt, fa_le, fa_eq, iT_0, iT_1, iT_2, iT_3, iT_4, iT_5, iT_6, iT_7, iT_9, iT_10, iT_20, iT_25, iT_26, iTm1, iTm2, iTm3, iTm4, iTm9] at *; omega))).symm | exact (gB_f (by (simp only [fa_lt, fa_le, fa_eq, iT_0, iT_1, iT_2, iT_3, iT_4, iT_5, iT_6, iT_7, iT_9, iT_10, iT_20, iT_25, iT_26, iTm1, iTm2, iTm3, iTm4, iTm9] at *; omega))).symm⟩
    · try simp only [gB_ne, gB_eq, Decidable.not_not] at c_13
      refine G_iconst (v := 1) hk dX3_hasPoint_16 (by decide) ?_
      refine G_goto (tgt := 21) hk dX3_hasPoint_17 (by decide) ?_
      refine G_zret hk dX3_hasPoint_21 (by first | rfl | exact gB_nar _) ?_
      exact ⟨rfl, by first | (simp [gB, *]; done) | exact (gB_t (by (simp only [fa_lt, fa_le, fa_eq, iT_0, iT_1, iT_2, iT_3, iT_4, iT_5, iT_6, iT_7, iT_9, iT_10, iT_20, iT_25, iT_26, iTm1, iTm2, iTm3, iTm4, iTm9] at *; omega))).symm | exact (gB_f (by (simp only [fa_lt, fa_le, fa_eq, iT_0, iT_1, iT_2, iT_3, iT_4, iT_5, iT_6, iT_7, iT_9, iT_10, iT_20, iT_25, iT_26, iTm1, iTm2, iTm3, iTm4, iTm9] at *; omega))).symm⟩

-- Rule.ownWorth
set_option maxHeartbeats 4000000 in
set_option maxRecDepth 100000 in
theorem c_X3_ownWorth (l : Launch) (V : gV) (ad : Nat → Nat) (E : Nat → va_E) (k : Nat) (hk0 : k < 44) (r : Nat → Int32) (hE : E k = rC r) : Ct l V ad 44 44 yX3_ownWorth cX3_ownWorth 1 (some .int) { frames := 0, cells := 0, slots := 0, locals := 0 } [.ref (ad k)] E (pI ad (pS E (sWr r))) := by
  refine gCt mX3_ownWorth (Nat.le_of_ble_eq_true rfl) ?_
  intro K hk
  refine G_aload_n (i := 0) hk dX3_ownWorth_0 rfl rfl ?_
  refine G_get hk fX3_15 dX3_ownWorth_1 (by assumption) (by rfl) (by first | decide | omega) ?_
  refine G_iconst (v := 1) hk dX3_ownWorth_4 (by decide) ?_
  refine G_icmp_ne (tgt := 15) hk dX3_ownWorth_5 (by decide) (fun c_5 => ?_) (fun c_5 => ?_)
  · try simp only [gB_ne, gB_eq, Decidable.not_not] at c_5
    refine G_aload_n (i := 0) hk dX3_ownWorth_15 rfl rfl ?_
    refine G_get hk fX3_15 dX3_ownWorth_16 (by assumption) (by rfl) (by first | decide | omega) ?_
    refine G_iconst (v := 2) hk dX3_ownWorth_19 (by decide) ?_
    refine G_icmp_ne (tgt := 32) hk dX3_ownWorth_20 (by decide) (fun c_20 => ?_) (fun c_20 => ?_)
    · try simp only [gB_ne, gB_eq, Decidable.not_not] at c_20
      refine G_aload_n (i := 0) hk dX3_ownWorth_32 rfl rfl ?_
      refine G_get hk fX3_9 dX3_ownWorth_33 (by assumption) (by rfl) (by first | decide | omega) ?_
      refine G_iret hk dX3_ownWorth_36 ?_
      exact ⟨rfl, by simp [sWr, *]⟩
    · try simp only [gB_ne, gB_eq, Decidable.not_not] at c_20
      refine G_iconst (v := 2) hk dX3_ownWorth_23 (by decide) ?_
      refine G_aload_n (i := 0) hk dX3_ownWorth_24 rfl rfl ?_
      refine G_get hk fX3_9 dX3_ownWorth_25 (by assumption) (by rfl) (by first | decide | omega) ?_
      refine G_imul hk dX3_ownWorth_28 ?_
      refine G_goto (tgt := 36) hk dX3_ownWorth_29 (by decide) ?_
      refine G_iret hk dX3_ownWorth_36 ?_
      exact ⟨rfl, by simp [sWr, *]⟩
  · try simp only [gB_ne, gB_eq, Decidable.not_not] at c_5
    refine G_aload_n (i := 0) hk dX3_ownWorth_8 rfl rfl ?_
    refine G_get hk fX3_9 dX3_ownWorth_9 (by assumption) (by rfl) (by first | decide | omega) ?_
    refine G_iconst (v := 1) hk dX3_ownWorth_12 (by decide) ?_
    refine G_iadd hk dX3_ownWorth_13 ?_
    refine G_iret hk dX3_ownWorth_14 ?_
    exact ⟨rfl, by simp [sWr, *]⟩

-- Rule.become
set_option maxHeartbeats 4000000 in
set_option maxRecDepth 100000 in
theorem c_X3_become (l : Launch) (V : gV) (ad : Nat → Nat) (E : Nat → va_E) (k : Nat) (hk0 : k < 44) (r : Nat → Int32) (a b c d f : Int32) (hE : E k = rC r) : Ct l V ad 44 44 yX3_become cX3_become 6 none { frames := 0, cells := 0, slots := 0, locals := 0 } [.ref (ad k), .int a, .int b, .int c, .int d, .int f] E (pV ad (fun E2 => E2 = va_up E k (.inr (3, [.int a, .int b, .int c, .int d, .int f])))) := by
  refine gCt mX3_become (Nat.le_of_ble_eq_true rfl) ?_
  intro K hk
  refine G_aload_n (i := 0) hk dX3_become_0 rfl rfl ?_
  refine G_iload_n (i := 1) hk dX3_become_1 rfl rfl ?_
  refine G_put hk fX3_15 iX3_0 dX3_become_2 (by first | assumption | exact va_up_self _ _ _) (Nat.le_of_ble_eq_true rfl) (by first | decide | omega) ?_
  refine G_aload_n (i := 0) hk dX3_become_5 rfl rfl ?_
  refine G_iload_n (i := 2) hk dX3_become_6 rfl rfl ?_
  refine G_put hk fX3_18 iX3_1 dX3_become_7 (by first | assumption | exact va_up_self _ _ _) (Nat.le_of_ble_eq_true rfl) (by first | decide | omega) ?_
  refine G_aload_n (i := 0) hk dX3_become_10 rfl rfl ?_
  refine G_iload_n (i := 3) hk dX3_become_11 rfl rfl ?_
  refine G_put hk fX3_9 iX3_2 dX3_become_12 (by first | assumption | exact va_up_self _ _ _) (Nat.le_of_ble_eq_true rfl) (by first | decide | omega) ?_
  refine G_aload_n (i := 0) hk dX3_become_15 rfl rfl ?_
  refine G_iload hk dX3_become_16 rfl ?_
  refine G_put hk fX3_21 iX3_3 dX3_become_18 (by first | assumption | exact va_up_self _ _ _) (Nat.le_of_ble_eq_true rfl) (by first | decide | omega) ?_
  refine G_aload_n (i := 0) hk dX3_become_21 rfl rfl ?_
  refine G_iload hk dX3_become_22 rfl ?_
  refine G_put hk fX3_24 iX3_4 dX3_become_24 (by first | assumption | exact va_up_self _ _ _) (Nat.le_of_ble_eq_true rfl) (by first | decide | omega) ?_
  refine G_vret hk dX3_become_27 ?_
  simp only [va_up_up, List.set]

/-! ROW cells: the object at p, its array at p + 1 -/
abbrev wC (ad : Nat → Nat) (p : Nat) (la sz : Int32) : va_E := .inr (2, [.ref (ad (p + 1)), .int la, .int sz])

-- Row.isNothing
set_option maxHeartbeats 4000000 in
set_option maxRecDepth 100000 in
theorem c_X2_isNothing (l : Launch) (V : gV) (ad : Nat → Nat) (E : Nat → va_E) (p : Nat) (hp : p + 1 < 44) (la sz : Int32) (hE : E p = wC ad p la sz) : Ct l V ad 44 44 yX2_isNothing cX2_isNothing 1 (some .boolean) { frames := 0, cells := 0, slots := 0, locals := 0 } [.ref (ad p)] E (pI ad (pS E (gB (la = -1)))) := by
  refine gCt mX2_isNothing (Nat.le_of_ble_eq_true rfl) ?_
  intro K hk
  refine G_aload_n (i := 0) hk dX2_isNothing_0 rfl rfl ?_
  refine G_get hk fX2_15 dX2_isNothing_1 (by assumption) (by rfl) (by first | decide | omega) ?_
  refine G_iconst (v := (-1)) hk dX2_isNothing_4 (by decide) ?_
  refine G_icmp_ne (tgt := 12) hk dX2_isNothing_5 (by decide) (fun c_5 => ?_) (fun c_5 => ?_)
  · try simp only [gB_ne, gB_eq, Decidable.not_not] at c_5
    refine G_iconst (v := 0) hk dX2_isNothing_12 (by decide) ?_
    refine G_zret hk dX2_isNothing_13 (by first | rfl | exact gB_nar _) ?_
    exact ⟨rfl, by first | (simp [gB, *]; done) | exact (gB_t (by (simp only [fa_lt, fa_le, fa_eq, iT_0, iT_1, iT_2, iT_3, iT_4, iT_5, iT_6, iT_7, iT_9, iT_10, iT_20, iT_25, iT_26, iTm1, iTm2, iTm3, iTm4, iTm9] at *; omega))).symm | exact (gB_f (by (simp only [fa_lt, fa_le, fa_eq, iT_0, iT_1, iT_2, iT_3, iT_4, iT_5, iT_6, iT_7, iT_9, iT_10, iT_20, iT_25, iT_26, iTm1, iTm2, iTm3, iTm4, iTm9] at *; omega))).symm⟩
  · try simp only [gB_ne, gB_eq, Decidable.not_not] at c_5
    refine G_iconst (v := 1) hk dX2_isNothing_8 (by decide) ?_
    refine G_goto (tgt := 13) hk dX2_isNothing_9 (by decide) ?_
    refine G_zret hk dX2_isNothing_13 (by first | rfl | exact gB_nar _) ?_
    exact ⟨rfl, by first | (simp [gB, *]; done) | exact (gB_t (by (simp only [fa_lt, fa_le, fa_eq, iT_0, iT_1, iT_2, iT_3, iT_4, iT_5, iT_6, iT_7, iT_9, iT_10, iT_20, iT_25, iT_26, iTm1, iTm2, iTm3, iTm4, iTm9] at *; omega))).symm | exact (gB_f (by (simp only [fa_lt, fa_le, fa_eq, iT_0, iT_1, iT_2, iT_3, iT_4, iT_5, iT_6, iT_7, iT_9, iT_10, iT_20, iT_25, iT_26, iTm1, iTm2, iTm3, iTm4, iTm9] at *; omega))).symm⟩

-- Row.becomeNothing
set_option maxHeartbeats 4000000 in
set_option maxRecDepth 100000 in
theorem c_X2_becomeNothing (l : Launch) (V : gV) (ad : Nat → Nat) (E : Nat → va_E) (p : Nat) (hp : p + 1 < 44) (la sz : Int32) (hE : E p = wC ad p la sz) : Ct l V ad 44 44 yX2_becomeNothing cX2_becomeNothing 1 none { frames := 0, cells := 0, slots := 0, locals := 0 } [.ref (ad p)] E (pV ad (fun E2 => E2 = va_up E p (wC ad p (-1) 0))) := by
  refine gCt mX2_becomeNothing (Nat.le_of_ble_eq_true rfl) ?_
  intro K hk
  refine G_aload_n (i := 0) hk dX2_becomeNothing_0 rfl rfl ?_
  refine G_iconst (v := (-1)) hk dX2_becomeNothing_1 (by decide) ?_
  refine G_put hk fX2_15 iX2_1 dX2_becomeNothing_2 (by first | assumption | exact va_up_self _ _ _) (Nat.le_of_ble_eq_true rfl) (by first | decide | omega) ?_
  refine G_aload_n (i := 0) hk dX2_becomeNothing_5 rfl rfl ?_
  refine G_iconst (v := 0) hk dX2_becomeNothing_6 (by decide) ?_
  refine G_put hk fX2_19 iX2_2 dX2_becomeNothing_7 (by first | assumption | exact va_up_self _ _ _) (Nat.le_of_ble_eq_true rfl) (by first | decide | omega) ?_
  refine G_vret hk dX2_becomeNothing_10 ?_
  simp only [va_up_up, List.set]

-- Row.faultAs
set_option maxHeartbeats 4000000 in
set_option maxRecDepth 100000 in
theorem c_X2_faultAs (l : Launch) (V : gV) (ad : Nat → Nat) (E : Nat → va_E) (p : Nat) (hp : p + 1 < 44) (la sz : Int32) (a : Int32) (hE : E p = wC ad p la sz) : Ct l V ad 44 44 yX2_faultAs cX2_faultAs 2 (some .int) { frames := 1, cells := 0, slots := 0, locals := 20 } [.ref (ad p), .int a] E (pI ad (pS E (if la = -1 then 1 else if la = a then 0 else 2))) := by
  refine gCt mX2_faultAs (Nat.le_of_ble_eq_true rfl) ?_
  intro K hk
  refine G_aload_n (i := 0) hk dX2_faultAs_0 rfl rfl ?_
  refine G_cVi hk (c_X2_isNothing l V ad E p hp la sz hE) mX2_isNothing vX2_isNothing kX2_31 dX2_faultAs_1 (by assumption) (by rfl) (by first | decide | omega) rfl (by decide) (by decide) rfl (Nat.le_of_ble_eq_true rfl) (fun r_1 E_1 h_1 => ?_)
  obtain ⟨rfl, rfl⟩ := h_1
  refine G_if_eq (tgt := 9) hk dX2_faultAs_4 (by decide) (fun c_4 => ?_) (fun c_4 => ?_)
  · try simp only [gB_ne, gB_eq, Decidable.not_not] at c_4
    refine G_aload_n (i := 0) hk dX2_faultAs_9 rfl rfl ?_
    refine G_get hk fX2_15 dX2_faultAs_10 (by assumption) (by rfl) (by first | decide | omega) ?_
    refine G_iload_n (i := 1) hk dX2_faultAs_13 rfl rfl ?_
    refine G_icmp_ne (tgt := 21) hk dX2_faultAs_14 (by decide) (fun c_14 => ?_) (fun c_14 => ?_)
    · try simp only [gB_ne, gB_eq, Decidable.not_not] at c_14
      refine G_iconst (v := 2) hk dX2_faultAs_21 (by decide) ?_
      refine G_iret hk dX2_faultAs_22 ?_
      exact ⟨rfl, by (try first | rw [if_pos c_4] | rw [if_neg c_4]); (try first | rw [if_pos c_14] | rw [if_neg c_14])⟩
    · try simp only [gB_ne, gB_eq, Decidable.not_not] at c_14
      refine G_iconst (v := 0) hk dX2_faultAs_17 (by decide) ?_
      refine G_goto (tgt := 22) hk dX2_faultAs_18 (by decide) ?_
      refine G_iret hk dX2_faultAs_22 ?_
      exact ⟨rfl, by (try first | rw [if_pos c_4] | rw [if_neg c_4]); (try first | rw [if_pos c_14] | rw [if_neg c_14])⟩
  · try simp only [gB_ne, gB_eq, Decidable.not_not] at c_4
    refine G_iconst (v := 1) hk dX2_faultAs_7 (by decide) ?_
    refine G_iret hk dX2_faultAs_8 ?_
    exact ⟨rfl, by (try first | rw [if_pos c_4] | rw [if_neg c_4])⟩

-- Row.hasCells
set_option maxHeartbeats 4000000 in
set_option maxRecDepth 100000 in
theorem c_X2_hasCells (l : Launch) (V : gV) (ad : Nat → Nat) (E : Nat → va_E) (p : Nat) (hp : p + 1 < 44) (la sz : Int32) (a b : Int32) (hE : E p = wC ad p la sz) : Ct l V ad 44 44 yX2_hasCells cX2_hasCells 3 (some .boolean) { frames := 0, cells := 0, slots := 0, locals := 0 } [.ref (ad p), .int a, .int b] E (pI ad (pS E (gB (0 ≤ a ∧ a ≤ sz ∧ 0 ≤ b ∧ b ≤ sz - a)))) := by
  refine gCt mX2_hasCells (Nat.le_of_ble_eq_true rfl) ?_
  intro K hk
  refine G_iload_n (i := 1) hk dX2_hasCells_0 rfl rfl ?_
  refine G_if_lt (tgt := 30) hk dX2_hasCells_1 (by decide) (fun c_1 => ?_) (fun c_1 => ?_)
  · try simp only [gB_ne, gB_eq, Decidable.not_not] at c_1
    refine G_iconst (v := 0) hk dX2_hasCells_30 (by decide) ?_
    refine G_zret hk dX2_hasCells_31 (by first | rfl | exact gB_nar _) ?_
    exact ⟨rfl, by first | (simp [gB, *]; done) | exact (gB_t (by (simp only [fa_lt, fa_le, fa_eq, iT_0, iT_1, iT_2, iT_3, iT_4, iT_5, iT_6, iT_7, iT_9, iT_10, iT_20, iT_25, iT_26, iTm1, iTm2, iTm3, iTm4, iTm9] at *; omega))).symm | exact (gB_f (by (simp only [fa_lt, fa_le, fa_eq, iT_0, iT_1, iT_2, iT_3, iT_4, iT_5, iT_6, iT_7, iT_9, iT_10, iT_20, iT_25, iT_26, iTm1, iTm2, iTm3, iTm4, iTm9] at *; omega))).symm⟩
  · try simp only [gB_ne, gB_eq, Decidable.not_not] at c_1
    refine G_iload_n (i := 1) hk dX2_hasCells_4 rfl rfl ?_
    refine G_aload_n (i := 0) hk dX2_hasCells_5 rfl rfl ?_
    refine G_get hk fX2_19 dX2_hasCells_6 (by assumption) (by rfl) (by first | decide | omega) ?_
    refine G_icmp_gt (tgt := 30) hk dX2_hasCells_9 (by decide) (fun c_9 => ?_) (fun c_9 => ?_)
    · try simp only [gB_ne, gB_eq, Decidable.not_not] at c_9
      refine G_iconst (v := 0) hk dX2_hasCells_30 (by decide) ?_
      refine G_zret hk dX2_hasCells_31 (by first | rfl | exact gB_nar _) ?_
      exact ⟨rfl, by first | (simp [gB, *]; done) | exact (gB_t (by (simp only [fa_lt, fa_le, fa_eq, iT_0, iT_1, iT_2, iT_3, iT_4, iT_5, iT_6, iT_7, iT_9, iT_10, iT_20, iT_25, iT_26, iTm1, iTm2, iTm3, iTm4, iTm9] at *; omega))).symm | exact (gB_f (by (simp only [fa_lt, fa_le, fa_eq, iT_0, iT_1, iT_2, iT_3, iT_4, iT_5, iT_6, iT_7, iT_9, iT_10, iT_20, iT_25, iT_26, iTm1, iTm2, iTm3, iTm4, iTm9] at *; omega))).symm⟩
    · try simp only [gB_ne, gB_eq, Decidable.not_not] at c_9
      refine G_iload_n (i := 2) hk dX2_hasCells_12 rfl rfl ?_
      refine G_if_lt (tgt := 30) hk dX2_hasCells_13 (by decide) (fun c_13 => ?_) (fun c_13 => ?_)
      · try simp only [gB_ne, gB_eq, Decidable.not_not] at c_13
        refine G_iconst (v := 0) hk dX2_hasCells_30 (by decide) ?_
        refine G_zret hk dX2_hasCells_31 (by first | rfl | exact gB_nar _) ?_
        exact ⟨rfl, by first | (simp [gB, *]; done) | exact (gB_t (by (simp only [fa_lt, fa_le, fa_eq, iT_0, iT_1, iT_2, iT_3, iT_4, iT_5, iT_6, iT_7, iT_9, iT_10, iT_20, iT_25, iT_26, iTm1, iTm2, iTm3, iTm4, iTm9] at *; omega))).symm | exact (gB_f (by (simp only [fa_lt, fa_le, fa_eq, iT_0, iT_1, iT_2, iT_3, iT_4, iT_5, iT_6, iT_7, iT_9, iT_10, iT_20, iT_25, iT_26, iTm1, iTm2, iTm3, iTm4, iTm9] at *; omega))).symm⟩
      · try simp only [gB_ne, gB_eq, Decidable.not_not] at c_13
        refine G_iload_n (i := 2) hk dX2_hasCells_16 rfl rfl ?_
        refine G_aload_n (i := 0) hk dX2_hasCells_17 rfl rfl ?_
        refine G_get hk fX2_19 dX2_hasCells_18 (by assumption) (by rfl) (by first | decide | omega) ?_
        refine G_iload_n (i := 1) hk dX2_hasCells_21 rfl rfl ?_
        refine G_isub hk dX2_hasCells_22 ?_
        refine G_icmp_gt (tgt := 30) hk dX2_hasCells_23 (by decide) (fun c_23 => ?_) (fun c_23 => ?_)
        · try simp only [gB_ne, gB_eq, Decidable.not_not] at c_23
          refine G_iconst (v := 0) hk dX2_hasCells_30 (by decide) ?_
          refine G_zret hk dX2_hasCells_31 (by first | rfl | exact gB_nar _) ?_
          exact ⟨rfl, by first | (simp [gB, *]; done) | exact (gB_t (by (simp only [fa_lt, fa_le, fa_eq, iT_0, iT_1, iT_2, iT_3, iT_4, iT_5, iT_6, iT_7, iT_9, iT_10, iT_20, iT_25, iT_26, iTm1, iTm2, iTm3, iTm4, iTm9] at *; omega))).symm | exact (gB_f (by (simp only [fa_lt, fa_le, fa_eq, iT_0, iT_1, iT_2, iT_3, iT_4, iT_5, iT_6, iT_7, iT_9, iT_10, iT_20, iT_25, iT_26, iTm1, iTm2, iTm3, iTm4, iTm9] at *; omega))).symm⟩
        · try simp only [gB_ne, gB_eq, Decidable.not_not] at c_23
          refine G_iconst (v := 1) hk dX2_hasCells_26 (by decide) ?_
          refine G_goto (tgt := 31) hk dX2_hasCells_27 (by decide) ?_
          refine G_zret hk dX2_hasCells_31 (by first | rfl | exact gB_nar _) ?_
          exact ⟨rfl, by first | (simp [gB, *]; done) | exact (gB_t (by (simp only [fa_lt, fa_le, fa_eq, iT_0, iT_1, iT_2, iT_3, iT_4, iT_5, iT_6, iT_7, iT_9, iT_10, iT_20, iT_25, iT_26, iTm1, iTm2, iTm3, iTm4, iTm9] at *; omega))).symm | exact (gB_f (by (simp only [fa_lt, fa_le, fa_eq, iT_0, iT_1, iT_2, iT_3, iT_4, iT_5, iT_6, iT_7, iT_9, iT_10, iT_20, iT_25, iT_26, iTm1, iTm2, iTm3, iTm4, iTm9] at *; omega))).symm⟩

-- Row.cut
set_option maxHeartbeats 4000000 in
set_option maxRecDepth 100000 in
theorem c_X2_cut (l : Launch) (V : gV) (ad : Nat → Nat) (E : Nat → va_E) (p : Nat) (hp : p + 1 < 44) (la sz : Int32) (v : Int32) (hE : E p = wC ad p la sz) : Ct l V ad 44 44 yX2_cut cX2_cut 2 (some .int) { frames := 0, cells := 0, slots := 0, locals := 0 } [.ref (ad p), .int v] E (pI ad (pS E (if la = 0 then v.toInt8.toInt32 else if la = 1 then v.toInt16.toInt32 else v))) := by
  refine gCt mX2_cut (Nat.le_of_ble_eq_true rfl) ?_
  intro K hk
  refine G_aload_n (i := 0) hk dX2_cut_0 rfl rfl ?_
  refine G_get hk fX2_15 dX2_cut_1 (by assumption) (by rfl) (by first | decide | omega) ?_
  refine G_if_ne (tgt := 10) hk dX2_cut_4 (by decide) (fun c_4 => ?_) (fun c_4 => ?_)
  · try simp only [gB_ne, gB_eq, Decidable.not_not] at c_4
    refine G_aload_n (i := 0) hk dX2_cut_10 rfl rfl ?_
    refine G_get hk fX2_15 dX2_cut_11 (by assumption) (by rfl) (by first | decide | omega) ?_
    refine G_iconst (v := 1) hk dX2_cut_14 (by decide) ?_
    refine G_icmp_ne (tgt := 21) hk dX2_cut_15 (by decide) (fun c_15 => ?_) (fun c_15 => ?_)
    · try simp only [gB_ne, gB_eq, Decidable.not_not] at c_15
      refine G_iload_n (i := 1) hk dX2_cut_21 rfl rfl ?_
      refine G_iret hk dX2_cut_22 ?_
      exact ⟨rfl, by simp [*]⟩
    · try simp only [gB_ne, gB_eq, Decidable.not_not] at c_15
      refine G_iload_n (i := 1) hk dX2_cut_18 rfl rfl ?_
      refine G_i2s hk dX2_cut_19 ?_
      refine G_iret hk dX2_cut_20 ?_
      exact ⟨rfl, by simp [*]⟩
  · try simp only [gB_ne, gB_eq, Decidable.not_not] at c_4
    refine G_iload_n (i := 1) hk dX2_cut_7 rfl rfl ?_
    refine G_i2b hk dX2_cut_8 ?_
    refine G_iret hk dX2_cut_9 ?_
    exact ⟨rfl, by simp [*]⟩
end
section
/-! what is asked, as functions: rules R i j (rule i's number j: kind, deed, number, low, high), n of them -/
theorem nle {a b : Nat} (ha : a < 100000) (hb : b < 100000) : nI a ≤ nI b ↔ a ≤ b := nI_leI (by omega) (by omega)
theorem nlt {a b : Nat} (ha : a < 100000) (hb : b < 100000) : nI a < nI b ↔ a < b := nI_ltI (by omega) (by omega)
theorem neq {a b : Nat} (ha : a < 100000) (hb : b < 100000) : nI a = nI b ↔ a = b := nI_eq (by omega) (by omega)
theorem nI_inc (a : Nat) : nI a + Int32.ofInt 1 = nI (a + 1) := nI_1 a
theorem nI_dec (a : Nat) : nI (a + 1) + Int32.ofInt (-1) = nI a := pk_m1 a
theorem nI_i1 (a : Nat) : nI a + 1 = nI (a + 1) := nI_1 a
/-- the first rule from r on, that isn't w, and has x; n: none -/
def sF (R : Nat → Nat → Int32) (w : Nat) (x : Int32) : Nat → Nat → Nat
  | 0, r => r
  | k + 1, r => if r ≠ w ∧ sHas (R r) x then r else sF R w x k (r + 1)
def sFn (R : Nat → Nat → Int32) (w : Nat) (x : Int32) (n r : Nat) : Nat := sF R w x (n - r) r
theorem sFn_end {R : Nat → Nat → Int32} {w : Nat} {x : Int32} {n r : Nat} (h : n ≤ r) : sFn R w x n r = r := by
  unfold sFn
  rw [Nat.sub_eq_zero_of_le h]
  rfl
theorem sFn_hit {R : Nat → Nat → Int32} {w : Nat} {x : Int32} {n r : Nat} (h : r < n) (hw : r ≠ w) (hx : sHas (R r) x) : sFn R w x n r = r := by
  unfold sFn
  rw [show n - r = (n - (r + 1)) + 1 by omega]
  exact if_pos ⟨hw, hx⟩
theorem sFn_miss {R : Nat → Nat → Int32} {w : Nat} {x : Int32} {n r : Nat} (h : r < n) (hx : ¬ (r ≠ w ∧ sHas (R r) x)) : sFn R w x n r = sFn R w x n (r + 1) := by
  unfold sFn
  rw [show n - r = (n - (r + 1)) + 1 by omega]
  exact if_neg hx
theorem sF_le (R : Nat → Nat → Int32) (w : Nat) (x : Int32) : ∀ k r, r ≤ sF R w x k r ∧ sF R w x k r ≤ r + k
  | 0, r => ⟨Nat.le_refl _, Nat.le_refl _⟩
  | k + 1, r => by
    simp only [sF]
    split
    · omega
    · have := sF_le R w x k (r + 1)
      omega
theorem sFn_le {R : Nat → Nat → Int32} {w : Nat} {x : Int32} {n r : Nat} (h : r ≤ n) : r ≤ sFn R w x n r ∧ sFn R w x n r ≤ n := by
  have := sF_le R w x (n - r) r
  unfold sFn
  omega
/-- WINNER -/
def sW (R : Nat → Nat → Int32) (n : Nat) (x : Int32) : Int32 := if sFn R 99 x n 0 < n then nI (sFn R 99 x n 0) else -9
/-- ASKING: what it is worth (-9: nothing), and whose the denials are ([]: it isn't denied) -/
def sA (R : Nat → Nat → Int32) (w : Nat) : Nat → Nat → Int32 → Int32 × List Int32
  | 0, _, _ => (-9, [7])
  | k + 1, r, x => if r ≠ w ∧ sHas (R r) x then (if R r 1 = 0 then (sWr (R r), []) else if R r 1 = 1 then (-9, [nI r]) else (if (sA R w k (r + 1) (x + R r 2)).2 = [] then (sWr (R r) + (sA R w k (r + 1) (x + R r 2)).1, []) else (-9, nI r :: (sA R w k (r + 1) (x + R r 2)).2))) else sA R w k (r + 1) x
def sAn (R : Nat → Nat → Int32) (w n r : Nat) (x : Int32) : Int32 × List Int32 := sA R w (n - r) r x
theorem sAn_end {R : Nat → Nat → Int32} {w n r : Nat} {x : Int32} (h : n ≤ r) : sAn R w n r x = (-9, [7]) := by
  unfold sAn
  rw [Nat.sub_eq_zero_of_le h]
  rfl
theorem sAn_miss {R : Nat → Nat → Int32} {w n r : Nat} {x : Int32} (h : r < n) (hx : ¬ (r ≠ w ∧ sHas (R r) x)) : sAn R w n r x = sAn R w n (r + 1) x := by
  unfold sAn
  rw [show n - r = (n - (r + 1)) + 1 by omega]
  exact if_neg hx
theorem sAn_hit {R : Nat → Nat → Int32} {w n r : Nat} {x : Int32} (h : r < n) (hx : r ≠ w ∧ sHas (R r) x) : sAn R w n r x = (if R r 1 = 0 then (sWr (R r), []) else if R r 1 = 1 then (-9, [nI r]) else (if (sAn R w n (r + 1) (x + R r 2)).2 = [] then (sWr (R r) + (sAn R w n (r + 1) (x + R r 2)).1, []) else (-9, nI r :: (sAn R w n (r + 1) (x + R r 2)).2))) := by
  unfold sAn
  rw [show n - r = (n - (r + 1)) + 1 by omega]
  exact if_pos hx
theorem sA_len (R : Nat → Nat → Int32) (w : Nat) : ∀ k r x, (sA R w k r x).2.length ≤ k + 1
  | 0, r, x => by simp [sA]
  | k + 1, r, x => by
    have h1 := sA_len R w k (r + 1) (x + R r 2)
    have h2 := sA_len R w k (r + 1) x
    simp only [sA]
    split
    · split
      · simp
      · split
        · simp
        · split
          · simp
          · simp only [List.length_cons]
            omega
    · omega
theorem sAn_len {R : Nat → Nat → Int32} {w n r : Nat} {x : Int32} : (sAn R w n r x).2.length ≤ n - r + 1 := sA_len R w (n - r) r x
theorem sA_none (R : Nat → Nat → Int32) (w : Nat) : ∀ k r x, (sA R w k r x).2 ≠ [] → (sA R w k r x).1 = -9
  | 0, r, x, _ => rfl
  | k + 1, r, x, h => by
    have h2 := sA_none R w k (r + 1) x
    simp only [sA] at h ⊢
    split
    · rename_i c
      rw [if_pos c] at h
      split
      · rename_i c2
        rw [if_pos c2] at h
        exact absurd rfl h
      · rename_i c2
        rw [if_neg c2] at h
        split
        · rfl
        · rename_i c3
          rw [if_neg c3] at h
          split
          · rename_i c4
            rw [if_pos c4] at h
            exact absurd rfl h
          · rfl
    · rename_i c
      rw [if_neg c] at h
      exact h2 h
/-! the book at bb: itself, its array of rules, its asking, whose array; the rules from bb + 4 on, in an order π -/
def bkB (V : gV) (ad : Nat → Nat) (E : Nat → va_E) (bb n : Nat) (π : Nat → Nat) (R : Nat → Nat → Int32) : Prop :=
  E bb = .inr (1, [.ref (ad (bb + 1)), .ref (ad (bb + 2)), .int (nI n)]) ∧ E (bb + 1) = gRl V 7 (fun i => some (ad (bb + 4 + π i))) ∧ (∀ i, i < 7 → E (bb + 4 + π i) = rC (R i)) ∧ n ≤ 7 ∧ (∀ i, i < 7 → π i < 7) ∧ (∀ i j, i < 7 → j < 7 → π i = π j → i = j) ∧ bb + 10 < 44
def bkA (V : gV) (ad : Nat → Nat) (E : Nat → va_E) (bb : Nat) (dn wo : Int32) (dl : Nat → Int32) : Prop :=
  E (bb + 2) = .inr (0, [.ref (ad (bb + 3)), .int dn, .int wo]) ∧ E (bb + 3) = gI V 8 dl
/-- all but the asking stays -/
def exA (bb : Nat) (E E2 : Nat → va_E) : Prop := ∀ k, k ≠ bb + 2 → k ≠ bb + 3 → E2 k = E k
theorem exA.rf {bb : Nat} {E : Nat → va_E} : exA bb E E := fun _ _ _ => rfl
theorem exA.tr {bb : Nat} {E E2 E3 : Nat → va_E} (h : exA bb E E2) (h2 : exA bb E2 E3) : exA bb E E3 := fun k a b => (h2 k a b).trans (h k a b)
theorem bkB.ex {V : gV} {ad : Nat → Nat} {E E2 : Nat → va_E} {bb n : Nat} {π : Nat → Nat} {R : Nat → Nat → Int32} (h : bkB V ad E bb n π R) (hx : exA bb E E2) : bkB V ad E2 bb n π R := by
  obtain ⟨h0, h1, h2, h3, h4, h5, h6⟩ := h
  exact ⟨(hx _ (by omega) (by omega)).trans h0, (hx _ (by omega) (by omega)).trans h1, fun i hi => (hx _ (by omega) (by omega)).trans (h2 i hi), h3, h4, h5, h6⟩
end
section
set_option maxHeartbeats 4000000 in
set_option maxRecDepth 100000 in
theorem c_X1_isRule (l : Launch) (V : gV) (ad : Nat → Nat) (E : Nat → va_E) (bb n : Nat) (π : Nat → Nat) (R : Nat → Nat → Int32) (hB : bkB V ad E bb n π R) (x : Int32) : Ct l V ad 44 44 yX1_isRule cX1_isRule 2 (some .boolean) { frames := 0, cells := 0, slots := 0, locals := 0 } [.ref (ad bb), .int x] E (pI ad (pS E (gB (0 ≤ x ∧ x < nI n)))) := by
  refine gCt mX1_isRule (Nat.le_of_ble_eq_true rfl) ?_
  intro K hk
  obtain ⟨h0, h1, h2, h3, h4, h5, h6⟩ := id hB
  refine G_iload_n (i := 1) hk dX1_isRule_0 rfl rfl ?_
  refine G_if_lt (tgt := 16) hk dX1_isRule_1 (by decide) (fun c_1 => ?_) (fun c_1 => ?_)
  · try simp only [gB_ne, gB_eq, Decidable.not_not] at c_1
    refine G_iconst (v := 0) hk dX1_isRule_16 (by decide) ?_
    refine G_zret hk dX1_isRule_17 (by first | rfl | exact gB_nar _) ?_
    exact ⟨rfl, by first | (simp [gB, *]; done) | exact (gB_t (by (simp only [fa_lt, fa_le, fa_eq, iT_0, iT_1, iT_2, iT_3, iT_4, iT_5, iT_6, iT_7, iT_9, iT_10, iT_20, iT_25, iT_26, iTm1, iTm2, iTm3, iTm4, iTm9] at *; omega))).symm | exact (gB_f (by (simp only [fa_lt, fa_le, fa_eq, iT_0, iT_1, iT_2, iT_3, iT_4, iT_5, iT_6, iT_7, iT_9, iT_10, iT_20, iT_25, iT_26, iTm1, iTm2, iTm3, iTm4, iTm9] at *; omega))).symm⟩
  · try simp only [gB_ne, gB_eq, Decidable.not_not] at c_1
    refine G_iload_n (i := 1) hk dX1_isRule_4 rfl rfl ?_
    refine G_aload_n (i := 0) hk dX1_isRule_5 rfl rfl ?_
    refine G_get hk fX1_25 dX1_isRule_6 (by assumption) (by rfl) (by first | decide | omega) ?_
    refine G_icmp_ge (tgt := 16) hk dX1_isRule_9 (by decide) (fun c_9 => ?_) (fun c_9 => ?_)
    · try simp only [gB_ne, gB_eq, Decidable.not_not] at c_9
      refine G_iconst (v := 0) hk dX1_isRule_16 (by decide) ?_
      refine G_zret hk dX1_isRule_17 (by first | rfl | exact gB_nar _) ?_
      exact ⟨rfl, by first | (simp [gB, *]; done) | exact (gB_t (by (simp only [fa_lt, fa_le, fa_eq, iT_0, iT_1, iT_2, iT_3, iT_4, iT_5, iT_6, iT_7, iT_9, iT_10, iT_20, iT_25, iT_26, iTm1, iTm2, iTm3, iTm4, iTm9] at *; omega))).symm | exact (gB_f (by (simp only [fa_lt, fa_le, fa_eq, iT_0, iT_1, iT_2, iT_3, iT_4, iT_5, iT_6, iT_7, iT_9, iT_10, iT_20, iT_25, iT_26, iTm1, iTm2, iTm3, iTm4, iTm9] at *; omega))).symm⟩
    · try simp only [gB_ne, gB_eq, Decidable.not_not] at c_9
      refine G_iconst (v := 1) hk dX1_isRule_12 (by decide) ?_
      refine G_goto (tgt := 17) hk dX1_isRule_13 (by decide) ?_
      refine G_zret hk dX1_isRule_17 (by first | rfl | exact gB_nar _) ?_
      exact ⟨rfl, by first | (simp [gB, *]; done) | exact (gB_t (by (simp only [fa_lt, fa_le, fa_eq, iT_0, iT_1, iT_2, iT_3, iT_4, iT_5, iT_6, iT_7, iT_9, iT_10, iT_20, iT_25, iT_26, iTm1, iTm2, iTm3, iTm4, iTm9] at *; omega))).symm | exact (gB_f (by (simp only [fa_lt, fa_le, fa_eq, iT_0, iT_1, iT_2, iT_3, iT_4, iT_5, iT_6, iT_7, iT_9, iT_10, iT_20, iT_25, iT_26, iTm1, iTm2, iTm3, iTm4, iTm9] at *; omega))).symm⟩

set_option maxHeartbeats 4000000 in
set_option maxRecDepth 100000 in
theorem c_X1_isPair (l : Launch) (V : gV) (ad : Nat → Nat) (E : Nat → va_E) (bb n : Nat) (π : Nat → Nat) (R : Nat → Nat → Int32) (hB : bkB V ad E bb n π R) (x : Int32) : Ct l V ad 44 44 yX1_isPair cX1_isPair 2 (some .boolean) { frames := 0, cells := 0, slots := 0, locals := 0 } [.ref (ad bb), .int x] E (pI ad (pS E (gB (0 ≤ x ∧ x < nI n - 1)))) := by
  refine gCt mX1_isPair (Nat.le_of_ble_eq_true rfl) ?_
  intro K hk
  obtain ⟨h0, h1, h2, h3, h4, h5, h6⟩ := id hB
  refine G_iload_n (i := 1) hk dX1_isPair_0 rfl rfl ?_
  refine G_if_lt (tgt := 18) hk dX1_isPair_1 (by decide) (fun c_1 => ?_) (fun c_1 => ?_)
  · try simp only [gB_ne, gB_eq, Decidable.not_not] at c_1
    refine G_iconst (v := 0) hk dX1_isPair_18 (by decide) ?_
    refine G_zret hk dX1_isPair_19 (by first | rfl | exact gB_nar _) ?_
    exact ⟨rfl, by first | (simp [gB, *]; done) | exact (gB_t (by (simp only [fa_lt, fa_le, fa_eq, iT_0, iT_1, iT_2, iT_3, iT_4, iT_5, iT_6, iT_7, iT_9, iT_10, iT_20, iT_25, iT_26, iTm1, iTm2, iTm3, iTm4, iTm9] at *; omega))).symm | exact (gB_f (by (simp only [fa_lt, fa_le, fa_eq, iT_0, iT_1, iT_2, iT_3, iT_4, iT_5, iT_6, iT_7, iT_9, iT_10, iT_20, iT_25, iT_26, iTm1, iTm2, iTm3, iTm4, iTm9] at *; omega))).symm⟩
  · try simp only [gB_ne, gB_eq, Decidable.not_not] at c_1
    refine G_iload_n (i := 1) hk dX1_isPair_4 rfl rfl ?_
    refine G_aload_n (i := 0) hk dX1_isPair_5 rfl rfl ?_
    refine G_get hk fX1_25 dX1_isPair_6 (by assumption) (by rfl) (by first | decide | omega) ?_
    refine G_iconst (v := 1) hk dX1_isPair_9 (by decide) ?_
    refine G_isub hk dX1_isPair_10 ?_
    refine G_icmp_ge (tgt := 18) hk dX1_isPair_11 (by decide) (fun c_11 => ?_) (fun c_11 => ?_)
    · try simp only [gB_ne, gB_eq, Decidable.not_not] at c_11
      refine G_iconst (v := 0) hk dX1_isPair_18 (by decide) ?_
      refine G_zret hk dX1_isPair_19 (by first | rfl | exact gB_nar _) ?_
      exact ⟨rfl, by first | (simp [gB, *]; done) | exact (gB_t (by (simp only [fa_lt, fa_le, fa_eq, iT_0, iT_1, iT_2, iT_3, iT_4, iT_5, iT_6, iT_7, iT_9, iT_10, iT_20, iT_25, iT_26, iTm1, iTm2, iTm3, iTm4, iTm9] at *; omega))).symm | exact (gB_f (by (simp only [fa_lt, fa_le, fa_eq, iT_0, iT_1, iT_2, iT_3, iT_4, iT_5, iT_6, iT_7, iT_9, iT_10, iT_20, iT_25, iT_26, iTm1, iTm2, iTm3, iTm4, iTm9] at *; omega))).symm⟩
    · try simp only [gB_ne, gB_eq, Decidable.not_not] at c_11
      refine G_iconst (v := 1) hk dX1_isPair_14 (by decide) ?_
      refine G_goto (tgt := 19) hk dX1_isPair_15 (by decide) ?_
      refine G_zret hk dX1_isPair_19 (by first | rfl | exact gB_nar _) ?_
      exact ⟨rfl, by first | (simp [gB, *]; done) | exact (gB_t (by (simp only [fa_lt, fa_le, fa_eq, iT_0, iT_1, iT_2, iT_3, iT_4, iT_5, iT_6, iT_7, iT_9, iT_10, iT_20, iT_25, iT_26, iTm1, iTm2, iTm3, iTm4, iTm9] at *; omega))).symm | exact (gB_f (by (simp only [fa_lt, fa_le, fa_eq, iT_0, iT_1, iT_2, iT_3, iT_4, iT_5, iT_6, iT_7, iT_9, iT_10, iT_20, iT_25, iT_26, iTm1, iTm2, iTm3, iTm4, iTm9] at *; omega))).symm⟩

set_option maxHeartbeats 4000000 in
set_option maxRecDepth 100000 in
theorem lp_X1_winnerOf {l : Launch} {V : gV} {ad : Nat → Nat} {K : gX} (hk : gOk l { frames := 1, cells := 0, slots := 0, locals := 21 } K V cX1_winnerOf 3 RX1 (some .int) yX1_winnerOf.name) (E : Nat → va_E) (bb n : Nat) (π : Nat → Nat) (R : Nat → Nat → Int32) (hB : bkB V ad E bb n π R) (x : Int32) : ∀ (k r : Nat) (val : Int32), n < r + k → r ≤ n → val = (if sFn R 99 x n r < n then nI (sFn R 99 x n r) else -9) → G K V 3 (gQ K V 44 0 0 (pI ad (pS E val))) ad 44 0 0 2 [(0, .ref (ad bb)), (1, .int x), (2, .int (nI r))] [] E := by
  obtain ⟨h0, h1, h2, h3, h4, h5, h6⟩ := hB
  intro k
  induction k with
  | zero => intro r val hr; omega
  | succ k ih =>
    intro r val hr hrn hv
    refine G_iload_n (i := 2) hk dX1_winnerOf_2 rfl rfl ?_
    refine G_aload_n (i := 0) hk dX1_winnerOf_3 rfl rfl ?_
    refine G_get hk fX1_25 dX1_winnerOf_4 (by assumption) (by rfl) (by first | decide | omega) ?_
    refine G_icmp_ge (tgt := 31) hk dX1_winnerOf_7 (by decide) (fun c_7 => ?_) (fun c_7 => ?_)
    · try simp only [gB_ne, gB_eq, Decidable.not_not] at c_7
      have hge : n ≤ r := (nle (by omega) (by omega)).mp c_7
      refine G_bipush (v := (-9)) hk dX1_winnerOf_31 (by decide) ?_
      refine G_iret hk dX1_winnerOf_33 ?_
      exact ⟨rfl, by rw [hv, sFn_end hge, if_neg (by omega)]⟩
    · try simp only [gB_ne, gB_eq, Decidable.not_not] at c_7
      have hlt : r < n := Nat.lt_of_not_le (fun q => c_7 ((nle (by omega) (by omega)).mpr q))
      have hr0 := h2 r (by omega)
      have hp0 := h4 r (by omega)
      refine G_aload_n (i := 0) hk dX1_winnerOf_10 rfl rfl ?_
      refine G_get hk fX1_11 dX1_winnerOf_11 (by assumption) (by rfl) (by first | decide | omega) ?_
      refine G_iload_n (i := 2) hk dX1_winnerOf_14 rfl rfl ?_
      refine G_aaldRlX (j := r) hk dX1_winnerOf_15 (by assumption) rfl (by omega) (by decide) (by rfl) (by first | decide | omega) ?_
      refine G_iload_n (i := 1) hk dX1_winnerOf_16 rfl rfl ?_
      refine G_cVi hk (c_X3_hasPoint l V ad E (bb + 4 + π r) (by omega) (R r) x hr0) mX3_hasPoint vX3_hasPoint kX1_55 dX1_winnerOf_17 (by assumption) (by rfl) (by first | decide | omega) rfl (by decide) (by decide) rfl (Nat.le_of_ble_eq_true rfl) (fun r_17 E_17 h_17 => ?_)
      obtain ⟨rfl, rfl⟩ := h_17
      refine G_if_eq (tgt := 25) hk dX1_winnerOf_20 (by decide) (fun c_20 => ?_) (fun c_20 => ?_)
      · try simp only [gB_ne, gB_eq, Decidable.not_not] at c_20
        refine G_iinc (v := nI (r + 1)) hk dX1_winnerOf_25 rfl (nI_inc r) (by decide) rfl ?_
        refine G_goto (tgt := 2) hk dX1_winnerOf_28 (by decide) ?_
        exact G_lv (by exact And.intro rfl (And.intro rfl (And.intro rfl (trivial)))) (ih (r + 1) val (by omega) (by omega) (by rw [hv, sFn_miss hlt (fun q => c_20 q.2)]))
      · try simp only [gB_ne, gB_eq, Decidable.not_not] at c_20
        refine G_iload_n (i := 2) hk dX1_winnerOf_23 rfl rfl ?_
        refine G_iret hk dX1_winnerOf_24 ?_
        exact ⟨rfl, by rw [hv, sFn_hit hlt (by omega) c_20, if_pos hlt]⟩

set_option maxHeartbeats 4000000 in
set_option maxRecDepth 100000 in
theorem c_X1_winnerOf (l : Launch) (V : gV) (ad : Nat → Nat) (E : Nat → va_E) (bb n : Nat) (π : Nat → Nat) (R : Nat → Nat → Int32) (hB : bkB V ad E bb n π R) (x : Int32) : Ct l V ad 44 44 yX1_winnerOf cX1_winnerOf 3 (some .int) { frames := 1, cells := 0, slots := 0, locals := 21 } [.ref (ad bb), .int x] E (pI ad (pS E (sW R n x))) := by
  refine gCt mX1_winnerOf (Nat.le_of_ble_eq_true rfl) ?_
  intro K hk
  refine G_iconst (v := 0) hk dX1_winnerOf_0 (by decide) ?_
  refine G_istore_n (i := 2) hk dX1_winnerOf_1 rfl (by decide) rfl ?_
  exact G_lv (by exact And.intro rfl (And.intro rfl (And.intro rfl (trivial)))) (lp_X1_winnerOf hk E bb n π R hB x (n + 1) 0 _ (by omega) (by omega) rfl)

set_option maxHeartbeats 4000000 in
set_option maxRecDepth 100000 in
theorem c_X0_give (l : Launch) (V : gV) (ad : Nat → Nat) (E : Nat → va_E) (bb : Nat) (hb : bb + 10 < 44) (dn wo : Int32) (dl : Nat → Int32) (hA : bkA V ad E bb dn wo dl) (x : Int32) : Ct l V ad 44 44 yX0_give cX0_give 2 none { frames := 0, cells := 0, slots := 0, locals := 0 } [.ref (ad (bb + 2)), .int x] E (pV ad (fun E2 => E2 = va_up E (bb + 2) (.inr (0, [.ref (ad (bb + 3)), .int 0, .int x])))) := by
  refine gCt mX0_give (Nat.le_of_ble_eq_true rfl) ?_
  intro K hk
  obtain ⟨a0, a1⟩ := hA
  refine G_aload_n (i := 0) hk dX0_give_0 rfl rfl ?_
  refine G_iload_n (i := 1) hk dX0_give_1 rfl rfl ?_
  refine G_put hk fX0_48 iX0_2 dX0_give_2 (by first | assumption | exact va_up_self _ _ _) (Nat.le_of_ble_eq_true rfl) (by first | decide | omega) ?_
  refine G_aload_n (i := 0) hk dX0_give_5 rfl rfl ?_
  refine G_iconst (v := 0) hk dX0_give_6 (by decide) ?_
  refine G_put hk fX0_15 iX0_1 dX0_give_7 (by first | assumption | exact va_up_self _ _ _) (Nat.le_of_ble_eq_true rfl) (by first | decide | omega) ?_
  refine G_vret hk dX0_give_10 ?_
  simp only [va_up_up, List.set]

set_option maxHeartbeats 4000000 in
set_option maxRecDepth 100000 in
theorem c_X0_addDenier (l : Launch) (V : gV) (ad : Nat → Nat) (E : Nat → va_E) (bb : Nat) (hb : bb + 10 < 44) (d : Nat) (hd8 : d < 8) (wo : Int32) (dl : Nat → Int32) (hA : bkA V ad E bb (nI d) wo dl) (x : Int32) : Ct l V ad 44 44 yX0_addDenier cX0_addDenier 2 none { frames := 0, cells := 0, slots := 0, locals := 0 } [.ref (ad (bb + 2)), .int x] E (pV ad (fun E2 => exA bb E E2 ∧ bkA V ad E2 bb (nI (d + 1)) wo (upd dl d x))) := by
  refine gCt mX0_addDenier (Nat.le_of_ble_eq_true rfl) ?_
  intro K hk
  obtain ⟨a0, a1⟩ := hA
  refine G_aload_n (i := 0) hk dX0_addDenier_0 rfl rfl ?_
  refine G_get hk fX0_15 dX0_addDenier_1 (by assumption) (by rfl) (by first | decide | omega) ?_
  refine G_aload_n (i := 0) hk dX0_addDenier_4 rfl rfl ?_
  refine G_get hk fX0_9 dX0_addDenier_5 (by assumption) (by rfl) (by first | decide | omega) ?_
  refine G_alen hk dX0_addDenier_8 a1 (v := 8) (by decide) (by omega) ?_
  refine G_icmp_lt (tgt := 13) hk dX0_addDenier_9 (by decide) (fun c_9 => ?_) (fun c_9 => ?_)
  · try simp only [gB_ne, gB_eq, Decidable.not_not] at c_9
    refine G_aload_n (i := 0) hk dX0_addDenier_13 rfl rfl ?_
    refine G_get hk fX0_9 dX0_addDenier_14 (by assumption) (by rfl) (by first | decide | omega) ?_
    refine G_aload_n (i := 0) hk dX0_addDenier_17 rfl rfl ?_
    refine G_get hk fX0_15 dX0_addDenier_18 (by assumption) (by rfl) (by first | decide | omega) ?_
    refine G_iload_n (i := 1) hk dX0_addDenier_21 rfl rfl ?_
    refine G_iastX (j := d) hk dX0_addDenier_22 (by assumption) rfl (by omega) (by decide) (by first | decide | omega) ?_
    have e2 : (va_up E (bb + 3) (gI V 8 (upd dl d x))) (bb + 2) = .inr (0, [.ref (ad (bb + 3)), .int (nI d), .int wo]) := by rw [va_up_ne _ _ (by omega)]; exact a0
    refine G_aload_n (i := 0) hk dX0_addDenier_23 rfl rfl ?_
    refine G_dup hk dX0_addDenier_24 rfl ?_
    refine G_get hk fX0_15 dX0_addDenier_25 (by assumption) (by rfl) (by first | decide | omega) ?_
    refine G_iconst (v := 1) hk dX0_addDenier_28 (by decide) ?_
    refine G_iadd hk dX0_addDenier_29 ?_
    refine G_put hk fX0_15 iX0_1 dX0_addDenier_30 (by assumption) (Nat.le_of_ble_eq_true rfl) (by first | decide | omega) ?_
    refine G_vret hk dX0_addDenier_33 ?_
    refine ⟨fun k p q => by rw [va_up_ne _ _ p, va_up_ne _ _ q], ?_, ?_⟩
    · rw [va_up_self, nI_i1]; rfl
    · rw [va_up_ne _ _ (by omega), va_up_self]
  · try simp only [gB_ne, gB_eq, Decidable.not_not] at c_9
    exact absurd ((nlt (a := d) (b := 8) (by omega) (by omega)).mpr hd8) c_9

set_option maxHeartbeats 4000000 in
set_option maxRecDepth 100000 in
theorem c_X0_denier (l : Launch) (V : gV) (ad : Nat → Nat) (E : Nat → va_E) (bb : Nat) (hb : bb + 10 < 44) (d : Nat) (hd8 : d ≤ 8) (wo : Int32) (dl : Nat → Int32) (hA : bkA V ad E bb (nI d) wo dl) (k : Nat) (hk9 : k < 100) : Ct l V ad 44 44 yX0_denier cX0_denier 2 (some .int) { frames := 0, cells := 0, slots := 0, locals := 0 } [.ref (ad (bb + 2)), .int (nI k)] E (pI ad (pS E (if k < d then dl k else -9))) := by
  refine gCt mX0_denier (Nat.le_of_ble_eq_true rfl) ?_
  intro K hk
  obtain ⟨a0, a1⟩ := hA
  refine G_iload_n (i := 1) hk dX0_denier_0 rfl rfl ?_
  refine G_if_lt (tgt := 21) hk dX0_denier_1 (by decide) (fun c_1 => ?_) (fun c_1 => ?_)
  · try simp only [gB_ne, gB_eq, Decidable.not_not] at c_1
    exact absurd c_1 (nI_pos (by omega))
  · try simp only [gB_ne, gB_eq, Decidable.not_not] at c_1
    refine G_iload_n (i := 1) hk dX0_denier_4 rfl rfl ?_
    refine G_aload_n (i := 0) hk dX0_denier_5 rfl rfl ?_
    refine G_get hk fX0_15 dX0_denier_6 (by assumption) (by rfl) (by first | decide | omega) ?_
    refine G_icmp_ge (tgt := 21) hk dX0_denier_9 (by decide) (fun c_9 => ?_) (fun c_9 => ?_)
    · try simp only [gB_ne, gB_eq, Decidable.not_not] at c_9
      have hge := (nle (by omega) (by omega)).mp c_9
      refine G_bipush (v := (-9)) hk dX0_denier_21 (by decide) ?_
      refine G_iret hk dX0_denier_23 ?_
      first | exact ⟨rfl, (if_pos hlt).symm⟩ | exact ⟨rfl, (if_neg (by omega)).symm⟩
    · try simp only [gB_ne, gB_eq, Decidable.not_not] at c_9
      have hlt : k < d := Nat.lt_of_not_le (fun q => c_9 ((nle (by omega) (by omega)).mpr q))
      refine G_aload_n (i := 0) hk dX0_denier_12 rfl rfl ?_
      refine G_get hk fX0_9 dX0_denier_13 (by assumption) (by rfl) (by first | decide | omega) ?_
      refine G_iload_n (i := 1) hk dX0_denier_16 rfl rfl ?_
      refine G_ialdX (j := k) hk dX0_denier_17 (by assumption) rfl (by omega) (by decide) (by first | decide | omega) ?_
      refine G_goto (tgt := 23) hk dX0_denier_18 (by decide) ?_
      refine G_iret hk dX0_denier_23 ?_
      first | exact ⟨rfl, (if_pos hlt).symm⟩ | exact ⟨rfl, (if_neg (by omega)).symm⟩
end
section
/-! counts, sums and sets over the points and the rules -/
theorem fa_cnt_mono (p : Nat → Bool) {a b : Nat} (h : a ≤ b) : fa_cnt p a ≤ fa_cnt p b := by
  induction b with
  | zero => rw [Nat.le_zero.mp h]; exact Nat.le_refl _
  | succ b ih =>
    rcases Nat.lt_or_ge b a with q | q
    · rw [show a = b + 1 by omega]; exact Nat.le_refl _
    · have := ih q
      simp only [fa_cnt]
      omega
theorem hw99 : ∀ r, r < 7 → (nI r = (-1 : Int32) ↔ r = 99) := by decide
theorem hw99' : ∀ r, r < 7 → (nI r = (-9 : Int32) ↔ r = 99) := by decide
def sX (R : Nat → Nat → Int32) (n : Nat) (y : Nat) : Int32 := (sAn R 99 n 0 (nI y)).1
def sCp (R : Nat → Nat → Int32) (n : Nat) (v : Int32) (y : Nat) : Bool := decide (sX R n y ≠ -9 ∧ v ≤ sX R n y)
theorem sCp_n1 {R : Nat → Nat → Int32} {n : Nat} {v : Int32} {y : Nat} (h : sX R n y = -9) : sCp R n v y = false := decide_eq_false (fun q => q.1 h)
theorem sCp_n2 {R : Nat → Nat → Int32} {n : Nat} {v : Int32} {y : Nat} (h : sX R n y < v) : sCp R n v y = false := decide_eq_false (fun q => (Int32.not_le.mpr h) q.2)
theorem sCp_y {R : Nat → Nat → Int32} {n : Nat} {v : Int32} {y : Nat} (h : ¬ sX R n y = -9) (h2 : ¬ sX R n y < v) : sCp R n v y = true := decide_eq_true ⟨h, Int32.not_lt.mp h2⟩
def sCw (R : Nat → Nat → Int32) (n : Nat) (v : Int32) : Nat := fa_cnt (sCp R n v) 26
def sSum (R : Nat → Nat → Int32) (n : Nat) : Int32 := bx_sum (fun y => if sX R n y = -9 then 0 else sX R n y) 26
def sBg (R : Nat → Nat → Int32) (n y : Nat) : Bool := decide (y = 0 ∨ sW R n (nI y) ≠ sW R n (nI (y - 1)))
def sRuns (R : Nat → Nat → Int32) (n : Nat) : Nat := fa_cnt (sBg R n) 26
def sWon (R : Nat → Nat → Int32) (n : Nat) (r : Int32) : Nat := fa_cnt (fun y => decide (sW R n (nI y) = r)) 26
def sBits (p : Nat → Bool) : Nat → Int32
  | 0 => 0
  | k + 1 => if p k then sBits p k ||| ((1 : Int32) <<< (nI k &&& 31)) else sBits p k
def sShad (R : Nat → Nat → Int32) (n : Nat) : Int32 := sBits (fun r => decide (sWon R n (nI r) = 0)) n
def sNeed (R : Nat → Nat → Int32) (n r : Nat) : Bool := decide (0 < fa_cnt (fun y => decide (sX R n y ≠ (sAn R r n 0 (nI y)).1)) 26)
def sNeeds (R : Nat → Nat → Int32) (n : Nat) : Int32 := sBits (sNeed R n) n
def sFr (p : Nat → Bool) (k : Nat) : Nat → Nat → Nat
  | 0, x => x
  | f + 1, x => if fa_cnt p (x + 1) = k + 1 then x else sFr p k f (x + 1)
def sFrn (p : Nat → Bool) (k x : Nat) : Nat := sFr p k (26 - x) x
theorem sFrn_end {p : Nat → Bool} {k x : Nat} (h : 26 ≤ x) : sFrn p k x = x := by
  unfold sFrn
  rw [Nat.sub_eq_zero_of_le h]
  rfl
theorem sFrn_hit {p : Nat → Bool} {k x : Nat} (h : x < 26) (hx : fa_cnt p (x + 1) = k + 1) : sFrn p k x = x := by
  unfold sFrn
  rw [show 26 - x = (26 - (x + 1)) + 1 by omega]
  exact if_pos hx
theorem sFrn_miss {p : Nat → Bool} {k x : Nat} (h : x < 26) (hx : ¬ fa_cnt p (x + 1) = k + 1) : sFrn p k x = sFrn p k (x + 1) := by
  unfold sFrn
  rw [show 26 - x = (26 - (x + 1)) + 1 by omega]
  exact if_neg hx
/-- what an asking came to, written down -/
def aPost (V : gV) (ad : Nat → Nat) (bb : Nat) (E : Nat → va_E) (F : Int32 × List Int32) (E2 : Nat → va_E) : Prop := exA bb E E2 ∧ ∃ dl, bkA V ad E2 bb (nI F.2.length) F.1 dl ∧ ∀ i, i < F.2.length → dl i = F.2.getD i 0
def aX (V : gV) (ad : Nat → Nat) (bb : Nat) (E E2 : Nat → va_E) : Prop := exA bb E E2 ∧ ∃ dn wo dl, bkA V ad E2 bb dn wo dl
theorem aPost.x {V : gV} {ad : Nat → Nat} {bb : Nat} {E E2 : Nat → va_E} {F : Int32 × List Int32} (h : aPost V ad bb E F E2) : aX V ad bb E E2 := ⟨h.1, _, _, h.2.choose, h.2.choose_spec.1⟩
theorem aX.tr {V : gV} {ad : Nat → Nat} {bb : Nat} {E E2 E3 : Nat → va_E} (h : aX V ad bb E E2) (h2 : aX V ad bb E2 E3) : aX V ad bb E E3 := ⟨h.1.tr h2.1, h2.2⟩
def sC (s : Int32) (pre : List Int32) (q : Int32 × List Int32) : Int32 × List Int32 := if q.2 = [] then (s + q.1, []) else (-9, pre ++ q.2)
theorem sC_hit {s t : Int32} {pre : List Int32} {m : Int32} {q : Int32 × List Int32} : sC s pre (if q.2 = [] then (t + q.1, []) else (-9, m :: q.2)) = sC (s + t) (pre ++ [m]) q := by
  unfold sC
  by_cases h : q.2 = []
  · simp [h, Int32.add_assoc]
  · simp [h]
theorem getD_app {pre : List Int32} {m : Int32} {dl : Nat → Int32} (h : ∀ i, i < pre.length → dl i = pre.getD i 0) : ∀ i, i < (pre ++ [m]).length → upd dl pre.length m i = (pre ++ [m]).getD i 0 := by
  intro i hi
  simp only [List.length_append, List.length_cons, List.length_nil] at hi
  unfold upd
  by_cases hq : i = pre.length
  · subst hq
    simp
  · rw [if_neg hq, h i (by omega)]
    simp only [List.getD_eq_getElem?_getD]
    rw [List.getElem?_append_left (by omega)]
end
section
set_option maxHeartbeats 4000000 in
set_option maxRecDepth 100000 in
theorem lp_X0_walk {l : Launch} {V : gV} {ad : Nat → Nat} {K : gX} (hk : gOk l { frames := 1, cells := 0, slots := 0, locals := 21 } K V cX0_walk 8 RX0 none yX0_walk.name) (E0 : Nat → va_E) (bb n : Nat) (π : Nat → Nat) (R : Nat → Nat → Int32) (hB0 : bkB V ad E0 bb n π R) (w : Nat) (wi : Int32) (hw : ∀ r, r < 7 → (nI r = wi ↔ r = w)) (F : Int32 × List Int32) : ∀ (k r : Nat) (a s : Int32) (pre : List Int32) (E : Nat → va_E) (dl : Nat → Int32) (wo : Int32), n < r + k → r ≤ n → pre.length ≤ r → exA bb E0 E → bkA V ad E bb (nI pre.length) wo dl → (∀ i, i < pre.length → dl i = pre.getD i 0) → F = sC s pre (sAn R w n r a) → G K V 8 (gQ K V 44 0 0 (pV ad (aPost V ad bb E0 F))) ad 44 0 0 14 [(0, .ref (ad (bb + 2))), (1, .ref (ad bb)), (3, .int wi), (4, .int a), (5, .int s), (6, .int (nI r))] [] E := by
  intro k
  induction k with
  | zero => intro r a s pre E dl wo hr; omega
  | succ k ih =>
    intro r a s pre E dl wo hr hrn hpl hex hA hdl hF
    obtain ⟨h0, h1, h2, h3, h4, h5, h6⟩ := hB0.ex hex
    obtain ⟨a0, a1⟩ := id hA
    refine G_iload hk dX0_walk_14 rfl ?_
    refine G_aload_n (i := 1) hk dX0_walk_16 rfl rfl ?_
    refine G_get hk fX0_19 dX0_walk_17 (by assumption) (by rfl) (by first | decide | omega) ?_
    refine G_icmp_ge (tgt := 114) hk dX0_walk_20 (by decide) (fun c_20 => ?_) (fun c_20 => ?_)
    · try simp only [gB_ne, gB_eq, Decidable.not_not] at c_20
      have hge : n ≤ r := (nle (by omega) (by omega)).mp c_20
      refine G_aload_n (i := 0) hk dX0_walk_114 rfl rfl ?_
      refine G_bipush (v := 7) hk dX0_walk_115 (by decide) ?_
      refine G_cVv hk (c_X0_addDenier l V ad E bb (by omega) pre.length (by omega) wo dl hA 7) mX0_addDenier vX0_addDenier kX0_45 dX0_walk_117 (by assumption) (by rfl) (by first | decide | omega) rfl (by decide) (by decide) rfl (Nat.le_of_ble_eq_true rfl) (fun E_117 h_117 => ?_)
      obtain ⟨x1, x2⟩ := h_117
      obtain ⟨b0, b1⟩ := id x2
      refine G_aload_n (i := 0) hk dX0_walk_120 rfl rfl ?_
      refine G_bipush (v := (-9)) hk dX0_walk_121 (by decide) ?_
      refine G_put hk fX0_48 iX0_2 dX0_walk_123 (by assumption) (Nat.le_of_ble_eq_true rfl) (by first | decide | omega) ?_
      refine G_vret hk dX0_walk_126 ?_
      rw [sAn_end hge] at hF
      subst hF
      refine ⟨fun q p1 p2 => by rw [va_up_ne _ _ p1]; exact (x1 q p1 p2).trans (hex q p1 p2), upd dl pre.length 7, ⟨?_, ?_⟩, ?_⟩
      · rw [va_up_self]; simp [sC]
      · rw [va_up_ne _ _ (by omega)]; exact b1
      · have hq := getD_app (m := 7) hdl
        simpa [sC] using hq
    · try simp only [gB_ne, gB_eq, Decidable.not_not] at c_20
      have hlt : r < n := Nat.lt_of_not_le (fun q => c_20 ((nle (by omega) (by omega)).mpr q))
      have hr0 := h2 r (by omega)
      have hp0 := h4 r (by omega)
      have hwr := hw r (by omega)
      refine G_aload_n (i := 1) hk dX0_walk_23 rfl rfl ?_
      refine G_get hk fX0_24 dX0_walk_24 (by assumption) (by rfl) (by first | decide | omega) ?_
      refine G_iload hk dX0_walk_27 rfl ?_
      refine G_aaldRlX (j := r) hk dX0_walk_29 (by assumption) rfl (by omega) (by decide) (by rfl) (by first | decide | omega) ?_
      refine G_astore hk dX0_walk_30 (by decide) rfl ?_
      refine G_iload hk dX0_walk_32 rfl ?_
      refine G_iload_n (i := 3) hk dX0_walk_34 rfl rfl ?_
      refine G_icmp_eq (tgt := 108) hk dX0_walk_35 (by decide) (fun c_35 => ?_) (fun c_35 => ?_)
      · try simp only [gB_ne, gB_eq, Decidable.not_not] at c_35
        refine G_iinc (v := nI (r + 1)) hk dX0_walk_108 rfl (nI_inc r) (by decide) rfl ?_
        refine G_goto (tgt := 14) hk dX0_walk_111 (by decide) ?_
        exact G_lv (by exact And.intro rfl (And.intro rfl (And.intro rfl (And.intro rfl (And.intro rfl (And.intro rfl (trivial))))))) (ih (r + 1) a s pre E dl wo (by omega) (by omega) (by omega) hex hA hdl (by rw [hF, sAn_miss hlt (fun q => q.1 (hwr.mp c_35))]))
      · try simp only [gB_ne, gB_eq, Decidable.not_not] at c_35
        have hnw : r ≠ w := fun q => c_35 (hwr.mpr q)
        refine G_aload hk dX0_walk_38 rfl ?_
        refine G_iload hk dX0_walk_40 rfl ?_
        refine G_cVi hk (c_X3_hasPoint l V ad E (bb + 4 + π r) (by omega) (R r) a hr0) mX3_hasPoint vX3_hasPoint kX0_28 dX0_walk_42 (by assumption) (by rfl) (by first | decide | omega) rfl (by decide) (by decide) rfl (Nat.le_of_ble_eq_true rfl) (fun r_42 E_42 h_42 => ?_)
        obtain ⟨rfl, rfl⟩ := h_42
        refine G_if_ne (tgt := 51) hk dX0_walk_45 (by decide) (fun c_45 => ?_) (fun c_45 => ?_)
        · try simp only [gB_ne, gB_eq, Decidable.not_not] at c_45
          have hF2 := hF
          rw [sAn_hit hlt ⟨hnw, c_45⟩] at hF2
          refine G_iload hk dX0_walk_51 rfl ?_
          refine G_aload hk dX0_walk_53 rfl ?_
          refine G_cVi hk (c_X3_ownWorth l V ad E (bb + 4 + π r) (by omega) (R r) hr0) mX3_ownWorth vX3_ownWorth kX0_34 dX0_walk_55 (by assumption) (by rfl) (by first | decide | omega) rfl (by decide) (by decide) rfl (Nat.le_of_ble_eq_true rfl) (fun r_55 E_55 h_55 => ?_)
          obtain ⟨rfl, rfl⟩ := h_55
          refine G_iadd hk dX0_walk_58 ?_
          refine G_istore hk dX0_walk_59 (by decide) rfl ?_
          refine G_aload hk dX0_walk_61 rfl ?_
          refine G_get hk fX0_38 dX0_walk_63 (by assumption) (by rfl) (by first | decide | omega) ?_
          refine G_if_ne (tgt := 76) hk dX0_walk_66 (by decide) (fun c_66 => ?_) (fun c_66 => ?_)
          · try simp only [gB_ne, gB_eq, Decidable.not_not] at c_66
            rw [if_neg c_66] at hF2
            refine G_aload_n (i := 0) hk dX0_walk_76 rfl rfl ?_
            refine G_iload hk dX0_walk_77 rfl ?_
            refine G_cVv hk (c_X0_addDenier l V ad E bb (by omega) pre.length (by omega) wo dl hA (nI r)) mX0_addDenier vX0_addDenier kX0_45 dX0_walk_79 (by assumption) (by rfl) (by first | decide | omega) rfl (by decide) (by decide) rfl (Nat.le_of_ble_eq_true rfl) (fun E_79 h_79 => ?_)
            obtain ⟨x1, x2⟩ := h_79
            have hr1 : E_79 (bb + 4 + π r) = rC (R r) := (x1 _ (by omega) (by omega)).trans hr0
            obtain ⟨b0, b1⟩ := id x2
            refine G_aload hk dX0_walk_82 rfl ?_
            refine G_get hk fX0_38 dX0_walk_84 (by assumption) (by rfl) (by first | decide | omega) ?_
            refine G_iconst (v := 1) hk dX0_walk_87 (by decide) ?_
            refine G_icmp_ne (tgt := 98) hk dX0_walk_88 (by decide) (fun c_88 => ?_) (fun c_88 => ?_)
            · try simp only [gB_ne, gB_eq, Decidable.not_not] at c_88
              rw [if_neg c_88] at hF2
              refine G_iload hk dX0_walk_98 rfl ?_
              refine G_aload hk dX0_walk_100 rfl ?_
              refine G_get hk fX0_51 dX0_walk_102 (by assumption) (by rfl) (by first | decide | omega) ?_
              refine G_iadd hk dX0_walk_105 ?_
              refine G_istore hk dX0_walk_106 (by decide) rfl ?_
              refine G_iinc (v := nI (r + 1)) hk dX0_walk_108 rfl (nI_inc r) (by decide) rfl ?_
              refine G_goto (tgt := 14) hk dX0_walk_111 (by decide) ?_
              exact G_lv (by exact And.intro rfl (And.intro rfl (And.intro rfl (And.intro rfl (And.intro rfl (And.intro rfl (trivial))))))) (ih (r + 1) (a + R r 2) (s + sWr (R r)) (pre ++ [nI r]) E_79 (upd dl pre.length (nI r)) wo (by omega) (by omega) (by simp; omega) (hex.tr x1) (by rw [List.length_append]; exact x2) (getD_app hdl) (by rw [hF2, sC_hit]))
            · try simp only [gB_ne, gB_eq, Decidable.not_not] at c_88
              rw [if_pos c_88] at hF2
              refine G_aload_n (i := 0) hk dX0_walk_91 rfl rfl ?_
              refine G_bipush (v := (-9)) hk dX0_walk_92 (by decide) ?_
              refine G_put hk fX0_48 iX0_2 dX0_walk_94 (by assumption) (Nat.le_of_ble_eq_true rfl) (by first | decide | omega) ?_
              refine G_vret hk dX0_walk_97 ?_
              subst hF2
              refine ⟨fun q p1 p2 => by rw [va_up_ne _ _ p1]; exact (x1 q p1 p2).trans (hex q p1 p2), upd dl pre.length (nI r), ⟨?_, ?_⟩, ?_⟩
              · rw [va_up_self]; simp [sC]
              · rw [va_up_ne _ _ (by omega)]; exact b1
              · have hq := getD_app (m := nI r) hdl
                simpa [sC] using hq
          · try simp only [gB_ne, gB_eq, Decidable.not_not] at c_66
            have c_66 := c_66
            rw [if_pos c_66] at hF2
            refine G_aload_n (i := 0) hk dX0_walk_69 rfl rfl ?_
            refine G_iload hk dX0_walk_70 rfl ?_
            refine G_cVv hk (c_X0_give l V ad E bb (by omega) _ wo dl hA _) mX0_give vX0_give kX0_41 dX0_walk_72 (by assumption) (by rfl) (by first | decide | omega) rfl (by decide) (by decide) rfl (Nat.le_of_ble_eq_true rfl) (fun E_72 h_72 => ?_)
            subst h_72
            refine G_vret hk dX0_walk_75 ?_
            subst hF2
            refine ⟨fun q p1 p2 => by rw [va_up_ne _ _ p1]; exact hex q p1 p2, dl, ⟨?_, ?_⟩, fun i hi => absurd hi (by simp [sC])⟩
            · rw [va_up_self]; simp [sC]; rfl
            · rw [va_up_ne _ _ (by omega)]; exact a1
        · try simp only [gB_ne, gB_eq, Decidable.not_not] at c_45
          refine G_goto (tgt := 108) hk dX0_walk_48 (by decide) ?_
          refine G_iinc (v := nI (r + 1)) hk dX0_walk_108 rfl (nI_inc r) (by decide) rfl ?_
          refine G_goto (tgt := 14) hk dX0_walk_111 (by decide) ?_
          exact G_lv (by exact And.intro rfl (And.intro rfl (And.intro rfl (And.intro rfl (And.intro rfl (And.intro rfl (trivial))))))) (ih (r + 1) a s pre E dl wo (by omega) (by omega) (by omega) hex hA hdl (by rw [hF, sAn_miss hlt (fun q => c_45 q.2)]))
end
section
set_option maxHeartbeats 4000000 in
set_option maxRecDepth 100000 in
theorem c_X0_walk (l : Launch) (V : gV) (ad : Nat → Nat) (E : Nat → va_E) (bb n : Nat) (π : Nat → Nat) (R : Nat → Nat → Int32) (hB : bkB V ad E bb n π R) (dn wo : Int32) (dl : Nat → Int32) (hA : bkA V ad E bb dn wo dl) (w : Nat) (wi : Int32) (hw : ∀ r, r < 7 → (nI r = wi ↔ r = w)) (x : Int32) : Ct l V ad 44 44 yX0_walk cX0_walk 8 none { frames := 1, cells := 0, slots := 0, locals := 21 } [.ref (ad (bb + 2)), .ref (ad bb), .int x, .int wi] E (pV ad (aPost V ad bb E (sAn R w n 0 x))) := by
  refine gCt mX0_walk (Nat.le_of_ble_eq_true rfl) ?_
  intro K hk
  obtain ⟨h0, h1, h2, h3, h4, h5, h6⟩ := id hB
  obtain ⟨a0, a1⟩ := id hA
  refine G_iload_n (i := 2) hk dX0_walk_0 rfl rfl ?_
  refine G_istore hk dX0_walk_1 (by decide) rfl ?_
  refine G_iconst (v := 0) hk dX0_walk_3 (by decide) ?_
  refine G_istore hk dX0_walk_4 (by decide) rfl ?_
  refine G_aload_n (i := 0) hk dX0_walk_6 rfl rfl ?_
  refine G_iconst (v := 0) hk dX0_walk_7 (by decide) ?_
  refine G_put hk fX0_15 iX0_1 dX0_walk_8 (by assumption) (Nat.le_of_ble_eq_true rfl) (by first | decide | omega) ?_
  refine G_iconst (v := 0) hk dX0_walk_11 (by decide) ?_
  refine G_istore hk dX0_walk_12 (by decide) rfl ?_
  refine G_lv (by exact And.intro rfl (And.intro rfl (And.intro rfl (And.intro rfl (And.intro rfl (And.intro rfl (trivial))))))) (lp_X0_walk hk E bb n π R hB w wi hw (sAn R w n 0 x) (n + 1) 0 x 0 [] _ dl wo (by omega) (by omega) (Nat.le_refl 0) ?_ ⟨?_, ?_⟩ (fun i hi => absurd hi (Nat.not_lt_zero i)) ?_)
  · exact fun q p1 p2 => va_up_ne _ _ p1
  · rw [va_up_self]; rfl
  · rw [va_up_ne _ _ (by omega)]; exact a1
  · unfold sC
    by_cases hq : (sAn R w n 0 x).2 = []
    · rw [if_pos hq, Int32.zero_add]
      exact Prod.ext rfl hq
    · rw [if_neg hq]
      exact Prod.ext (sA_none R w _ _ _ hq) rfl

set_option maxHeartbeats 4000000 in
set_option maxRecDepth 100000 in
theorem c_X1_worthOf (l : Launch) (V : gV) (ad : Nat → Nat) (E : Nat → va_E) (bb n : Nat) (π : Nat → Nat) (R : Nat → Nat → Int32) (hB : bkB V ad E bb n π R) (dn wo : Int32) (dl : Nat → Int32) (hA : bkA V ad E bb dn wo dl) (w : Nat) (wi : Int32) (hw : ∀ r, r < 7 → (nI r = wi ↔ r = w)) (x : Int32) : Ct l V ad 44 44 yX1_worthOf cX1_worthOf 3 (some .int) { frames := 2, cells := 0, slots := 0, locals := 48 } [.ref (ad bb), .int x, .int wi] E (pI ad (fun v E2 => v = (sAn R w n 0 x).1 ∧ aPost V ad bb E (sAn R w n 0 x) E2)) := by
  refine gCt mX1_worthOf (Nat.le_of_ble_eq_true rfl) ?_
  intro K hk
  obtain ⟨h0, h1, h2, h3, h4, h5, h6⟩ := id hB
  obtain ⟨a0, a1⟩ := id hA
  refine G_aload_n (i := 0) hk dX1_worthOf_0 rfl rfl ?_
  refine G_get hk fX1_20 dX1_worthOf_1 (by assumption) (by rfl) (by first | decide | omega) ?_
  refine G_aload_n (i := 0) hk dX1_worthOf_4 rfl rfl ?_
  refine G_iload_n (i := 1) hk dX1_worthOf_5 rfl rfl ?_
  refine G_iload_n (i := 2) hk dX1_worthOf_6 rfl rfl ?_
  refine G_cVv hk (c_X0_walk l V ad E bb n π R hB dn wo dl hA w wi hw x) mX0_walk vX0_walk kX1_62 dX1_worthOf_7 (by assumption) (by rfl) (by first | decide | omega) rfl (by decide) (by decide) rfl (Nat.le_of_ble_eq_true rfl) (fun E_7 h_7 => ?_)
  have hp := h_7
  obtain ⟨x1, dl2, ⟨b0, b1⟩, -⟩ := h_7
  have h0 : E_7 bb = _ := (x1 _ (by omega) (by omega)).trans h0
  refine G_aload_n (i := 0) hk dX1_worthOf_10 rfl rfl ?_
  refine G_get hk fX1_20 dX1_worthOf_11 (by assumption) (by rfl) (by first | decide | omega) ?_
  refine G_get hk fX1_66 dX1_worthOf_14 (by assumption) (by rfl) (by first | decide | omega) ?_
  refine G_iret hk dX1_worthOf_17 ?_
  exact ⟨rfl, hp⟩

set_option maxHeartbeats 4000000 in
set_option maxRecDepth 100000 in
theorem lp_X1_pointsWonBy {l : Launch} {V : gV} {ad : Nat → Nat} {K : gX} (hk : gOk l { frames := 2, cells := 0, slots := 0, locals := 43 } K V cX1_pointsWonBy 4 RX1 (some .int) yX1_pointsWonBy.name) (E : Nat → va_E) (bb n : Nat) (π : Nat → Nat) (R : Nat → Nat → Int32) (hB : bkB V ad E bb n π R) (rr : Int32) : ∀ (k x : Nat) (c : Int32), 26 < x + k → x ≤ 26 → c = nI (fa_cnt (fun y => decide (sW R n (nI y) = rr)) x) → G K V 4 (gQ K V 44 0 0 (pI ad (pS E (nI (sWon R n rr))))) ad 44 0 0 4 [(0, .ref (ad bb)), (1, .int rr), (2, .int c), (3, .int (nI x))] [] E := by
  obtain ⟨h0, h1, h2, h3, h4, h5, h6⟩ := id hB
  intro k
  induction k with
  | zero => intro x c hx; omega
  | succ k ih =>
    intro x c hx hx26 hc
    refine G_iload_n (i := 3) hk dX1_pointsWonBy_4 rfl rfl ?_
    refine G_bipush (v := 26) hk dX1_pointsWonBy_5 (by decide) ?_
    refine G_icmp_ge (tgt := 28) hk dX1_pointsWonBy_7 (by decide) (fun c_7 => ?_) (fun c_7 => ?_)
    · try simp only [gB_ne, gB_eq, Decidable.not_not] at c_7
      have hge : 26 ≤ x := (nle (a := 26) (by omega) (by omega)).mp c_7
      have hxe : x = 26 := by omega
      subst hxe
      refine G_iload_n (i := 2) hk dX1_pointsWonBy_28 rfl rfl ?_
      refine G_iret hk dX1_pointsWonBy_29 ?_
      exact ⟨rfl, hc⟩
    · try simp only [gB_ne, gB_eq, Decidable.not_not] at c_7
      have hlt : x < 26 := Nat.lt_of_not_le (fun q => c_7 ((nle (a := 26) (by omega) (by omega)).mpr q))
      refine G_aload_n (i := 0) hk dX1_pointsWonBy_10 rfl rfl ?_
      refine G_iload_n (i := 3) hk dX1_pointsWonBy_11 rfl rfl ?_
      refine G_cVi hk (c_X1_winnerOf l V ad E bb n π R hB (nI x)) mX1_winnerOf vX1_winnerOf kX1_58 dX1_pointsWonBy_12 (by assumption) (by rfl) (by first | decide | omega) rfl (by decide) (by decide) rfl (Nat.le_of_ble_eq_true rfl) (fun r_12 E_12 h_12 => ?_)
      obtain ⟨rfl, rfl⟩ := h_12
      refine G_iload_n (i := 1) hk dX1_pointsWonBy_15 rfl rfl ?_
      refine G_icmp_ne (tgt := 22) hk dX1_pointsWonBy_16 (by decide) (fun c_16 => ?_) (fun c_16 => ?_)
      · try simp only [gB_ne, gB_eq, Decidable.not_not] at c_16
        refine G_iinc (v := nI (x + 1)) hk dX1_pointsWonBy_22 rfl (nI_inc x) (by decide) rfl ?_
        refine G_goto (tgt := 4) hk dX1_pointsWonBy_25 (by decide) ?_
        refine G_lv (by exact And.intro rfl (And.intro rfl (And.intro rfl (And.intro rfl (trivial))))) (ih (x + 1) _ (by omega) (by omega) ?_)
        first | rw [hc, nI_i1, fa_cnt_yes (decide_eq_true (Decidable.not_not.mp c_16))] | rw [hc, nI_i1, fa_cnt_yes (decide_eq_true c_16)] | rw [hc, fa_cnt_no (decide_eq_false c_16)]
      · try simp only [gB_ne, gB_eq, Decidable.not_not] at c_16
        refine G_iinc (v := _ + 1) hk dX1_pointsWonBy_19 rfl rfl (by decide) rfl ?_
        refine G_iinc (v := nI (x + 1)) hk dX1_pointsWonBy_22 rfl (nI_inc x) (by decide) rfl ?_
        refine G_goto (tgt := 4) hk dX1_pointsWonBy_25 (by decide) ?_
        refine G_lv (by exact And.intro rfl (And.intro rfl (And.intro rfl (And.intro rfl (trivial))))) (ih (x + 1) _ (by omega) (by omega) ?_)
        first | rw [hc, nI_i1, fa_cnt_yes (decide_eq_true (Decidable.not_not.mp c_16))] | rw [hc, nI_i1, fa_cnt_yes (decide_eq_true c_16)] | rw [hc, fa_cnt_no (decide_eq_false c_16)]

set_option maxHeartbeats 4000000 in
set_option maxRecDepth 100000 in
theorem c_X1_pointsWonBy (l : Launch) (V : gV) (ad : Nat → Nat) (E : Nat → va_E) (bb n : Nat) (π : Nat → Nat) (R : Nat → Nat → Int32) (hB : bkB V ad E bb n π R) (rr : Int32) : Ct l V ad 44 44 yX1_pointsWonBy cX1_pointsWonBy 4 (some .int) { frames := 2, cells := 0, slots := 0, locals := 43 } [.ref (ad bb), .int rr] E (pI ad (pS E (nI (sWon R n rr)))) := by
  refine gCt mX1_pointsWonBy (Nat.le_of_ble_eq_true rfl) ?_
  intro K hk
  refine G_iconst (v := 0) hk dX1_pointsWonBy_0 (by decide) ?_
  refine G_istore_n (i := 2) hk dX1_pointsWonBy_1 rfl (by decide) rfl ?_
  refine G_iconst (v := 0) hk dX1_pointsWonBy_2 (by decide) ?_
  refine G_istore_n (i := 3) hk dX1_pointsWonBy_3 rfl (by decide) rfl ?_
  exact G_lv (by exact And.intro rfl (And.intro rfl (And.intro rfl (And.intro rfl (trivial))))) (lp_X1_pointsWonBy hk E bb n π R hB rr 27 0 0 (by omega) (by omega) rfl)

set_option maxHeartbeats 4000000 in
set_option maxRecDepth 100000 in
theorem c_X1_beginsRun (l : Launch) (V : gV) (ad : Nat → Nat) (E : Nat → va_E) (bb n : Nat) (π : Nat → Nat) (R : Nat → Nat → Int32) (hB : bkB V ad E bb n π R) (x : Nat) (hx : x < 26) : Ct l V ad 44 44 yX1_beginsRun cX1_beginsRun 2 (some .boolean) { frames := 2, cells := 0, slots := 0, locals := 43 } [.ref (ad bb), .int (nI x)] E (pI ad (pS E (gB (sBg R n x = true)))) := by
  refine gCt mX1_beginsRun (Nat.le_of_ble_eq_true rfl) ?_
  intro K hk
  have hz : nI x = 0 ↔ x = 0 := neq (b := 0) (by omega) (by omega)
  obtain ⟨h0, h1, h2, h3, h4, h5, h6⟩ := id hB
  refine G_iload_n (i := 1) hk dX1_beginsRun_0 rfl rfl ?_
  refine G_if_eq (tgt := 19) hk dX1_beginsRun_1 (by decide) (fun c_1 => ?_) (fun c_1 => ?_)
  · try simp only [gB_ne, gB_eq, Decidable.not_not] at c_1
    have hx0 := hz.mp c_1
    refine G_iconst (v := 1) hk dX1_beginsRun_19 (by decide) ?_
    refine G_goto (tgt := 24) hk dX1_beginsRun_20 (by decide) ?_
    refine G_zret hk dX1_beginsRun_24 (by first | rfl | exact gB_nar _) ?_
    first | exact ⟨rfl, (gB_t (decide_eq_true (Or.inl hx0))).symm⟩ | exact ⟨rfl, (gB_t (decide_eq_true (Or.inr c_16))).symm⟩ | exact ⟨rfl, (gB_f (fun q => (of_decide_eq_true q).elim hx0 (fun z => z c_16))).symm⟩
  · try simp only [gB_ne, gB_eq, Decidable.not_not] at c_1
    have hx0 : ¬ x = 0 := fun q => c_1 (hz.mpr q)
    have hm1 : nI x - 1 = nI (x - 1) := pk_sub (b := 1) (by omega)
    refine G_aload_n (i := 0) hk dX1_beginsRun_4 rfl rfl ?_
    refine G_iload_n (i := 1) hk dX1_beginsRun_5 rfl rfl ?_
    refine G_cVi hk (c_X1_winnerOf l V ad E bb n π R hB (nI x)) mX1_winnerOf vX1_winnerOf kX1_58 dX1_beginsRun_6 (by assumption) (by rfl) (by first | decide | omega) rfl (by decide) (by decide) rfl (Nat.le_of_ble_eq_true rfl) (fun r_6 E_6 h_6 => ?_)
    obtain ⟨rfl, rfl⟩ := h_6
    refine G_aload_n (i := 0) hk dX1_beginsRun_9 rfl rfl ?_
    refine G_iload_n (i := 1) hk dX1_beginsRun_10 rfl rfl ?_
    refine G_iconst (v := 1) hk dX1_beginsRun_11 (by decide) ?_
    refine G_isub hk dX1_beginsRun_12 ?_
    rw [hm1]
    refine G_cVi hk (c_X1_winnerOf l V ad E bb n π R hB (nI (x - 1))) mX1_winnerOf vX1_winnerOf kX1_58 dX1_beginsRun_13 (by assumption) (by rfl) (by first | decide | omega) rfl (by decide) (by decide) rfl (Nat.le_of_ble_eq_true rfl) (fun r_13 E_13 h_13 => ?_)
    obtain ⟨rfl, rfl⟩ := h_13
    refine G_icmp_eq (tgt := 23) hk dX1_beginsRun_16 (by decide) (fun c_16 => ?_) (fun c_16 => ?_)
    · try simp only [gB_ne, gB_eq, Decidable.not_not] at c_16
      refine G_iconst (v := 0) hk dX1_beginsRun_23 (by decide) ?_
      refine G_zret hk dX1_beginsRun_24 (by first | rfl | exact gB_nar _) ?_
      first | exact ⟨rfl, (gB_t (decide_eq_true (Or.inl hx0))).symm⟩ | exact ⟨rfl, (gB_t (decide_eq_true (Or.inr c_16))).symm⟩ | exact ⟨rfl, (gB_f (fun q => (of_decide_eq_true q).elim hx0 (fun z => z c_16))).symm⟩
    · try simp only [gB_ne, gB_eq, Decidable.not_not] at c_16
      refine G_iconst (v := 1) hk dX1_beginsRun_19 (by decide) ?_
      refine G_goto (tgt := 24) hk dX1_beginsRun_20 (by decide) ?_
      refine G_zret hk dX1_beginsRun_24 (by first | rfl | exact gB_nar _) ?_
      first | exact ⟨rfl, (gB_t (decide_eq_true (Or.inl hx0))).symm⟩ | exact ⟨rfl, (gB_t (decide_eq_true (Or.inr c_16))).symm⟩ | exact ⟨rfl, (gB_f (fun q => (of_decide_eq_true q).elim hx0 (fun z => z c_16))).symm⟩

set_option maxHeartbeats 4000000 in
set_option maxRecDepth 100000 in
theorem lp_X1_countRuns {l : Launch} {V : gV} {ad : Nat → Nat} {K : gX} (hk : gOk l { frames := 3, cells := 0, slots := 0, locals := 64 } K V cX1_countRuns 3 RX1 (some .int) yX1_countRuns.name) (E : Nat → va_E) (bb n : Nat) (π : Nat → Nat) (R : Nat → Nat → Int32) (hB : bkB V ad E bb n π R) : ∀ (k x : Nat) (c : Int32), 26 < x + k → x ≤ 26 → c = nI (fa_cnt (sBg R n) x) → G K V 3 (gQ K V 44 0 0 (pI ad (pS E (nI (sRuns R n))))) ad 44 0 0 4 [(0, .ref (ad bb)), (1, .int c), (2, .int (nI x))] [] E := by
  obtain ⟨h0, h1, h2, h3, h4, h5, h6⟩ := id hB
  intro k
  induction k with
  | zero => intro x c hx; omega
  | succ k ih =>
    intro x c hx hx26 hc
    refine G_iload_n (i := 2) hk dX1_countRuns_4 rfl rfl ?_
    refine G_bipush (v := 26) hk dX1_countRuns_5 (by decide) ?_
    refine G_icmp_ge (tgt := 27) hk dX1_countRuns_7 (by decide) (fun c_7 => ?_) (fun c_7 => ?_)
    · try simp only [gB_ne, gB_eq, Decidable.not_not] at c_7
      have hge : 26 ≤ x := (nle (a := 26) (by omega) (by omega)).mp c_7
      have hxe : x = 26 := by omega
      subst hxe
      refine G_iload_n (i := 1) hk dX1_countRuns_27 rfl rfl ?_
      refine G_iret hk dX1_countRuns_28 ?_
      exact ⟨rfl, hc⟩
    · try simp only [gB_ne, gB_eq, Decidable.not_not] at c_7
      have hlt : x < 26 := Nat.lt_of_not_le (fun q => c_7 ((nle (a := 26) (by omega) (by omega)).mpr q))
      refine G_aload_n (i := 0) hk dX1_countRuns_10 rfl rfl ?_
      refine G_iload_n (i := 2) hk dX1_countRuns_11 rfl rfl ?_
      refine G_cVi hk (c_X1_beginsRun l V ad E bb n π R hB x hlt) mX1_beginsRun vX1_beginsRun kX1_76 dX1_countRuns_12 (by assumption) (by rfl) (by first | decide | omega) rfl (by decide) (by decide) rfl (Nat.le_of_ble_eq_true rfl) (fun r_12 E_12 h_12 => ?_)
      obtain ⟨rfl, rfl⟩ := h_12
      refine G_if_eq (tgt := 21) hk dX1_countRuns_15 (by decide) (fun c_15 => ?_) (fun c_15 => ?_)
      · try simp only [gB_ne, gB_eq, Decidable.not_not] at c_15
        refine G_iinc (v := nI (x + 1)) hk dX1_countRuns_21 rfl (nI_inc x) (by decide) rfl ?_
        refine G_goto (tgt := 4) hk dX1_countRuns_24 (by decide) ?_
        refine G_lv (by exact And.intro rfl (And.intro rfl (And.intro rfl (trivial)))) (ih (x + 1) _ (by omega) (by omega) ?_)
        first | rw [hc, nI_i1, fa_cnt_yes c_15] | rw [hc, fa_cnt_no (Bool.not_eq_true _ ▸ c_15)]
      · try simp only [gB_ne, gB_eq, Decidable.not_not] at c_15
        refine G_iinc (v := _ + 1) hk dX1_countRuns_18 rfl rfl (by decide) rfl ?_
        refine G_iinc (v := nI (x + 1)) hk dX1_countRuns_21 rfl (nI_inc x) (by decide) rfl ?_
        refine G_goto (tgt := 4) hk dX1_countRuns_24 (by decide) ?_
        refine G_lv (by exact And.intro rfl (And.intro rfl (And.intro rfl (trivial)))) (ih (x + 1) _ (by omega) (by omega) ?_)
        first | rw [hc, nI_i1, fa_cnt_yes c_15] | rw [hc, fa_cnt_no (Bool.not_eq_true _ ▸ c_15)]

set_option maxHeartbeats 4000000 in
set_option maxRecDepth 100000 in
theorem c_X1_countRuns (l : Launch) (V : gV) (ad : Nat → Nat) (E : Nat → va_E) (bb n : Nat) (π : Nat → Nat) (R : Nat → Nat → Int32) (hB : bkB V ad E bb n π R) : Ct l V ad 44 44 yX1_countRuns cX1_countRuns 3 (some .int) { frames := 3, cells := 0, slots := 0, locals := 64 } [.ref (ad bb)] E (pI ad (pS E (nI (sRuns R n)))) := by
  refine gCt mX1_countRuns (Nat.le_of_ble_eq_true rfl) ?_
  intro K hk
  refine G_iconst (v := 0) hk dX1_countRuns_0 (by decide) ?_
  refine G_istore_n (i := 1) hk dX1_countRuns_1 rfl (by decide) rfl ?_
  refine G_iconst (v := 0) hk dX1_countRuns_2 (by decide) ?_
  refine G_istore_n (i := 2) hk dX1_countRuns_3 rfl (by decide) rfl ?_
  exact G_lv (by exact And.intro rfl (And.intro rfl (And.intro rfl (trivial)))) (lp_X1_countRuns hk E bb n π R hB 27 0 0 (by omega) (by omega) rfl)

set_option maxHeartbeats 4000000 in
set_option maxRecDepth 100000 in
theorem lp_X1_firstOfRun {l : Launch} {V : gV} {ad : Nat → Nat} {K : gX} (hk : gOk l { frames := 3, cells := 0, slots := 0, locals := 64 } K V cX1_firstOfRun 4 RX1 (some .int) yX1_firstOfRun.name) (E : Nat → va_E) (bb n : Nat) (π : Nat → Nat) (R : Nat → Nat → Int32) (hB : bkB V ad E bb n π R) (k0 : Nat) (hk26 : k0 < 100) : ∀ (k x : Nat) (c val : Int32), 26 < x + k → x ≤ 26 → c = nI (fa_cnt (sBg R n) x) - 1 → val = nI (sFrn (sBg R n) k0 x) → G K V 4 (gQ K V 44 0 0 (pI ad (pS E val))) ad 44 0 0 4 [(0, .ref (ad bb)), (1, .int (nI k0)), (2, .int c), (3, .int (nI x))] [] E := by
  obtain ⟨h0, h1, h2, h3, h4, h5, h6⟩ := id hB
  intro k
  induction k with
  | zero => intro x c val hx; omega
  | succ k ih =>
    intro x c val hx hx26 hc hv
    have hcl := fa_cnt_le (sBg R n) (x + 1)
    refine G_iload_n (i := 3) hk dX1_firstOfRun_4 rfl rfl ?_
    refine G_bipush (v := 26) hk dX1_firstOfRun_5 (by decide) ?_
    refine G_icmp_ge (tgt := 34) hk dX1_firstOfRun_7 (by decide) (fun c_7 => ?_) (fun c_7 => ?_)
    · try simp only [gB_ne, gB_eq, Decidable.not_not] at c_7
      have hge : 26 ≤ x := (nle (a := 26) (by omega) (by omega)).mp c_7
      have hxe : x = 26 := by omega
      subst hxe
      refine G_bipush (v := 26) hk dX1_firstOfRun_34 (by decide) ?_
      refine G_iret hk dX1_firstOfRun_36 ?_
      exact ⟨rfl, by rw [hv, sFrn_end (Nat.le_refl 26)]; rfl⟩
    · try simp only [gB_ne, gB_eq, Decidable.not_not] at c_7
      have hlt : x < 26 := Nat.lt_of_not_le (fun q => c_7 ((nle (a := 26) (by omega) (by omega)).mpr q))
      refine G_aload_n (i := 0) hk dX1_firstOfRun_10 rfl rfl ?_
      refine G_iload_n (i := 3) hk dX1_firstOfRun_11 rfl rfl ?_
      refine G_cVi hk (c_X1_beginsRun l V ad E bb n π R hB x hlt) mX1_beginsRun vX1_beginsRun kX1_76 dX1_firstOfRun_12 (by assumption) (by rfl) (by first | decide | omega) rfl (by decide) (by decide) rfl (Nat.le_of_ble_eq_true rfl) (fun r_12 E_12 h_12 => ?_)
      obtain ⟨rfl, rfl⟩ := h_12
      refine G_if_eq (tgt := 21) hk dX1_firstOfRun_15 (by decide) (fun c_15 => ?_) (fun c_15 => ?_)
      · try simp only [gB_ne, gB_eq, Decidable.not_not] at c_15
        have hc2 : c = nI (fa_cnt (sBg R n) (x + 1)) - 1 := by rw [fa_cnt_no (Bool.not_eq_true _ ▸ c_15)]; exact hc
        refine G_iload_n (i := 2) hk dX1_firstOfRun_21 rfl rfl ?_
        refine G_iload_n (i := 1) hk dX1_firstOfRun_22 rfl rfl ?_
        refine G_icmp_ne (tgt := 28) hk dX1_firstOfRun_23 (by decide) (fun c_23 => ?_) (fun c_23 => ?_)
        · try simp only [gB_ne, gB_eq, Decidable.not_not] at c_23
          refine G_iinc (v := nI (x + 1)) hk dX1_firstOfRun_28 rfl (nI_inc x) (by decide) rfl ?_
          refine G_goto (tgt := 4) hk dX1_firstOfRun_31 (by decide) ?_
          refine G_lv (by exact And.intro rfl (And.intro rfl (And.intro rfl (And.intro rfl (trivial))))) (ih (x + 1) _ val (by omega) (by omega) hc2 (by rw [hv, sFrn_miss hlt (fun q => c_23 (by rw [hc2, q]; exact nI_pred k0))]))
        · try simp only [gB_ne, gB_eq, Decidable.not_not] at c_23
          refine G_iload_n (i := 3) hk dX1_firstOfRun_26 rfl rfl ?_
          refine G_iret hk dX1_firstOfRun_27 ?_
          refine ⟨rfl, ?_⟩
          have hq : fa_cnt (sBg R n) (x + 1) = k0 + 1 := by
            have e1 : nI (fa_cnt (sBg R n) (x + 1)) - 1 = nI k0 := by first | rw [← hc2]; exact c_23 | rw [← hc2]; exact Decidable.not_not.mp c_23
            have e2 : nI (fa_cnt (sBg R n) (x + 1)) = nI (k0 + 1) := by rw [← nI_i1, ← e1, Int32.sub_add_cancel]
            exact (neq (by omega) (by omega)).mp e2
          rw [hv, sFrn_hit hlt hq]
      · try simp only [gB_ne, gB_eq, Decidable.not_not] at c_15
        skip
        refine G_iinc (v := _ + 1) hk dX1_firstOfRun_18 rfl rfl (by decide) rfl ?_
        have hc2 : c + 1 = nI (fa_cnt (sBg R n) (x + 1)) - 1 := by rw [fa_cnt_yes c_15, hc, nI_pred, Int32.sub_add_cancel]
        refine G_iload_n (i := 2) hk dX1_firstOfRun_21 rfl rfl ?_
        refine G_iload_n (i := 1) hk dX1_firstOfRun_22 rfl rfl ?_
        refine G_icmp_ne (tgt := 28) hk dX1_firstOfRun_23 (by decide) (fun c_23 => ?_) (fun c_23 => ?_)
        · try simp only [gB_ne, gB_eq, Decidable.not_not] at c_23
          refine G_iinc (v := nI (x + 1)) hk dX1_firstOfRun_28 rfl (nI_inc x) (by decide) rfl ?_
          refine G_goto (tgt := 4) hk dX1_firstOfRun_31 (by decide) ?_
          refine G_lv (by exact And.intro rfl (And.intro rfl (And.intro rfl (And.intro rfl (trivial))))) (ih (x + 1) _ val (by omega) (by omega) hc2 (by rw [hv, sFrn_miss hlt (fun q => c_23 (by rw [hc2, q]; exact nI_pred k0))]))
        · try simp only [gB_ne, gB_eq, Decidable.not_not] at c_23
          refine G_iload_n (i := 3) hk dX1_firstOfRun_26 rfl rfl ?_
          refine G_iret hk dX1_firstOfRun_27 ?_
          refine ⟨rfl, ?_⟩
          have hq : fa_cnt (sBg R n) (x + 1) = k0 + 1 := by
            have e1 : nI (fa_cnt (sBg R n) (x + 1)) - 1 = nI k0 := by first | rw [← hc2]; exact c_23 | rw [← hc2]; exact Decidable.not_not.mp c_23
            have e2 : nI (fa_cnt (sBg R n) (x + 1)) = nI (k0 + 1) := by rw [← nI_i1, ← e1, Int32.sub_add_cancel]
            exact (neq (by omega) (by omega)).mp e2
          rw [hv, sFrn_hit hlt hq]

set_option maxHeartbeats 4000000 in
set_option maxRecDepth 100000 in
theorem c_X1_firstOfRun (l : Launch) (V : gV) (ad : Nat → Nat) (E : Nat → va_E) (bb n : Nat) (π : Nat → Nat) (R : Nat → Nat → Int32) (hB : bkB V ad E bb n π R) (k0 : Nat) (hk26 : k0 < 100) : Ct l V ad 44 44 yX1_firstOfRun cX1_firstOfRun 4 (some .int) { frames := 3, cells := 0, slots := 0, locals := 64 } [.ref (ad bb), .int (nI k0)] E (pI ad (pS E (nI (sFrn (sBg R n) k0 0)))) := by
  refine gCt mX1_firstOfRun (Nat.le_of_ble_eq_true rfl) ?_
  intro K hk
  refine G_iconst (v := (-1)) hk dX1_firstOfRun_0 (by decide) ?_
  refine G_istore_n (i := 2) hk dX1_firstOfRun_1 rfl (by decide) rfl ?_
  refine G_iconst (v := 0) hk dX1_firstOfRun_2 (by decide) ?_
  refine G_istore_n (i := 3) hk dX1_firstOfRun_3 rfl (by decide) rfl ?_
  exact G_lv (by exact And.intro rfl (And.intro rfl (And.intro rfl (And.intro rfl (trivial))))) (lp_X1_firstOfRun hk E bb n π R hB k0 hk26 27 0 (-1) _ (by omega) (by omega) (show (-1 : Int32) = nI 0 - 1 by decide) rfl)

set_option maxHeartbeats 4000000 in
set_option maxRecDepth 100000 in
theorem lp_X1_shadowed {l : Launch} {V : gV} {ad : Nat → Nat} {K : gX} (hk : gOk l { frames := 3, cells := 0, slots := 0, locals := 66 } K V cX1_shadowed 3 RX1 (some .int) yX1_shadowed.name) (E : Nat → va_E) (bb n : Nat) (π : Nat → Nat) (R : Nat → Nat → Int32) (hB : bkB V ad E bb n π R) : ∀ (k r : Nat) (c : Int32), n < r + k → r ≤ n → c = sBits (fun r => decide (sWon R n (nI r) = 0)) r → G K V 3 (gQ K V 44 0 0 (pI ad (pS E (sShad R n)))) ad 44 0 0 4 [(0, .ref (ad bb)), (1, .int c), (2, .int (nI r))] [] E := by
  obtain ⟨h0, h1, h2, h3, h4, h5, h6⟩ := id hB
  intro k
  induction k with
  | zero => intro r c hr; omega
  | succ k ih =>
    intro r c hr hrn hc
    refine G_iload_n (i := 2) hk dX1_shadowed_4 rfl rfl ?_
    refine G_aload_n (i := 0) hk dX1_shadowed_5 rfl rfl ?_
    refine G_get hk fX1_25 dX1_shadowed_6 (by assumption) (by rfl) (by first | decide | omega) ?_
    refine G_icmp_ge (tgt := 32) hk dX1_shadowed_9 (by decide) (fun c_9 => ?_) (fun c_9 => ?_)
    · try simp only [gB_ne, gB_eq, Decidable.not_not] at c_9
      have hge : n ≤ r := (nle (by omega) (by omega)).mp c_9
      have hre : r = n := by omega
      subst hre
      refine G_iload_n (i := 1) hk dX1_shadowed_32 rfl rfl ?_
      refine G_iret hk dX1_shadowed_33 ?_
      exact ⟨rfl, hc⟩
    · try simp only [gB_ne, gB_eq, Decidable.not_not] at c_9
      have hlt : r < n := Nat.lt_of_not_le (fun q => c_9 ((nle (by omega) (by omega)).mpr q))
      have hwl : sWon R n (nI r) ≤ 26 := fa_cnt_le _ 26
      have hz0 : nI (sWon R n (nI r)) = 0 ↔ sWon R n (nI r) = 0 := neq (b := 0) (by omega) (by omega)
      refine G_aload_n (i := 0) hk dX1_shadowed_12 rfl rfl ?_
      refine G_iload_n (i := 2) hk dX1_shadowed_13 rfl rfl ?_
      refine G_cVi hk (c_X1_pointsWonBy l V ad E bb n π R hB (nI r)) mX1_pointsWonBy vX1_pointsWonBy kX1_79 dX1_shadowed_14 (by assumption) (by rfl) (by first | decide | omega) rfl (by decide) (by decide) rfl (Nat.le_of_ble_eq_true rfl) (fun r_14 E_14 h_14 => ?_)
      obtain ⟨rfl, rfl⟩ := h_14
      refine G_if_ne (tgt := 26) hk dX1_shadowed_17 (by decide) (fun c_17 => ?_) (fun c_17 => ?_)
      · try simp only [gB_ne, gB_eq, Decidable.not_not] at c_17
        have hz : ¬ sWon R n (nI r) = 0 := fun q => c_17 (hz0.mpr q)
        refine G_iinc (v := nI (r + 1)) hk dX1_shadowed_26 rfl (nI_inc r) (by decide) rfl ?_
        refine G_goto (tgt := 4) hk dX1_shadowed_29 (by decide) ?_
        refine G_lv (by exact And.intro rfl (And.intro rfl (And.intro rfl (trivial)))) (ih (r + 1) _ (by omega) (by omega) ?_)
        first | rw [hc, sBits, if_pos (decide_eq_true hz)] | rw [hc, sBits, if_neg (by simpa using hz)]
      · try simp only [gB_ne, gB_eq, Decidable.not_not] at c_17
        have hz : sWon R n (nI r) = 0 := hz0.mp (by first | exact c_17 | exact Decidable.not_not.mp c_17)
        refine G_iload_n (i := 1) hk dX1_shadowed_20 rfl rfl ?_
        refine G_iconst (v := 1) hk dX1_shadowed_21 (by decide) ?_
        refine G_iload_n (i := 2) hk dX1_shadowed_22 rfl rfl ?_
        refine G_ishl hk dX1_shadowed_23 ?_
        refine G_ior hk dX1_shadowed_24 ?_
        refine G_istore_n (i := 1) hk dX1_shadowed_25 rfl (by decide) rfl ?_
        refine G_iinc (v := nI (r + 1)) hk dX1_shadowed_26 rfl (nI_inc r) (by decide) rfl ?_
        refine G_goto (tgt := 4) hk dX1_shadowed_29 (by decide) ?_
        refine G_lv (by exact And.intro rfl (And.intro rfl (And.intro rfl (trivial)))) (ih (r + 1) _ (by omega) (by omega) ?_)
        first | rw [hc, sBits, if_pos (decide_eq_true hz)] | rw [hc, sBits, if_neg (by simpa using hz)]

set_option maxHeartbeats 4000000 in
set_option maxRecDepth 100000 in
theorem c_X1_shadowed (l : Launch) (V : gV) (ad : Nat → Nat) (E : Nat → va_E) (bb n : Nat) (π : Nat → Nat) (R : Nat → Nat → Int32) (hB : bkB V ad E bb n π R) : Ct l V ad 44 44 yX1_shadowed cX1_shadowed 3 (some .int) { frames := 3, cells := 0, slots := 0, locals := 66 } [.ref (ad bb)] E (pI ad (pS E (sShad R n))) := by
  refine gCt mX1_shadowed (Nat.le_of_ble_eq_true rfl) ?_
  intro K hk
  refine G_iconst (v := 0) hk dX1_shadowed_0 (by decide) ?_
  refine G_istore_n (i := 1) hk dX1_shadowed_1 rfl (by decide) rfl ?_
  refine G_iconst (v := 0) hk dX1_shadowed_2 (by decide) ?_
  refine G_istore_n (i := 2) hk dX1_shadowed_3 rfl (by decide) rfl ?_
  exact G_lv (by exact And.intro rfl (And.intro rfl (And.intro rfl (trivial)))) (lp_X1_shadowed hk E bb n π R hB (n + 1) 0 0 (by omega) (by omega) rfl)

set_option maxHeartbeats 4000000 in
set_option maxRecDepth 100000 in
theorem lp_X1_countWorth {l : Launch} {V : gV} {ad : Nat → Nat} {K : gX} (hk : gOk l { frames := 3, cells := 0, slots := 0, locals := 70 } K V cX1_countWorth 5 RX1 (some .int) yX1_countWorth.name) (E0 : Nat → va_E) (bb n : Nat) (π : Nat → Nat) (R : Nat → Nat → Int32) (hB0 : bkB V ad E0 bb n π R) (v : Int32) : ∀ (k x : Nat) (c : Int32) (E : Nat → va_E), 26 < x + k → x ≤ 26 → aX V ad bb E0 E → c = nI (fa_cnt (sCp R n v) x) → G K V 5 (gQ K V 44 0 0 (pI ad (fun z E2 => z = nI (sCw R n v) ∧ aX V ad bb E0 E2))) ad 44 0 0 4 [(0, .ref (ad bb)), (1, .int v), (2, .int c), (3, .int (nI x))] [] E := by
  intro k
  induction k with
  | zero => intro x c E hx; omega
  | succ k ih =>
    intro x c E hx hx26 hX hc
    have hB := hB0.ex hX.1
    obtain ⟨h0, h1, h2, h3, h4, h5, h6⟩ := id hB
    obtain ⟨dn, wo, dl, hA⟩ := hX.2
    refine G_iload_n (i := 3) hk dX1_countWorth_4 rfl rfl ?_
    refine G_bipush (v := 26) hk dX1_countWorth_5 (by decide) ?_
    refine G_icmp_ge (tgt := 40) hk dX1_countWorth_7 (by decide) (fun c_7 => ?_) (fun c_7 => ?_)
    · try simp only [gB_ne, gB_eq, Decidable.not_not] at c_7
      have hge : 26 ≤ x := (nle (a := 26) (by omega) (by omega)).mp c_7
      have hxe : x = 26 := by omega
      subst hxe
      refine G_iload_n (i := 2) hk dX1_countWorth_40 rfl rfl ?_
      refine G_iret hk dX1_countWorth_41 ?_
      exact ⟨hc, hX⟩
    · try simp only [gB_ne, gB_eq, Decidable.not_not] at c_7
      have hlt : x < 26 := Nat.lt_of_not_le (fun q => c_7 ((nle (a := 26) (by omega) (by omega)).mpr q))
      refine G_aload_n (i := 0) hk dX1_countWorth_10 rfl rfl ?_
      refine G_iload_n (i := 3) hk dX1_countWorth_11 rfl rfl ?_
      refine G_iconst (v := (-1)) hk dX1_countWorth_12 (by decide) ?_
      refine G_cVi hk (c_X1_worthOf l V ad E bb n π R hB dn wo dl hA 99 (-1) hw99 (nI x)) mX1_worthOf vX1_worthOf kX1_72 dX1_countWorth_13 (by assumption) (by rfl) (by first | decide | omega) rfl (by decide) (by decide) rfl (Nat.le_of_ble_eq_true rfl) (fun r_13 E_13 h_13 => ?_)
      obtain ⟨rfl, hp⟩ := h_13
      have hX2 := hX.tr hp.x
      refine G_istore hk dX1_countWorth_16 (by decide) rfl ?_
      refine G_iload hk dX1_countWorth_18 rfl ?_
      refine G_bipush (v := (-9)) hk dX1_countWorth_20 (by decide) ?_
      refine G_icmp_eq (tgt := 34) hk dX1_countWorth_22 (by decide) (fun c_22 => ?_) (fun c_22 => ?_)
      · try simp only [gB_ne, gB_eq, Decidable.not_not] at c_22
        have c_22 : sX R n x = -9 := c_22
        refine G_iinc (v := nI (x + 1)) hk dX1_countWorth_34 rfl (nI_inc x) (by decide) rfl ?_
        refine G_goto (tgt := 4) hk dX1_countWorth_37 (by decide) ?_
        refine G_lv (by exact And.intro rfl (And.intro rfl (And.intro rfl (And.intro rfl (trivial))))) (ih (x + 1) _ _ (by omega) (by omega) hX2 ?_)
        first | (rw [hc, fa_cnt_no (sCp_n1 c_22)]; done) | (rw [hc, nI_i1, fa_cnt_yes (sCp_y c_22 c_28)]; done) | (rw [hc, fa_cnt_no (sCp_n2 c_28)]; done)
      · try simp only [gB_ne, gB_eq, Decidable.not_not] at c_22
        have c_22 : ¬ sX R n x = -9 := c_22
        refine G_iload hk dX1_countWorth_25 rfl ?_
        refine G_iload_n (i := 1) hk dX1_countWorth_27 rfl rfl ?_
        refine G_icmp_lt (tgt := 34) hk dX1_countWorth_28 (by decide) (fun c_28 => ?_) (fun c_28 => ?_)
        · try simp only [gB_ne, gB_eq, Decidable.not_not] at c_28
          have c_28 : sX R n x < v := c_28
          refine G_iinc (v := nI (x + 1)) hk dX1_countWorth_34 rfl (nI_inc x) (by decide) rfl ?_
          refine G_goto (tgt := 4) hk dX1_countWorth_37 (by decide) ?_
          refine G_lv (by exact And.intro rfl (And.intro rfl (And.intro rfl (And.intro rfl (trivial))))) (ih (x + 1) _ _ (by omega) (by omega) hX2 ?_)
          first | (rw [hc, fa_cnt_no (sCp_n1 c_22)]; done) | (rw [hc, nI_i1, fa_cnt_yes (sCp_y c_22 c_28)]; done) | (rw [hc, fa_cnt_no (sCp_n2 c_28)]; done)
        · try simp only [gB_ne, gB_eq, Decidable.not_not] at c_28
          have c_28 : ¬ sX R n x < v := c_28
          refine G_iinc (v := _ + 1) hk dX1_countWorth_31 rfl rfl (by decide) rfl ?_
          refine G_iinc (v := nI (x + 1)) hk dX1_countWorth_34 rfl (nI_inc x) (by decide) rfl ?_
          refine G_goto (tgt := 4) hk dX1_countWorth_37 (by decide) ?_
          refine G_lv (by exact And.intro rfl (And.intro rfl (And.intro rfl (And.intro rfl (trivial))))) (ih (x + 1) _ _ (by omega) (by omega) hX2 ?_)
          first | (rw [hc, fa_cnt_no (sCp_n1 c_22)]; done) | (rw [hc, nI_i1, fa_cnt_yes (sCp_y c_22 c_28)]; done) | (rw [hc, fa_cnt_no (sCp_n2 c_28)]; done)

set_option maxHeartbeats 4000000 in
set_option maxRecDepth 100000 in
theorem c_X1_countWorth (l : Launch) (V : gV) (ad : Nat → Nat) (E : Nat → va_E) (bb n : Nat) (π : Nat → Nat) (R : Nat → Nat → Int32) (hB : bkB V ad E bb n π R) (dn wo : Int32) (dl : Nat → Int32) (hA : bkA V ad E bb dn wo dl) (v : Int32) : Ct l V ad 44 44 yX1_countWorth cX1_countWorth 5 (some .int) { frames := 3, cells := 0, slots := 0, locals := 70 } [.ref (ad bb), .int v] E (pI ad (fun z E2 => z = nI (sCw R n v) ∧ aX V ad bb E E2)) := by
  refine gCt mX1_countWorth (Nat.le_of_ble_eq_true rfl) ?_
  intro K hk
  refine G_iconst (v := 0) hk dX1_countWorth_0 (by decide) ?_
  refine G_istore_n (i := 2) hk dX1_countWorth_1 rfl (by decide) rfl ?_
  refine G_iconst (v := 0) hk dX1_countWorth_2 (by decide) ?_
  refine G_istore_n (i := 3) hk dX1_countWorth_3 rfl (by decide) rfl ?_
  exact G_lv (by exact And.intro rfl (And.intro rfl (And.intro rfl (And.intro rfl (trivial))))) (lp_X1_countWorth hk E bb n π R hB v 27 0 0 E (by omega) (by omega) ⟨exA.rf, dn, wo, dl, hA⟩ rfl)

set_option maxHeartbeats 4000000 in
set_option maxRecDepth 100000 in
theorem c_X1_countDenied (l : Launch) (V : gV) (ad : Nat → Nat) (E : Nat → va_E) (bb n : Nat) (π : Nat → Nat) (R : Nat → Nat → Int32) (hB : bkB V ad E bb n π R) (dn wo : Int32) (dl : Nat → Int32) (hA : bkA V ad E bb dn wo dl) : Ct l V ad 44 44 yX1_countDenied cX1_countDenied 1 (some .int) { frames := 4, cells := 0, slots := 0, locals := 94 } [.ref (ad bb)] E (pI ad (fun z E2 => z = 26 - nI (sCw R n 0) ∧ aX V ad bb E E2)) := by
  refine gCt mX1_countDenied (Nat.le_of_ble_eq_true rfl) ?_
  intro K hk
  obtain ⟨h0, h1, h2, h3, h4, h5, h6⟩ := id hB
  refine G_bipush (v := 26) hk dX1_countDenied_0 (by decide) ?_
  refine G_aload_n (i := 0) hk dX1_countDenied_2 rfl rfl ?_
  refine G_iconst (v := 0) hk dX1_countDenied_3 (by decide) ?_
  refine G_cVi hk (c_X1_countWorth l V ad E bb n π R hB dn wo dl hA 0) mX1_countWorth vX1_countWorth kX1_69 dX1_countDenied_4 (by assumption) (by rfl) (by first | decide | omega) rfl (by decide) (by decide) rfl (Nat.le_of_ble_eq_true rfl) (fun r_4 E_4 h_4 => ?_)
  obtain ⟨rfl, hp⟩ := h_4
  refine G_isub hk dX1_countDenied_7 ?_
  refine G_iret hk dX1_countDenied_8 ?_
  exact ⟨rfl, hp⟩

set_option maxHeartbeats 4000000 in
set_option maxRecDepth 100000 in
theorem lp_X1_worthTogether {l : Launch} {V : gV} {ad : Nat → Nat} {K : gX} (hk : gOk l { frames := 3, cells := 0, slots := 0, locals := 70 } K V cX1_worthTogether 4 RX1 (some .int) yX1_worthTogether.name) (E0 : Nat → va_E) (bb n : Nat) (π : Nat → Nat) (R : Nat → Nat → Int32) (hB0 : bkB V ad E0 bb n π R) : ∀ (k x : Nat) (c : Int32) (E : Nat → va_E), 26 < x + k → x ≤ 26 → aX V ad bb E0 E → c = bx_sum (fun y => if sX R n y = -9 then 0 else sX R n y) x → G K V 4 (gQ K V 44 0 0 (pI ad (fun z E2 => z = sSum R n ∧ aX V ad bb E0 E2))) ad 44 0 0 4 [(0, .ref (ad bb)), (1, .int c), (2, .int (nI x))] [] E := by
  intro k
  induction k with
  | zero => intro x c E hx; omega
  | succ k ih =>
    intro x c E hx hx26 hX hc
    have hB := hB0.ex hX.1
    obtain ⟨h0, h1, h2, h3, h4, h5, h6⟩ := id hB
    obtain ⟨dn, wo, dl, hA⟩ := hX.2
    refine G_iload_n (i := 2) hk dX1_worthTogether_4 rfl rfl ?_
    refine G_bipush (v := 26) hk dX1_worthTogether_5 (by decide) ?_
    refine G_icmp_ge (tgt := 33) hk dX1_worthTogether_7 (by decide) (fun c_7 => ?_) (fun c_7 => ?_)
    · try simp only [gB_ne, gB_eq, Decidable.not_not] at c_7
      have hge : 26 ≤ x := (nle (a := 26) (by omega) (by omega)).mp c_7
      have hxe : x = 26 := by omega
      subst hxe
      refine G_iload_n (i := 1) hk dX1_worthTogether_33 rfl rfl ?_
      refine G_iret hk dX1_worthTogether_34 ?_
      exact ⟨hc, hX⟩
    · try simp only [gB_ne, gB_eq, Decidable.not_not] at c_7
      have hlt : x < 26 := Nat.lt_of_not_le (fun q => c_7 ((nle (a := 26) (by omega) (by omega)).mpr q))
      refine G_aload_n (i := 0) hk dX1_worthTogether_10 rfl rfl ?_
      refine G_iload_n (i := 2) hk dX1_worthTogether_11 rfl rfl ?_
      refine G_iconst (v := (-1)) hk dX1_worthTogether_12 (by decide) ?_
      refine G_cVi hk (c_X1_worthOf l V ad E bb n π R hB dn wo dl hA 99 (-1) hw99 (nI x)) mX1_worthOf vX1_worthOf kX1_72 dX1_worthTogether_13 (by assumption) (by rfl) (by first | decide | omega) rfl (by decide) (by decide) rfl (Nat.le_of_ble_eq_true rfl) (fun r_13 E_13 h_13 => ?_)
      obtain ⟨rfl, hp⟩ := h_13
      have hX2 := hX.tr hp.x
      refine G_istore_n (i := 3) hk dX1_worthTogether_16 rfl (by decide) rfl ?_
      refine G_iload_n (i := 3) hk dX1_worthTogether_17 rfl rfl ?_
      refine G_bipush (v := (-9)) hk dX1_worthTogether_18 (by decide) ?_
      refine G_icmp_eq (tgt := 27) hk dX1_worthTogether_20 (by decide) (fun c_20 => ?_) (fun c_20 => ?_)
      · try simp only [gB_ne, gB_eq, Decidable.not_not] at c_20
        have c_20 : sX R n x = -9 := c_20
        refine G_iinc (v := nI (x + 1)) hk dX1_worthTogether_27 rfl (nI_inc x) (by decide) rfl ?_
        refine G_goto (tgt := 4) hk dX1_worthTogether_30 (by decide) ?_
        refine G_lv (by exact And.intro rfl (And.intro rfl (And.intro rfl (trivial)))) (ih (x + 1) _ _ (by omega) (by omega) hX2 ?_)
        first
          | (rw [hc]; show _ = _ + (if sX R n x = -9 then 0 else sX R n x); rw [if_pos c_20, Int32.add_zero]; done)
          | (rw [hc]; show _ = _ + (if sX R n x = -9 then 0 else sX R n x); rw [if_neg c_20]; rfl)
      · try simp only [gB_ne, gB_eq, Decidable.not_not] at c_20
        have c_20 : ¬ sX R n x = -9 := c_20
        refine G_iload_n (i := 1) hk dX1_worthTogether_23 rfl rfl ?_
        refine G_iload_n (i := 3) hk dX1_worthTogether_24 rfl rfl ?_
        refine G_iadd hk dX1_worthTogether_25 ?_
        refine G_istore_n (i := 1) hk dX1_worthTogether_26 rfl (by decide) rfl ?_
        refine G_iinc (v := nI (x + 1)) hk dX1_worthTogether_27 rfl (nI_inc x) (by decide) rfl ?_
        refine G_goto (tgt := 4) hk dX1_worthTogether_30 (by decide) ?_
        refine G_lv (by exact And.intro rfl (And.intro rfl (And.intro rfl (trivial)))) (ih (x + 1) _ _ (by omega) (by omega) hX2 ?_)
        first
          | (rw [hc]; show _ = _ + (if sX R n x = -9 then 0 else sX R n x); rw [if_pos c_20, Int32.add_zero]; done)
          | (rw [hc]; show _ = _ + (if sX R n x = -9 then 0 else sX R n x); rw [if_neg c_20]; rfl)

set_option maxHeartbeats 4000000 in
set_option maxRecDepth 100000 in
theorem c_X1_worthTogether (l : Launch) (V : gV) (ad : Nat → Nat) (E : Nat → va_E) (bb n : Nat) (π : Nat → Nat) (R : Nat → Nat → Int32) (hB : bkB V ad E bb n π R) (dn wo : Int32) (dl : Nat → Int32) (hA : bkA V ad E bb dn wo dl) : Ct l V ad 44 44 yX1_worthTogether cX1_worthTogether 4 (some .int) { frames := 3, cells := 0, slots := 0, locals := 70 } [.ref (ad bb)] E (pI ad (fun z E2 => z = sSum R n ∧ aX V ad bb E E2)) := by
  refine gCt mX1_worthTogether (Nat.le_of_ble_eq_true rfl) ?_
  intro K hk
  refine G_iconst (v := 0) hk dX1_worthTogether_0 (by decide) ?_
  refine G_istore_n (i := 1) hk dX1_worthTogether_1 rfl (by decide) rfl ?_
  refine G_iconst (v := 0) hk dX1_worthTogether_2 (by decide) ?_
  refine G_istore_n (i := 2) hk dX1_worthTogether_3 rfl (by decide) rfl ?_
  exact G_lv (by exact And.intro rfl (And.intro rfl (And.intro rfl (trivial)))) (lp_X1_worthTogether hk E bb n π R hB 27 0 0 E (by omega) (by omega) ⟨exA.rf, dn, wo, dl, hA⟩ rfl)

set_option maxHeartbeats 4000000 in
set_option maxRecDepth 100000 in
theorem lp_X1_isNeeded {l : Launch} {V : gV} {ad : Nat → Nat} {K : gX} (hk : gOk l { frames := 3, cells := 0, slots := 0, locals := 70 } K V cX1_isNeeded 3 RX1 (some .boolean) yX1_isNeeded.name) (E0 : Nat → va_E) (bb n : Nat) (π : Nat → Nat) (R : Nat → Nat → Int32) (hB0 : bkB V ad E0 bb n π R) (r0 : Nat) (hr0 : r0 < n) : ∀ (k x : Nat) (E : Nat → va_E), 26 < x + k → x ≤ 26 → aX V ad bb E0 E → fa_cnt (fun y => decide (sX R n y ≠ (sAn R r0 n 0 (nI y)).1)) x = 0 → G K V 3 (gQ K V 44 0 0 (pI ad (fun z E2 => z = gB (sNeed R n r0 = true) ∧ aX V ad bb E0 E2))) ad 44 0 0 2 [(0, .ref (ad bb)), (1, .int (nI r0)), (2, .int (nI x))] [] E := by
  intro k
  induction k with
  | zero => intro x E hx; omega
  | succ k ih =>
    intro x E hx hx26 hX hc
    have hB := hB0.ex hX.1
    obtain ⟨h0, h1, h2, h3, h4, h5, h6⟩ := id hB
    obtain ⟨dn, wo, dl, hA⟩ := hX.2
    refine G_iload_n (i := 2) hk dX1_isNeeded_2 rfl rfl ?_
    refine G_bipush (v := 26) hk dX1_isNeeded_3 (by decide) ?_
    refine G_icmp_ge (tgt := 31) hk dX1_isNeeded_5 (by decide) (fun c_5 => ?_) (fun c_5 => ?_)
    · try simp only [gB_ne, gB_eq, Decidable.not_not] at c_5
      have hge : 26 ≤ x := (nle (a := 26) (by omega) (by omega)).mp c_5
      have hxe : x = 26 := by omega
      subst hxe
      refine G_iconst (v := 0) hk dX1_isNeeded_31 (by decide) ?_
      refine G_zret hk dX1_isNeeded_32 (by first | rfl | exact gB_nar _) ?_
      exact ⟨(gB_f (fun q => by have := of_decide_eq_true q; omega)).symm, hX⟩
    · try simp only [gB_ne, gB_eq, Decidable.not_not] at c_5
      have hlt : x < 26 := Nat.lt_of_not_le (fun q => c_5 ((nle (a := 26) (by omega) (by omega)).mpr q))
      refine G_aload_n (i := 0) hk dX1_isNeeded_8 rfl rfl ?_
      refine G_iload_n (i := 2) hk dX1_isNeeded_9 rfl rfl ?_
      refine G_iconst (v := (-1)) hk dX1_isNeeded_10 (by decide) ?_
      refine G_cVi hk (c_X1_worthOf l V ad E bb n π R hB dn wo dl hA 99 (-1) hw99 (nI x)) mX1_worthOf vX1_worthOf kX1_72 dX1_isNeeded_11 (by assumption) (by rfl) (by first | decide | omega) rfl (by decide) (by decide) rfl (Nat.le_of_ble_eq_true rfl) (fun r_11 E_11 h_11 => ?_)
      obtain ⟨rfl, hp⟩ := h_11
      have hX2 := hX.tr hp.x
      have hB2 := hB0.ex hX2.1
      obtain ⟨h20, -⟩ := id hB2
      obtain ⟨dn2, wo2, dl2, hA2⟩ := hX2.2
      refine G_aload_n (i := 0) hk dX1_isNeeded_14 rfl rfl ?_
      refine G_iload_n (i := 2) hk dX1_isNeeded_15 rfl rfl ?_
      refine G_iload_n (i := 1) hk dX1_isNeeded_16 rfl rfl ?_
      refine G_cVi hk (c_X1_worthOf l V ad E_11 bb n π R hB2 dn2 wo2 dl2 hA2 r0 (nI r0) (fun r h => neq (by omega) (by omega)) (nI x)) mX1_worthOf vX1_worthOf kX1_72 dX1_isNeeded_17 (by assumption) (by rfl) (by first | decide | omega) rfl (by decide) (by decide) rfl (Nat.le_of_ble_eq_true rfl) (fun r_17 E_17 h_17 => ?_)
      obtain ⟨rfl, hp3⟩ := h_17
      have hX3 := hX2.tr hp3.x
      refine G_icmp_eq (tgt := 25) hk dX1_isNeeded_20 (by decide) (fun c_20 => ?_) (fun c_20 => ?_)
      · try simp only [gB_ne, gB_eq, Decidable.not_not] at c_20
        refine G_iinc (v := nI (x + 1)) hk dX1_isNeeded_25 rfl (nI_inc x) (by decide) rfl ?_
        refine G_goto (tgt := 2) hk dX1_isNeeded_28 (by decide) ?_
        exact G_lv (by exact And.intro rfl (And.intro rfl (And.intro rfl (trivial)))) (ih (x + 1) _ (by omega) (by omega) hX3 (by rw [fa_cnt_no (decide_eq_false (fun q => q c_20))]; exact hc))
      · try simp only [gB_ne, gB_eq, Decidable.not_not] at c_20
        refine G_iconst (v := 1) hk dX1_isNeeded_23 (by decide) ?_
        refine G_zret hk dX1_isNeeded_24 (by first | rfl | exact gB_nar _) ?_
        refine ⟨(gB_t (decide_eq_true ?_)).symm, hX3⟩
        have hm := fa_cnt_mono (fun y => decide (sX R n y ≠ (sAn R r0 n 0 (nI y)).1)) (a := x + 1) (b := 26) (by omega)
        rw [fa_cnt_yes (decide_eq_true c_20)] at hm
        omega

set_option maxHeartbeats 4000000 in
set_option maxRecDepth 100000 in
theorem c_X1_isNeeded (l : Launch) (V : gV) (ad : Nat → Nat) (E : Nat → va_E) (bb n : Nat) (π : Nat → Nat) (R : Nat → Nat → Int32) (hB : bkB V ad E bb n π R) (dn wo : Int32) (dl : Nat → Int32) (hA : bkA V ad E bb dn wo dl) (r0 : Nat) (hr0 : r0 < n) : Ct l V ad 44 44 yX1_isNeeded cX1_isNeeded 3 (some .boolean) { frames := 3, cells := 0, slots := 0, locals := 70 } [.ref (ad bb), .int (nI r0)] E (pI ad (fun z E2 => z = gB (sNeed R n r0 = true) ∧ aX V ad bb E E2)) := by
  refine gCt mX1_isNeeded (Nat.le_of_ble_eq_true rfl) ?_
  intro K hk
  refine G_iconst (v := 0) hk dX1_isNeeded_0 (by decide) ?_
  refine G_istore_n (i := 2) hk dX1_isNeeded_1 rfl (by decide) rfl ?_
  exact G_lv (by exact And.intro rfl (And.intro rfl (And.intro rfl (trivial)))) (lp_X1_isNeeded hk E bb n π R hB r0 hr0 27 0 E (by omega) (by omega) ⟨exA.rf, dn, wo, dl, hA⟩ rfl)

set_option maxHeartbeats 4000000 in
set_option maxRecDepth 100000 in
theorem lp_X1_needed {l : Launch} {V : gV} {ad : Nat → Nat} {K : gX} (hk : gOk l { frames := 4, cells := 0, slots := 0, locals := 92 } K V cX1_needed 3 RX1 (some .int) yX1_needed.name) (E0 : Nat → va_E) (bb n : Nat) (π : Nat → Nat) (R : Nat → Nat → Int32) (hB0 : bkB V ad E0 bb n π R) : ∀ (k r : Nat) (c : Int32) (E : Nat → va_E), n < r + k → r ≤ n → aX V ad bb E0 E → c = sBits (sNeed R n) r → G K V 3 (gQ K V 44 0 0 (pI ad (fun z E2 => z = sNeeds R n ∧ aX V ad bb E0 E2))) ad 44 0 0 4 [(0, .ref (ad bb)), (1, .int c), (2, .int (nI r))] [] E := by
  intro k
  induction k with
  | zero => intro r c E hr; omega
  | succ k ih =>
    intro r c E hr hrn hX hc
    have hB := hB0.ex hX.1
    obtain ⟨h0, h1, h2, h3, h4, h5, h6⟩ := id hB
    obtain ⟨dn, wo, dl, hA⟩ := hX.2
    refine G_iload_n (i := 2) hk dX1_needed_4 rfl rfl ?_
    refine G_aload_n (i := 0) hk dX1_needed_5 rfl rfl ?_
    refine G_get hk fX1_25 dX1_needed_6 (by assumption) (by rfl) (by first | decide | omega) ?_
    refine G_icmp_ge (tgt := 32) hk dX1_needed_9 (by decide) (fun c_9 => ?_) (fun c_9 => ?_)
    · try simp only [gB_ne, gB_eq, Decidable.not_not] at c_9
      have hge : n ≤ r := (nle (by omega) (by omega)).mp c_9
      have hre : r = n := by omega
      subst hre
      refine G_iload_n (i := 1) hk dX1_needed_32 rfl rfl ?_
      refine G_iret hk dX1_needed_33 ?_
      exact ⟨hc, hX⟩
    · try simp only [gB_ne, gB_eq, Decidable.not_not] at c_9
      have hlt : r < n := Nat.lt_of_not_le (fun q => c_9 ((nle (by omega) (by omega)).mpr q))
      refine G_aload_n (i := 0) hk dX1_needed_12 rfl rfl ?_
      refine G_iload_n (i := 2) hk dX1_needed_13 rfl rfl ?_
      refine G_cVi hk (c_X1_isNeeded l V ad E bb n π R hB dn wo dl hA r hlt) mX1_isNeeded vX1_isNeeded kX1_82 dX1_needed_14 (by assumption) (by rfl) (by first | decide | omega) rfl (by decide) (by decide) rfl (Nat.le_of_ble_eq_true rfl) (fun r_14 E_14 h_14 => ?_)
      obtain ⟨rfl, hp⟩ := h_14
      have hX2 := hX.tr hp
      refine G_if_eq (tgt := 26) hk dX1_needed_17 (by decide) (fun c_17 => ?_) (fun c_17 => ?_)
      · try simp only [gB_ne, gB_eq, Decidable.not_not] at c_17
        refine G_iinc (v := nI (r + 1)) hk dX1_needed_26 rfl (nI_inc r) (by decide) rfl ?_
        refine G_goto (tgt := 4) hk dX1_needed_29 (by decide) ?_
        refine G_lv (by exact And.intro rfl (And.intro rfl (And.intro rfl (trivial)))) (ih (r + 1) _ _ (by omega) (by omega) hX2 ?_)
        first | (rw [hc, sBits, if_pos c_17]; done) | (rw [hc, sBits, if_neg c_17]; done)
      · try simp only [gB_ne, gB_eq, Decidable.not_not] at c_17
        refine G_iload_n (i := 1) hk dX1_needed_20 rfl rfl ?_
        refine G_iconst (v := 1) hk dX1_needed_21 (by decide) ?_
        refine G_iload_n (i := 2) hk dX1_needed_22 rfl rfl ?_
        refine G_ishl hk dX1_needed_23 ?_
        refine G_ior hk dX1_needed_24 ?_
        refine G_istore_n (i := 1) hk dX1_needed_25 rfl (by decide) rfl ?_
        refine G_iinc (v := nI (r + 1)) hk dX1_needed_26 rfl (nI_inc r) (by decide) rfl ?_
        refine G_goto (tgt := 4) hk dX1_needed_29 (by decide) ?_
        refine G_lv (by exact And.intro rfl (And.intro rfl (And.intro rfl (trivial)))) (ih (r + 1) _ _ (by omega) (by omega) hX2 ?_)
        first | (rw [hc, sBits, if_pos c_17]; done) | (rw [hc, sBits, if_neg c_17]; done)

set_option maxHeartbeats 4000000 in
set_option maxRecDepth 100000 in
theorem c_X1_needed (l : Launch) (V : gV) (ad : Nat → Nat) (E : Nat → va_E) (bb n : Nat) (π : Nat → Nat) (R : Nat → Nat → Int32) (hB : bkB V ad E bb n π R) (dn wo : Int32) (dl : Nat → Int32) (hA : bkA V ad E bb dn wo dl) : Ct l V ad 44 44 yX1_needed cX1_needed 3 (some .int) { frames := 4, cells := 0, slots := 0, locals := 92 } [.ref (ad bb)] E (pI ad (fun z E2 => z = sNeeds R n ∧ aX V ad bb E E2)) := by
  refine gCt mX1_needed (Nat.le_of_ble_eq_true rfl) ?_
  intro K hk
  obtain ⟨-, -, -, h3, -⟩ := id hB
  refine G_iconst (v := 0) hk dX1_needed_0 (by decide) ?_
  refine G_istore_n (i := 1) hk dX1_needed_1 rfl (by decide) rfl ?_
  refine G_iconst (v := 0) hk dX1_needed_2 (by decide) ?_
  refine G_istore_n (i := 2) hk dX1_needed_3 rfl (by decide) rfl ?_
  exact G_lv (by exact And.intro rfl (And.intro rfl (And.intro rfl (trivial)))) (lp_X1_needed hk E bb n π R hB (n + 1) 0 0 E (by omega) (by omega) ⟨exA.rf, dn, wo, dl, hA⟩ rfl)
end
section
/-! the book's order changed: places by σ -/
def exB (bb : Nat) (E E2 : Nat → va_E) : Prop := ∀ k, (k < bb ∨ bb + 10 < k) → E2 k = E k
def bkM (V : gV) (ad : Nat → Nat) (bb : Nat) (E E2 : Nat → va_E) (n : Nat) (Rn : Nat → Nat → Int32) : Prop := (∃ (π : Nat → Nat) (R : Nat → Nat → Int32), bkB V ad E2 bb n π R ∧ ∀ i, i < n → R i = Rn i) ∧ E2 (bb + 2) = E (bb + 2) ∧ E2 (bb + 3) = E (bb + 3) ∧ exB bb E E2
theorem bk_perm {V : gV} {ad : Nat → Nat} {E E2 : Nat → va_E} {bb n n2 : Nat} {π σ : Nat → Nat} {R : Nat → Nat → Int32} (hB : bkB V ad E bb n π R) (h0 : E2 bb = .inr (1, [.ref (ad (bb + 1)), .ref (ad (bb + 2)), .int (nI n2)])) (h1 : E2 (bb + 1) = gRl V 7 (fun i => some (ad (bb + 4 + π (σ i))))) (hx : ∀ k, k ≠ bb → k ≠ bb + 1 → E2 k = E k) (hn : n2 ≤ 7) (hs : ∀ i, i < 7 → σ i < 7) (hi : ∀ i j, i < 7 → j < 7 → σ i = σ j → i = j) : bkB V ad E2 bb n2 (fun i => π (σ i)) (fun i => R (σ i)) := by
  obtain ⟨a0, a1, a2, a3, a4, a5, a6⟩ := hB
  exact ⟨h0, h1, fun i h => (hx _ (by omega) (by omega)).trans (a2 _ (hs i h)), hn, fun i h => a4 _ (hs i h), fun i j h h' e => hi i j h h' (a5 _ _ (hs i h) (hs j h') e), a6⟩
def sSwap (R : Nat → Nat → Int32) (r i : Nat) : Nat → Int32 := if i = r then R (r + 1) else if i = r + 1 then R r else R i
def sDel (R : Nat → Nat → Int32) (r i : Nat) : Nat → Int32 := if i < r then R i else R (i + 1)
def sIns (R : Nat → Nat → Int32) (k : Nat) (q : Nat → Int32) (i : Nat) : Nat → Int32 := if i < k then R i else if i = k then q else R (i - 1)
theorem va_arr {ad : Nat → Nat} {bb : Nat} {A B : Nat → Nat} {j p : Nat} (h : ∀ i, B i = if i = j then p else A i) : va_up (fun i => some (ad (bb + 4 + A i))) j (some (ad (bb + 4 + p))) = fun i => some (ad (bb + 4 + B i)) := by
  funext i
  unfold va_up
  rw [h i]
  by_cases hi : i = j
  · rw [if_pos hi, if_pos hi]
  · rw [if_neg hi, if_neg hi]
end
section
set_option maxHeartbeats 4000000 in
set_option maxRecDepth 100000 in
theorem c_X1_changePlaces (l : Launch) (V : gV) (ad : Nat → Nat) (E : Nat → va_E) (bb n : Nat) (π : Nat → Nat) (R : Nat → Nat → Int32) (hB : bkB V ad E bb n π R) (r : Nat) (hr : r + 1 < n) : Ct l V ad 44 44 yX1_changePlaces cX1_changePlaces 3 none { frames := 1, cells := 0, slots := 0, locals := 21 } [.ref (ad bb), .int (nI r)] E (pV ad (fun E2 => bkM V ad bb E E2 n (sSwap R r))) := by
  refine gCt mX1_changePlaces (Nat.le_of_ble_eq_true rfl) ?_
  intro K hk
  obtain ⟨h0, h1, h2, h3, h4, h5, h6⟩ := id hB
  have hr0 := h2 r (by omega)
  have hr1 := h2 (r + 1) (by omega)
  have p0 := h4 r (by omega)
  have p1 := h4 (r + 1) (by omega)
  refine G_aload_n (i := 0) hk dX1_changePlaces_0 rfl rfl ?_
  refine G_iload_n (i := 1) hk dX1_changePlaces_1 rfl rfl ?_
  refine G_cVi hk (c_X1_isPair l V ad E bb n π R hB (nI r)) mX1_isPair vX1_isPair kX1_52 dX1_changePlaces_2 (by assumption) (by rfl) (by first | decide | omega) rfl (by decide) (by decide) rfl (Nat.le_of_ble_eq_true rfl) (fun r_2 E_2 h_2 => ?_)
  obtain ⟨rfl, rfl⟩ := h_2
  refine G_if_ne (tgt := 9) hk dX1_changePlaces_5 (by decide) (fun c_5 => ?_) (fun c_5 => ?_)
  · try simp only [gB_ne, gB_eq, Decidable.not_not] at c_5
    refine G_aload_n (i := 0) hk dX1_changePlaces_9 rfl rfl ?_
    refine G_get hk fX1_11 dX1_changePlaces_10 (by assumption) (by rfl) (by first | decide | omega) ?_
    refine G_iload_n (i := 1) hk dX1_changePlaces_13 rfl rfl ?_
    refine G_aaldRlX (j := r) hk dX1_changePlaces_14 (by assumption) rfl (by omega) (by decide) (by rfl) (by first | decide | omega) ?_
    refine G_astore_n (i := 2) hk dX1_changePlaces_15 rfl (by decide) rfl ?_
    refine G_aload_n (i := 0) hk dX1_changePlaces_16 rfl rfl ?_
    refine G_get hk fX1_11 dX1_changePlaces_17 (by assumption) (by rfl) (by first | decide | omega) ?_
    refine G_iload_n (i := 1) hk dX1_changePlaces_20 rfl rfl ?_
    refine G_aload_n (i := 0) hk dX1_changePlaces_21 rfl rfl ?_
    refine G_get hk fX1_11 dX1_changePlaces_22 (by assumption) (by rfl) (by first | decide | omega) ?_
    refine G_iload_n (i := 1) hk dX1_changePlaces_25 rfl rfl ?_
    refine G_iconst (v := 1) hk dX1_changePlaces_26 (by decide) ?_
    refine G_iadd hk dX1_changePlaces_27 ?_
    refine G_aaldRlX (j := (r + 1)) hk dX1_changePlaces_28 (by assumption) (nI_i1 r) (by omega) (by decide) (by rfl) (by first | decide | omega) ?_
    refine G_aastRlX (j := r) hk dX1_changePlaces_29 (by assumption) rfl (by omega) (by decide) (by first | decide | omega) (by assumption) (by first | decide | omega) ?_
    generalize hE1 : va_up E (bb + 1) (gRl V 7 (va_up (fun i => some (ad (bb + 4 + π i))) r (some (ad (bb + 4 + π (r + 1)))))) = E1
    have e0 := (show E1 bb = E bb by rw [← hE1, va_up_ne _ _ (by omega)]).trans h0
    have e1 := (congrFun hE1.symm (bb + 1)).trans (va_up_self _ _ _)
    have er : E1 (bb + 4 + π r) = rC (R r) := by rw [← hE1, va_up_ne _ _ (by omega)]; exact hr0
    refine G_aload_n (i := 0) hk dX1_changePlaces_30 rfl rfl ?_
    refine G_get hk fX1_11 dX1_changePlaces_31 (by assumption) (by rfl) (by first | decide | omega) ?_
    refine G_iload_n (i := 1) hk dX1_changePlaces_34 rfl rfl ?_
    refine G_iconst (v := 1) hk dX1_changePlaces_35 (by decide) ?_
    refine G_iadd hk dX1_changePlaces_36 ?_
    refine G_aload_n (i := 2) hk dX1_changePlaces_37 rfl rfl ?_
    refine G_aastRlX (j := (r + 1)) hk dX1_changePlaces_38 (by assumption) (nI_i1 r) (by omega) (by decide) (by first | decide | omega) (by assumption) (by first | decide | omega) ?_
    refine G_vret hk dX1_changePlaces_39 ?_
    rw [← hE1, va_up_up, va_arr (B := fun i => π (if i = r then r + 1 else i)) (fun i => by by_cases hi : i = r <;> simp [hi]), va_arr (B := fun i => π (if i = r + 1 then r else if i = r then r + 1 else i)) (fun i => by by_cases hi : i = r + 1 <;> by_cases hj : i = r <;> simp [hi, hj])]
    refine ⟨⟨_, _, bk_perm (σ := fun i => if i = r + 1 then r else if i = r then r + 1 else i) hB (by rw [va_up_ne _ _ (by omega)]; exact h0) (va_up_self _ _ _) (fun k q1 q2 => va_up_ne _ _ q2) h3 (fun i hi => by (try dsimp only); split <;> (try split) <;> omega) (fun i j hi hj => by (try dsimp only); intro q; split at q <;> split at q <;> (try split at q) <;> (try split at q) <;> omega), fun i hi => ?_⟩, va_up_ne _ _ (by omega), va_up_ne _ _ (by omega), fun k hq => va_up_ne _ _ (by omega)⟩
    unfold sSwap
    by_cases ha : i = r
    · simp [ha]
    · by_cases hb : i = r + 1 <;> simp [ha, hb]
  · try simp only [gB_ne, gB_eq, Decidable.not_not] at c_5
    exact absurd ⟨nI_pos' (by omega), by rw [show nI n - 1 = nI (n - 1) from pk_sub (b := 1) (by omega)]; exact (nlt (by omega) (by omega)).mpr (by omega)⟩ c_5

set_option maxHeartbeats 4000000 in
set_option maxRecDepth 100000 in
theorem lp_X1_takeAway {l : Launch} {V : gV} {ad : Nat → Nat} {K : gX} (hk : gOk l { frames := 1, cells := 0, slots := 0, locals := 21 } K V cX1_takeAway 4 RX1 none yX1_takeAway.name) (E : Nat → va_E) (bb n : Nat) (π : Nat → Nat) (R : Nat → Nat → Int32) (hB : bkB V ad E bb n π R) (k0 : Nat) (hk0 : k0 < n) : ∀ (k r : Nat) (E1 : Nat → va_E), n - 1 < r + k → k0 ≤ r → r ≤ n - 1 → E1 = va_up E (bb + 1) (gRl V 7 (fun i => some (ad (bb + 4 + (fun i => π (if i < k0 then i else if i < r then i + 1 else i)) i)))) → G K V 4 (gQ K V 44 0 0 (pV ad (fun E2 => bkM V ad bb E E2 (n - 1) (sDel R k0)))) ad 44 0 0 18 [(0, .ref (ad bb)), (1, .int (nI k0)), (2, .ref (ad (bb + 4 + π k0))), (3, .int (nI r))] [] E1 := by
  obtain ⟨h0, h1, h2, h3, h4, h5, h6⟩ := id hB
  intro k
  induction k with
  | zero => intro r E1 hr; omega
  | succ k ih =>
    intro r E1 hr hkr hrn hE1
    have e0 := (show E1 bb = E bb by rw [hE1, va_up_ne _ _ (by omega)]).trans h0
    have e1 := (congrFun hE1 (bb + 1)).trans (va_up_self _ _ _)
    have hcnt : nI n - 1 = nI (n - 1) := pk_sub (b := 1) (by omega)
    refine G_iload_n (i := 3) hk dX1_takeAway_18 rfl rfl ?_
    refine G_aload_n (i := 0) hk dX1_takeAway_19 rfl rfl ?_
    refine G_get hk fX1_25 dX1_takeAway_20 (by assumption) (by rfl) (by first | decide | omega) ?_
    refine G_iconst (v := 1) hk dX1_takeAway_23 (by decide) ?_
    refine G_isub hk dX1_takeAway_24 ?_
    rw [hcnt]
    refine G_icmp_ge (tgt := 48) hk dX1_takeAway_25 (by decide) (fun c_25 => ?_) (fun c_25 => ?_)
    · try simp only [gB_ne, gB_eq, Decidable.not_not] at c_25
      have hge : n - 1 ≤ r := (nle (by omega) (by omega)).mp c_25
      have hre : r = n - 1 := by omega
      refine G_aload_n (i := 0) hk dX1_takeAway_48 rfl rfl ?_
      refine G_dup hk dX1_takeAway_49 rfl ?_
      refine G_get hk fX1_25 dX1_takeAway_50 (by assumption) (by rfl) (by first | decide | omega) ?_
      refine G_iconst (v := 1) hk dX1_takeAway_53 (by decide) ?_
      refine G_isub hk dX1_takeAway_54 ?_
      rw [hcnt]
      refine G_put hk fX1_25 iX1_2 dX1_takeAway_55 (by assumption) (Nat.le_of_ble_eq_true rfl) (by first | decide | omega) ?_
      generalize hE2 : va_up E1 bb _ = E2
      have g0 : E2 bb = .inr (1, [.ref (ad (bb + 1)), .ref (ad (bb + 2)), .int (nI (n - 1))]) := by rw [← hE2, va_up_self]; rfl
      have g1 := (show E2 (bb + 1) = E1 (bb + 1) by rw [← hE2, va_up_ne _ _ (by omega)]).trans e1
      have gk : E2 (bb + 4 + π k0) = rC (R k0) := by rw [← hE2, va_up_ne _ _ (by omega), hE1, va_up_ne _ _ (by omega)]; exact h2 _ (by omega)
      have pk := h4 k0 (by omega)
      refine G_aload_n (i := 0) hk dX1_takeAway_58 rfl rfl ?_
      refine G_get hk fX1_11 dX1_takeAway_59 (by assumption) (by rfl) (by first | decide | omega) ?_
      refine G_aload_n (i := 0) hk dX1_takeAway_62 rfl rfl ?_
      refine G_get hk fX1_25 dX1_takeAway_63 (by assumption) (by rfl) (by first | decide | omega) ?_
      refine G_aload_n (i := 2) hk dX1_takeAway_66 rfl rfl ?_
      refine G_aastRlX (j := (n - 1)) hk dX1_takeAway_67 (by assumption) rfl (by omega) (by decide) (by first | decide | omega) (by assumption) (by first | decide | omega) ?_
      refine G_vret hk dX1_takeAway_68 ?_
      rw [va_arr (B := fun i => π (if i < k0 then i else if i < n - 1 then i + 1 else if i = n - 1 then k0 else i)) (fun i => ?_)]
      · generalize hE3 : va_up E2 (bb + 1) _ = E3
        have f1 : ∀ q, q ≠ bb → q ≠ bb + 1 → E3 q = E q := fun q q1 q2 => by rw [← hE3, va_up_ne _ _ q2, ← hE2, va_up_ne _ _ q1, hE1, va_up_ne _ _ q2]
        refine ⟨⟨_, _, bk_perm (σ := fun i => if i < k0 then i else if i < n - 1 then i + 1 else if i = n - 1 then k0 else i) (n2 := n - 1) hB (by rw [← hE3, va_up_ne _ _ (by omega)]; exact g0) (by rw [← hE3, va_up_self]) f1 (by omega) (fun i hi => by (try dsimp only); split <;> (try split) <;> (try split) <;> omega) (fun i j hi hj => by (try dsimp only); intro q; split at q <;> (try split at q) <;> (try split at q) <;> (try split at q) <;> (try split at q) <;> (try split at q) <;> omega), fun i hi => ?_⟩, f1 _ (by omega) (by omega), f1 _ (by omega) (by omega), fun q hq => f1 q (by omega) (by omega)⟩
        unfold sDel
        try dsimp only
        by_cases h7 : i < k0
        · rw [if_pos h7, if_pos h7]
        · rw [if_neg h7, if_neg h7, if_pos hi]
      · by_cases h7 : i < k0
        · simp [h7, show ¬ i = n - 1 by omega]
        · by_cases h8 : i < n - 1
          · simp [h7, h8, show ¬ i = n - 1 by omega, show i < r by omega]
          · by_cases h9 : i = n - 1
            · simp [h9, show ¬ n - 1 < k0 by omega]
            · simp [h7, h8, h9, show ¬ i < r by omega]
    · try simp only [gB_ne, gB_eq, Decidable.not_not] at c_25
      have hlt : r < n - 1 := Nat.lt_of_not_le (fun q => c_25 ((nle (by omega) (by omega)).mpr q))
      have p1 := h4 (r + 1) (by omega)
      have er : E1 (bb + 4 + π (r + 1)) = rC (R (r + 1)) := by rw [hE1, va_up_ne _ _ (by omega)]; exact h2 _ (by omega)
      refine G_aload_n (i := 0) hk dX1_takeAway_28 rfl rfl ?_
      refine G_get hk fX1_11 dX1_takeAway_29 (by assumption) (by rfl) (by first | decide | omega) ?_
      refine G_iload_n (i := 3) hk dX1_takeAway_32 rfl rfl ?_
      refine G_aload_n (i := 0) hk dX1_takeAway_33 rfl rfl ?_
      refine G_get hk fX1_11 dX1_takeAway_34 (by assumption) (by rfl) (by first | decide | omega) ?_
      refine G_iload_n (i := 3) hk dX1_takeAway_37 rfl rfl ?_
      refine G_iconst (v := 1) hk dX1_takeAway_38 (by decide) ?_
      refine G_iadd hk dX1_takeAway_39 ?_
      refine G_aaldRlX (j := (r + 1)) (a := ad (bb + 4 + π (r + 1))) hk dX1_takeAway_40 (by assumption) (nI_i1 r) (by omega) (by decide) (by simp only [if_neg (show ¬ r + 1 < k0 by omega), if_neg (show ¬ r + 1 < r by omega)]) (by first | decide | omega) ?_
      refine G_aastRlX (j := r) hk dX1_takeAway_41 (by assumption) rfl (by omega) (by decide) (by first | decide | omega) (by assumption) (by first | decide | omega) ?_
      refine G_iinc (v := nI (r + 1)) hk dX1_takeAway_42 rfl (nI_inc r) (by decide) rfl ?_
      refine G_goto (tgt := 18) hk dX1_takeAway_45 (by decide) ?_
      refine G_E ?_ (G_lv (by exact And.intro rfl (And.intro rfl (And.intro rfl (And.intro rfl (trivial))))) (ih (r + 1) (va_up E (bb + 1) (gRl V 7 (fun i => some (ad (bb + 4 + (fun i => π (if i < k0 then i else if i < r + 1 then i + 1 else i)) i))))) (by omega) (by omega) (by omega) rfl))
      rw [hE1, va_up_up, va_arr (B := fun i => π (if i < k0 then i else if i < r + 1 then i + 1 else i)) (fun i => ?_)]
      by_cases hi : i = r
      · subst hi
        simp [show ¬ i < k0 by omega]
      · by_cases h7 : i < k0
        · simp [h7, hi]
        · by_cases h8 : i < r
          · simp [h7, hi, h8, show i < r + 1 by omega]
          · simp [h7, hi, h8, show ¬ i < r + 1 by omega]

set_option maxHeartbeats 4000000 in
set_option maxRecDepth 100000 in
theorem c_X1_takeAway (l : Launch) (V : gV) (ad : Nat → Nat) (E : Nat → va_E) (bb n : Nat) (π : Nat → Nat) (R : Nat → Nat → Int32) (hB : bkB V ad E bb n π R) (k0 : Nat) (hk0 : k0 < n) : Ct l V ad 44 44 yX1_takeAway cX1_takeAway 4 none { frames := 1, cells := 0, slots := 0, locals := 21 } [.ref (ad bb), .int (nI k0)] E (pV ad (fun E2 => bkM V ad bb E E2 (n - 1) (sDel R k0))) := by
  refine gCt mX1_takeAway (Nat.le_of_ble_eq_true rfl) ?_
  intro K hk
  obtain ⟨h0, h1, h2, h3, h4, h5, h6⟩ := id hB
  refine G_aload_n (i := 0) hk dX1_takeAway_0 rfl rfl ?_
  refine G_iload_n (i := 1) hk dX1_takeAway_1 rfl rfl ?_
  refine G_cVi hk (c_X1_isRule l V ad E bb n π R hB (nI k0)) mX1_isRule vX1_isRule kX1_48 dX1_takeAway_2 (by assumption) (by rfl) (by first | decide | omega) rfl (by decide) (by decide) rfl (Nat.le_of_ble_eq_true rfl) (fun r_2 E_2 h_2 => ?_)
  obtain ⟨rfl, rfl⟩ := h_2
  refine G_if_ne (tgt := 9) hk dX1_takeAway_5 (by decide) (fun c_5 => ?_) (fun c_5 => ?_)
  · try simp only [gB_ne, gB_eq, Decidable.not_not] at c_5
    refine G_aload_n (i := 0) hk dX1_takeAway_9 rfl rfl ?_
    refine G_get hk fX1_11 dX1_takeAway_10 (by assumption) (by rfl) (by first | decide | omega) ?_
    refine G_iload_n (i := 1) hk dX1_takeAway_13 rfl rfl ?_
    refine G_aaldRlX (j := k0) hk dX1_takeAway_14 (by assumption) rfl (by omega) (by decide) (by rfl) (by first | decide | omega) ?_
    refine G_astore_n (i := 2) hk dX1_takeAway_15 rfl (by decide) rfl ?_
    refine G_iload_n (i := 1) hk dX1_takeAway_16 rfl rfl ?_
    refine G_istore_n (i := 3) hk dX1_takeAway_17 rfl (by decide) rfl ?_
    refine G_lv (by exact And.intro rfl (And.intro rfl (And.intro rfl (And.intro rfl (trivial))))) (lp_X1_takeAway hk E bb n π R hB k0 hk0 (n + 1) k0 E (by omega) (by omega) (by omega) ?_)
    funext q
    unfold va_up
    by_cases hq : q = bb + 1
    · rw [if_pos hq, hq, h1]
      congr 4
      funext i
      by_cases h7 : i < k0 <;> simp [h7]
    · rw [if_neg hq]
  · try simp only [gB_ne, gB_eq, Decidable.not_not] at c_5
    exact absurd ⟨nI_pos' (by omega), (nlt (by omega) (by omega)).mpr hk0⟩ c_5

set_option maxHeartbeats 4000000 in
set_option maxRecDepth 100000 in
theorem lp_X1_openPlace {l : Launch} {V : gV} {ad : Nat → Nat} {K : gX} (hk : gOk l { frames := 0, cells := 0, slots := 0, locals := 0 } K V cX1_openPlace 4 RX1 none yX1_openPlace.name) (E : Nat → va_E) (bb n : Nat) (π : Nat → Nat) (R : Nat → Nat → Int32) (hB : bkB V ad E bb n π R) (k0 : Nat) (hk0 : k0 ≤ n) (hn7 : n < 7) : ∀ (k r : Nat) (E1 : Nat → va_E), r < k0 + k → k0 ≤ r → r ≤ n → E1 = va_up E (bb + 1) (gRl V 7 (fun i => some (ad (bb + 4 + (fun i => π (if r < i ∧ i ≤ n then i - 1 else i)) i)))) → G K V 4 (gQ K V 44 0 0 (pV ad (fun E2 => bkM V ad bb E E2 (n + 1) (sIns R k0 (R n))))) ad 44 0 0 37 [(0, .ref (ad bb)), (1, .int (nI k0)), (2, .ref (ad (bb + 4 + π n))), (3, .int (nI r))] [] E1 := by
  obtain ⟨h0, h1, h2, h3, h4, h5, h6⟩ := id hB
  intro k
  induction k with
  | zero => intro r E1 hr; omega
  | succ k ih =>
    intro r E1 hr hkr hrn hE1
    have e0 := (show E1 bb = E bb by rw [hE1, va_up_ne _ _ (by omega)]).trans h0
    have e1 := (congrFun hE1 (bb + 1)).trans (va_up_self _ _ _)
    refine G_iload_n (i := 3) hk dX1_openPlace_37 rfl rfl ?_
    refine G_iload_n (i := 1) hk dX1_openPlace_38 rfl rfl ?_
    refine G_icmp_le (tgt := 62) hk dX1_openPlace_39 (by decide) (fun c_39 => ?_) (fun c_39 => ?_)
    · try simp only [gB_ne, gB_eq, Decidable.not_not] at c_39
      have hle : r ≤ k0 := (nle (by omega) (by omega)).mp c_39
      have hre : r = k0 := by omega
      refine G_aload_n (i := 0) hk dX1_openPlace_62 rfl rfl ?_
      refine G_get hk fX1_11 dX1_openPlace_63 (by assumption) (by rfl) (by first | decide | omega) ?_
      refine G_iload_n (i := 1) hk dX1_openPlace_66 rfl rfl ?_
      refine G_aload_n (i := 2) hk dX1_openPlace_67 rfl rfl ?_
      have pn := h4 n (by omega)
      have en : E1 (bb + 4 + π n) = rC (R n) := by rw [hE1, va_up_ne _ _ (by omega)]; exact h2 _ (by omega)
      refine G_aastRlX (j := k0) hk dX1_openPlace_68 (by assumption) rfl (by omega) (by decide) (by first | decide | omega) (by assumption) (by first | decide | omega) ?_
      generalize hE2 : va_up E1 (bb + 1) _ = E2
      have g0 := (show E2 bb = E1 bb by rw [← hE2, va_up_ne _ _ (by omega)]).trans e0
      refine G_aload_n (i := 0) hk dX1_openPlace_69 rfl rfl ?_
      refine G_dup hk dX1_openPlace_70 rfl ?_
      refine G_get hk fX1_25 dX1_openPlace_71 (by assumption) (by rfl) (by first | decide | omega) ?_
      refine G_iconst (v := 1) hk dX1_openPlace_74 (by decide) ?_
      refine G_iadd hk dX1_openPlace_75 ?_
      refine G_put hk fX1_25 iX1_2 dX1_openPlace_76 (by assumption) (Nat.le_of_ble_eq_true rfl) (by first | decide | omega) ?_
      refine G_vret hk dX1_openPlace_79 ?_
      generalize hE3 : va_up E2 bb _ = E3
      have f1 : ∀ q, q ≠ bb → q ≠ bb + 1 → E3 q = E q := fun q q1 q2 => by rw [← hE3, va_up_ne _ _ q1, ← hE2, va_up_ne _ _ q2, hE1, va_up_ne _ _ q2]
      refine ⟨⟨_, _, bk_perm (σ := fun i => if i = k0 then n else if k0 < i ∧ i ≤ n then i - 1 else i) (n2 := n + 1) hB (by rw [← hE3, va_up_self, ← nI_i1]; rfl) ?_ f1 (by omega) (fun i hi => by (try dsimp only); split <;> (try split) <;> omega) (fun i j hi hj => by (try dsimp only); intro q; split at q <;> (try split at q) <;> (try split at q) <;> (try split at q) <;> omega), fun i hi => ?_⟩, f1 _ (by omega) (by omega), f1 _ (by omega) (by omega), fun q hq => f1 q (by omega) (by omega)⟩
      · rw [← hE3, va_up_ne _ _ (by omega), ← hE2, va_up_self, va_arr (B := fun i => π (if i = k0 then n else if k0 < i ∧ i ≤ n then i - 1 else i)) (fun i => ?_)]
        by_cases h7 : i = k0
        · simp [h7]
        · simp [h7, hre]
      · unfold sIns
        try dsimp only
        by_cases h7 : i < k0
        · rw [if_pos h7, if_neg (by omega), if_neg (by omega)]
        · by_cases h8 : i = k0
          · rw [if_neg h7, if_pos h8, if_pos h8]
          · rw [if_neg h7, if_neg h8, if_neg h8, if_pos (by omega)]
    · try simp only [gB_ne, gB_eq, Decidable.not_not] at c_39
      have hlt : k0 < r := Nat.lt_of_not_le (fun q => c_39 ((nle (by omega) (by omega)).mpr q))
      have p1 := h4 (r - 1) (by omega)
      have er : E1 (bb + 4 + π (r - 1)) = rC (R (r - 1)) := by rw [hE1, va_up_ne _ _ (by omega)]; exact h2 _ (by omega)
      have hm1 : nI r - 1 = nI (r - 1) := pk_sub (b := 1) (by omega)
      refine G_aload_n (i := 0) hk dX1_openPlace_42 rfl rfl ?_
      refine G_get hk fX1_11 dX1_openPlace_43 (by assumption) (by rfl) (by first | decide | omega) ?_
      refine G_iload_n (i := 3) hk dX1_openPlace_46 rfl rfl ?_
      refine G_aload_n (i := 0) hk dX1_openPlace_47 rfl rfl ?_
      refine G_get hk fX1_11 dX1_openPlace_48 (by assumption) (by rfl) (by first | decide | omega) ?_
      refine G_iload_n (i := 3) hk dX1_openPlace_51 rfl rfl ?_
      refine G_iconst (v := 1) hk dX1_openPlace_52 (by decide) ?_
      refine G_isub hk dX1_openPlace_53 ?_
      refine G_aaldRlX (j := (r - 1)) (a := ad (bb + 4 + π (r - 1))) hk dX1_openPlace_54 (by assumption) hm1 (by omega) (by decide) (by simp only [if_neg (show ¬ (r < r - 1 ∧ r - 1 ≤ n) by omega)]) (by first | decide | omega) ?_
      refine G_aastRlX (j := r) hk dX1_openPlace_55 (by assumption) rfl (by omega) (by decide) (by first | decide | omega) (by assumption) (by first | decide | omega) ?_
      refine G_iinc (v := nI (r - 1)) hk dX1_openPlace_56 rfl (show nI r + Int32.ofInt (-1) = nI (r - 1) by have h := nI_dec (r - 1); rwa [Nat.sub_add_cancel (by omega)] at h) (by decide) rfl ?_
      refine G_goto (tgt := 37) hk dX1_openPlace_59 (by decide) ?_
      refine G_E ?_ (G_lv (by exact And.intro rfl (And.intro rfl (And.intro rfl (And.intro rfl (trivial))))) (ih (r - 1) (va_up E (bb + 1) (gRl V 7 (fun i => some (ad (bb + 4 + (fun i => π (if r - 1 < i ∧ i ≤ n then i - 1 else i)) i))))) (by omega) (by omega) (by omega) rfl))
      rw [hE1, va_up_up, va_arr (B := fun i => π (if r - 1 < i ∧ i ≤ n then i - 1 else i)) (fun i => ?_)]
      by_cases hi : i = r
      · subst hi
        simp [show i - 1 < i ∧ i ≤ n by omega]
      · by_cases h7 : r < i ∧ i ≤ n
        · simp [h7, hi, show r - 1 < i by omega]
        · simp [h7, hi, show ¬ (r - 1 < i ∧ i ≤ n) by omega]

set_option maxHeartbeats 4000000 in
set_option maxRecDepth 100000 in
theorem c_X1_openPlace (l : Launch) (V : gV) (ad : Nat → Nat) (E : Nat → va_E) (bb n : Nat) (π : Nat → Nat) (R : Nat → Nat → Int32) (hB : bkB V ad E bb n π R) (k0 : Nat) (hk0 : k0 ≤ n) (hn7 : n < 7) : Ct l V ad 44 44 yX1_openPlace cX1_openPlace 4 none { frames := 0, cells := 0, slots := 0, locals := 0 } [.ref (ad bb), .int (nI k0)] E (pV ad (fun E2 => bkM V ad bb E E2 (n + 1) (sIns R k0 (R n)))) := by
  refine gCt mX1_openPlace (Nat.le_of_ble_eq_true rfl) ?_
  intro K hk
  obtain ⟨h0, h1, h2, h3, h4, h5, h6⟩ := id hB
  refine G_iload_n (i := 1) hk dX1_openPlace_0 rfl rfl ?_
  refine G_if_lt (tgt := 21) hk dX1_openPlace_1 (by decide) (fun c_1 => ?_) (fun c_1 => ?_)
  · try simp only [gB_ne, gB_eq, Decidable.not_not] at c_1
    exact absurd c_1 (nI_pos (by omega))
  · try simp only [gB_ne, gB_eq, Decidable.not_not] at c_1
    refine G_iload_n (i := 1) hk dX1_openPlace_4 rfl rfl ?_
    refine G_aload_n (i := 0) hk dX1_openPlace_5 rfl rfl ?_
    refine G_get hk fX1_25 dX1_openPlace_6 (by assumption) (by rfl) (by first | decide | omega) ?_
    refine G_icmp_gt (tgt := 21) hk dX1_openPlace_9 (by decide) (fun c_9 => ?_) (fun c_9 => ?_)
    · try simp only [gB_ne, gB_eq, Decidable.not_not] at c_9
      exact absurd ((nlt (by omega) (by omega)).mp c_9) (by omega)
    · try simp only [gB_ne, gB_eq, Decidable.not_not] at c_9
      refine G_aload_n (i := 0) hk dX1_openPlace_12 rfl rfl ?_
      refine G_get hk fX1_25 dX1_openPlace_13 (by assumption) (by rfl) (by first | decide | omega) ?_
      refine G_bipush (v := 7) hk dX1_openPlace_16 (by decide) ?_
      refine G_icmp_lt (tgt := 22) hk dX1_openPlace_18 (by decide) (fun c_18 => ?_) (fun c_18 => ?_)
      · try simp only [gB_ne, gB_eq, Decidable.not_not] at c_18
        refine G_aload_n (i := 0) hk dX1_openPlace_22 rfl rfl ?_
        refine G_get hk fX1_11 dX1_openPlace_23 (by assumption) (by rfl) (by first | decide | omega) ?_
        refine G_aload_n (i := 0) hk dX1_openPlace_26 rfl rfl ?_
        refine G_get hk fX1_25 dX1_openPlace_27 (by assumption) (by rfl) (by first | decide | omega) ?_
        refine G_aaldRlX (j := n) hk dX1_openPlace_30 (by assumption) rfl (by omega) (by decide) (by rfl) (by first | decide | omega) ?_
        refine G_astore_n (i := 2) hk dX1_openPlace_31 rfl (by decide) rfl ?_
        refine G_aload_n (i := 0) hk dX1_openPlace_32 rfl rfl ?_
        refine G_get hk fX1_25 dX1_openPlace_33 (by assumption) (by rfl) (by first | decide | omega) ?_
        refine G_istore_n (i := 3) hk dX1_openPlace_36 rfl (by decide) rfl ?_
        refine G_lv (by exact And.intro rfl (And.intro rfl (And.intro rfl (And.intro rfl (trivial))))) (lp_X1_openPlace hk E bb n π R hB k0 hk0 hn7 (n + 1) n E (by omega) (by omega) (by omega) ?_)
        funext q
        unfold va_up
        by_cases hq : q = bb + 1
        · rw [if_pos hq, hq, h1]
          congr 4
          funext i
          simp [show ¬ (n < i ∧ i ≤ n) by omega]
        · rw [if_neg hq]
      · try simp only [gB_ne, gB_eq, Decidable.not_not] at c_18
        exact absurd ((nlt (b := 7) (by omega) (by omega)).mpr hn7) c_18
end
section
/-! one rule changed; texts -/
theorem bkB.rule {V : gV} {ad : Nat → Nat} {E : Nat → va_E} {bb n : Nat} {π : Nat → Nat} {R : Nat → Nat → Int32} (h : bkB V ad E bb n π R) {r : Nat} (hr : r < 7) (q : Nat → Int32) : bkB V ad (va_up E (bb + 4 + π r) (rC q)) bb n π (fun i => if i = r then q else R i) := by
  obtain ⟨h0, h1, h2, h3, h4, h5, h6⟩ := h
  have p0 := h4 r hr
  refine ⟨by rw [va_up_ne _ _ (by omega)]; exact h0, by rw [va_up_ne _ _ (by omega)]; exact h1, fun i hi => ?_, h3, h4, h5, h6⟩
  by_cases hir : i = r
  · subst hir
    rw [va_up_self]
    exact congrArg rC (if_pos rfl).symm
  · have hne : π i ≠ π r := fun e => hir (h5 i r hi hr e)
    rw [va_up_ne _ _ (by omega)]
    exact (h2 i hi).trans (congrArg rC (if_neg hir).symm)
def sKd (c : Int32) : Int32 := if c = 66 then 1 else if c = 80 then 0 else if c = 87 then 2 else -9
def sDd (c : Int32) : Int32 := if c = 68 then 1 else if c = 71 then 0 else if c = 74 then 2 else -9
/-- does a TEXT go on with the code at p -/
def sGo (c : Nat → Int32) (p : Nat) : Prop := if p = 0 then c 0 = 113 else if 42 < p then False else if (p - 1) % 6 = 0 then c p = 59 else if (p - 1) % 6 = 1 then sKd (c p) ≠ -9 else if (p - 1) % 6 = 2 then sDd (c p) ≠ -9 else if (p - 1) % 6 = 3 then 49 ≤ c p ∧ c p ≤ 57 else if (p - 1) % 6 = 4 then 97 ≤ c p ∧ c p ≤ 122 else c (p - 1) ≤ c p ∧ c p ≤ 122
noncomputable def sGoD (c : Nat → Int32) (p : Nat) : Bool := @decide (sGo c p) (Classical.propDecidable _)
theorem sGoD_iff {c : Nat → Int32} {p : Nat} : sGoD c p = true ↔ sGo c p := by
  unfold sGoD
  exact @decide_eq_true_iff (sGo c p) (Classical.propDecidable _)
noncomputable def sFf (c : Nat → Int32) (m : Nat) : Nat → Nat → Nat
  | 0, p => p
  | k + 1, p => if sGoD c p then sFf c m k (p + 1) else p
noncomputable def sFfn (c : Nat → Int32) (m p : Nat) : Nat := sFf c m (m - p) p
theorem sFfn_end {c : Nat → Int32} {m p : Nat} (h : m ≤ p) : sFfn c m p = p := by
  unfold sFfn
  rw [Nat.sub_eq_zero_of_le h]
  rfl
theorem sFfn_go {c : Nat → Int32} {m p : Nat} (h : p < m) (hg : sGo c p) : sFfn c m p = sFfn c m (p + 1) := by
  unfold sFfn
  rw [show m - p = (m - (p + 1)) + 1 by omega]
  exact if_pos (sGoD_iff.mpr hg)
theorem sFfn_no {c : Nat → Int32} {m p : Nat} (h : p < m) (hg : ¬ sGo c p) : sFfn c m p = p := by
  unfold sFfn
  rw [show m - p = (m - (p + 1)) + 1 by omega]
  exact if_neg (fun q => hg (sGoD_iff.mp q))
/-- the FIRST FAULT of m codes; -1: they are a TEXT -/
noncomputable def sFault (c : Nat → Int32) (m : Nat) : Int32 := if sFfn c m 0 < m then nI (sFfn c m 0) else if 1 < m ∧ (m - 1) % 6 = 0 then -1 else nI m
def sTx (c : Nat → Int32) (r j : Nat) : Int32 := if j = 0 then sKd (c (6 * r + 2)) else if j = 1 then sDd (c (6 * r + 3)) else if j = 2 then c (6 * r + 4) - 48 else if j = 3 then c (6 * r + 5) - 97 else c (6 * r + 6) - 97
theorem pk_rem6 {a : Nat} (h : a < 100000) : nI a - nI a / 6 * 6 = nI (a % 6) := pk_rem (d := 6) (by omega) (by omega) (by omega)
theorem pk_div6 {a : Nat} (h : a < 100000) : nI a / 6 = nI (a / 6) := pk_div (d := 6) (by omega) (by omega) (by omega)
def sCut (la v : Int32) : Int32 := if la = 0 then v.toInt8.toInt32 else if la = 1 then v.toInt16.toInt32 else v
theorem mx0 {m : Nat} (h : m < 100000) : (if (0 : Int32) < nI m then nI m else (0 : Int32)) = nI m := by
  by_cases h0 : 0 < m
  · exact if_pos ((nlt (a := 0) (by omega) (by omega)).mpr h0)
  · rw [show m = 0 by omega]
    rfl
end
section
set_option maxHeartbeats 4000000 in
set_option maxRecDepth 100000 in
theorem c_X5_isIn (l : Launch) (V : gV) (ad : Nat → Nat) (E : Nat → va_E) (v a b : Int32) : Ct l V ad 44 44 yX5_isIn cX5_isIn 3 (some .boolean) { frames := 0, cells := 0, slots := 0, locals := 0 } [.int v, .int a, .int b] E (pI ad (pS E (gB (a ≤ v ∧ v ≤ b)))) := by
  refine gCt mX5_isIn (Nat.le_of_ble_eq_true rfl) ?_
  intro K hk
  refine G_iload_n (i := 0) hk dX5_isIn_0 rfl rfl ?_
  refine G_iload_n (i := 1) hk dX5_isIn_1 rfl rfl ?_
  refine G_icmp_lt (tgt := 14) hk dX5_isIn_2 (by decide) (fun c_2 => ?_) (fun c_2 => ?_)
  · try simp only [gB_ne, gB_eq, Decidable.not_not] at c_2
    refine G_iconst (v := 0) hk dX5_isIn_14 (by decide) ?_
    refine G_zret hk dX5_isIn_15 (by first | rfl | exact gB_nar _) ?_
    exact ⟨rfl, by first | (simp [gB, *]; done) | exact (gB_t (by (simp only [fa_lt, fa_le, fa_eq, iT_0, iT_1, iT_2, iT_3, iT_4, iT_5, iT_6, iT_7, iT_9, iT_10, iT_20, iT_25, iT_26, iTm1, iTm2, iTm3, iTm4, iTm9] at *; omega))).symm | exact (gB_f (by (simp only [fa_lt, fa_le, fa_eq, iT_0, iT_1, iT_2, iT_3, iT_4, iT_5, iT_6, iT_7, iT_9, iT_10, iT_20, iT_25, iT_26, iTm1, iTm2, iTm3, iTm4, iTm9] at *; omega))).symm⟩
  · try simp only [gB_ne, gB_eq, Decidable.not_not] at c_2
    refine G_iload_n (i := 0) hk dX5_isIn_5 rfl rfl ?_
    refine G_iload_n (i := 2) hk dX5_isIn_6 rfl rfl ?_
    refine G_icmp_gt (tgt := 14) hk dX5_isIn_7 (by decide) (fun c_7 => ?_) (fun c_7 => ?_)
    · try simp only [gB_ne, gB_eq, Decidable.not_not] at c_7
      refine G_iconst (v := 0) hk dX5_isIn_14 (by decide) ?_
      refine G_zret hk dX5_isIn_15 (by first | rfl | exact gB_nar _) ?_
      exact ⟨rfl, by first | (simp [gB, *]; done) | exact (gB_t (by (simp only [fa_lt, fa_le, fa_eq, iT_0, iT_1, iT_2, iT_3, iT_4, iT_5, iT_6, iT_7, iT_9, iT_10, iT_20, iT_25, iT_26, iTm1, iTm2, iTm3, iTm4, iTm9] at *; omega))).symm | exact (gB_f (by (simp only [fa_lt, fa_le, fa_eq, iT_0, iT_1, iT_2, iT_3, iT_4, iT_5, iT_6, iT_7, iT_9, iT_10, iT_20, iT_25, iT_26, iTm1, iTm2, iTm3, iTm4, iTm9] at *; omega))).symm⟩
    · try simp only [gB_ne, gB_eq, Decidable.not_not] at c_7
      refine G_iconst (v := 1) hk dX5_isIn_10 (by decide) ?_
      refine G_goto (tgt := 15) hk dX5_isIn_11 (by decide) ?_
      refine G_zret hk dX5_isIn_15 (by first | rfl | exact gB_nar _) ?_
      exact ⟨rfl, by first | (simp [gB, *]; done) | exact (gB_t (by (simp only [fa_lt, fa_le, fa_eq, iT_0, iT_1, iT_2, iT_3, iT_4, iT_5, iT_6, iT_7, iT_9, iT_10, iT_20, iT_25, iT_26, iTm1, iTm2, iTm3, iTm4, iTm9] at *; omega))).symm | exact (gB_f (by (simp only [fa_lt, fa_le, fa_eq, iT_0, iT_1, iT_2, iT_3, iT_4, iT_5, iT_6, iT_7, iT_9, iT_10, iT_20, iT_25, iT_26, iTm1, iTm2, iTm3, iTm4, iTm9] at *; omega))).symm⟩

set_option maxHeartbeats 4000000 in
set_option maxRecDepth 100000 in
theorem lp_X1_becomeLike {l : Launch} {V : gV} {ad : Nat → Nat} {K : gX} (hk : gOk l { frames := 1, cells := 0, slots := 0, locals := 25 } K V cX1_becomeLike 4 RX1 none yX1_becomeLike.name) (E : Nat → va_E) (bb n : Nat) (π : Nat → Nat) (cb : Nat) (ρ : Nat → Nat) (R : Nat → Nat → Int32) (hC : bkB V ad E cb n ρ R) (hcb : cb + 10 < bb) : ∀ (k r : Nat) (E1 : Nat → va_E) (R1 : Nat → Nat → Int32), n < r + k → r ≤ n → bkB V ad E1 bb n π R1 → (∀ i, i < r → R1 i = R i) → E1 (bb + 2) = E (bb + 2) → E1 (bb + 3) = E (bb + 3) → exB bb E E1 → G K V 4 (gQ K V 44 0 0 (pV ad (fun E2 => bkM V ad bb E E2 n R))) ad 44 0 0 10 [(0, .ref (ad bb)), (1, .ref (ad cb)), (2, .int (nI r))] [] E1 := by
  obtain ⟨g0, g1, g2, g3, g4, g5, g6⟩ := hC
  intro k
  induction k with
  | zero => intro r E1 R1 hr; omega
  | succ k ih =>
    intro r E1 R1 hr hrn hB hR x2 x3 xB
    obtain ⟨h0, h1, h2, h3, h4, h5, h6⟩ := id hB
    have c1 := (xB (cb + 1) (by omega)).trans g1
    have c0 := (xB cb (by omega)).trans g0
    refine G_iload_n (i := 2) hk dX1_becomeLike_10 rfl rfl ?_
    refine G_aload_n (i := 0) hk dX1_becomeLike_11 rfl rfl ?_
    refine G_get hk fX1_25 dX1_becomeLike_12 (by assumption) (by rfl) (by first | decide | omega) ?_
    refine G_icmp_ge (tgt := 60) hk dX1_becomeLike_15 (by decide) (fun c_15 => ?_) (fun c_15 => ?_)
    · try simp only [gB_ne, gB_eq, Decidable.not_not] at c_15
      have hge : n ≤ r := (nle (by omega) (by omega)).mp c_15
      refine G_vret hk dX1_becomeLike_60 ?_
      exact ⟨⟨π, R1, hB, fun i hi => hR i (by omega)⟩, x2, x3, xB⟩
    · try simp only [gB_ne, gB_eq, Decidable.not_not] at c_15
      have hlt : r < n := Nat.lt_of_not_le (fun q => c_15 ((nle (by omega) (by omega)).mpr q))
      have q0 := g4 r (by omega)
      have p0 := h4 r (by omega)
      have cr := (xB (cb + 4 + ρ r) (by omega)).trans (g2 r (by omega))
      have br := h2 r (by omega)
      refine G_aload_n (i := 1) hk dX1_becomeLike_18 rfl rfl ?_
      refine G_get hk fX1_11 dX1_becomeLike_19 (by assumption) (by rfl) (by first | decide | omega) ?_
      refine G_iload_n (i := 2) hk dX1_becomeLike_22 rfl rfl ?_
      refine G_aaldRlX (j := r) hk dX1_becomeLike_23 (by assumption) rfl (by omega) (by decide) (by rfl) (by first | decide | omega) ?_
      refine G_astore_n (i := 3) hk dX1_becomeLike_24 rfl (by decide) rfl ?_
      refine G_aload_n (i := 0) hk dX1_becomeLike_25 rfl rfl ?_
      refine G_get hk fX1_11 dX1_becomeLike_26 (by assumption) (by rfl) (by first | decide | omega) ?_
      refine G_iload_n (i := 2) hk dX1_becomeLike_29 rfl rfl ?_
      refine G_aaldRlX (j := r) hk dX1_becomeLike_30 (by assumption) rfl (by omega) (by decide) (by rfl) (by first | decide | omega) ?_
      refine G_aload_n (i := 3) hk dX1_becomeLike_31 rfl rfl ?_
      refine G_get hk fX1_29 dX1_becomeLike_32 (by assumption) (by rfl) (by first | decide | omega) ?_
      refine G_aload_n (i := 3) hk dX1_becomeLike_35 rfl rfl ?_
      refine G_get hk fX1_32 dX1_becomeLike_36 (by assumption) (by rfl) (by first | decide | omega) ?_
      refine G_aload_n (i := 3) hk dX1_becomeLike_39 rfl rfl ?_
      refine G_get hk fX1_35 dX1_becomeLike_40 (by assumption) (by rfl) (by first | decide | omega) ?_
      refine G_aload_n (i := 3) hk dX1_becomeLike_43 rfl rfl ?_
      refine G_get hk fX1_38 dX1_becomeLike_44 (by assumption) (by rfl) (by first | decide | omega) ?_
      refine G_aload_n (i := 3) hk dX1_becomeLike_47 rfl rfl ?_
      refine G_get hk fX1_41 dX1_becomeLike_48 (by assumption) (by rfl) (by first | decide | omega) ?_
      refine G_cVv hk (c_X3_become l V ad E1 (bb + 4 + π r) (by omega) (R1 r) (R r 0) (R r 1) (R r 2) (R r 3) (R r 4) br) mX3_become vX3_become kX1_44 dX1_becomeLike_51 (by assumption) (by rfl) (by first | decide | omega) rfl (by decide) (by decide) rfl (Nat.le_of_ble_eq_true rfl) (fun E_51 h_51 => ?_)
      subst h_51
      refine G_iinc (v := nI (r + 1)) hk dX1_becomeLike_54 rfl (nI_inc r) (by decide) rfl ?_
      refine G_goto (tgt := 10) hk dX1_becomeLike_57 (by decide) ?_
      refine G_lv (by exact And.intro rfl (And.intro rfl (And.intro rfl (trivial)))) (ih (r + 1) _ (fun i => if i = r then R r else R1 i) (by omega) (by omega) (hB.rule (by omega) (R r)) (fun i hi => ?_) ?_ ?_ (fun q hq => ?_))
      · by_cases hir : i = r
        · rw [if_pos hir, hir]
        · rw [if_neg hir, hR i (by omega)]
      · rw [va_up_ne _ _ (by omega)]; exact x2
      · rw [va_up_ne _ _ (by omega)]; exact x3
      · rw [va_up_ne _ _ (by omega)]; exact xB q hq

set_option maxHeartbeats 4000000 in
set_option maxRecDepth 100000 in
theorem c_X1_becomeLike (l : Launch) (V : gV) (ad : Nat → Nat) (E : Nat → va_E) (bb n0 : Nat) (π : Nat → Nat) (R0 : Nat → Nat → Int32) (hB : bkB V ad E bb n0 π R0) (cb n : Nat) (ρ : Nat → Nat) (R : Nat → Nat → Int32) (hC : bkB V ad E cb n ρ R) (hcb : cb + 10 < bb) : Ct l V ad 44 44 yX1_becomeLike cX1_becomeLike 4 none { frames := 1, cells := 0, slots := 0, locals := 25 } [.ref (ad bb), .ref (ad cb)] E (pV ad (fun E2 => bkM V ad bb E E2 n R)) := by
  refine gCt mX1_becomeLike (Nat.le_of_ble_eq_true rfl) ?_
  intro K hk
  obtain ⟨h0, h1, h2, h3, h4, h5, h6⟩ := id hB
  obtain ⟨g0, g1, g2, g3, g4, g5, g6⟩ := id hC
  refine G_aload_n (i := 0) hk dX1_becomeLike_0 rfl rfl ?_
  refine G_aload_n (i := 1) hk dX1_becomeLike_1 rfl rfl ?_
  refine G_get hk fX1_25 dX1_becomeLike_2 (by assumption) (by rfl) (by first | decide | omega) ?_
  refine G_put hk fX1_25 iX1_2 dX1_becomeLike_5 (by assumption) (Nat.le_of_ble_eq_true rfl) (by first | decide | omega) ?_
  refine G_iconst (v := 0) hk dX1_becomeLike_8 (by decide) ?_
  refine G_istore_n (i := 2) hk dX1_becomeLike_9 rfl (by decide) rfl ?_
  refine G_lv (by exact And.intro rfl (And.intro rfl (And.intro rfl (trivial)))) (lp_X1_becomeLike hk E bb n π cb ρ R hC hcb (n + 1) 0 _ R0 (by omega) (by omega) ⟨?_, ?_, fun i hi => ?_, g3, h4, h5, h6⟩ (fun i hi => absurd hi (Nat.not_lt_zero i)) ?_ ?_ (fun q hq => ?_))
  · rw [va_up_self]; rfl
  · rw [va_up_ne _ _ (by omega)]; exact h1
  · rw [va_up_ne _ _ (by omega)]; exact h2 i hi
  · rw [va_up_ne _ _ (by omega)]
  · rw [va_up_ne _ _ (by omega)]
  · rw [va_up_ne _ _ (by omega)]

set_option maxHeartbeats 4000000 in
set_option maxRecDepth 100000 in
theorem c_X2_read (l : Launch) (V : gV) (ad : Nat → Nat) (E : Nat → va_E) (p : Nat) (hp : p + 1 < 44) (la : Int32) (sz : Nat) (hsz : sz ≤ 60) (cl : Nat → Int32) (hE : E p = wC ad p la (nI sz)) (hE1 : E (p + 1) = gI V 60 cl) (j : Nat) (hj : j < sz) : Ct l V ad 44 44 yX2_read cX2_read 2 (some .int) { frames := 0, cells := 0, slots := 0, locals := 0 } [.ref (ad p), .int (nI j)] E (pI ad (pS E (cl j))) := by
  refine gCt mX2_read (Nat.le_of_ble_eq_true rfl) ?_
  intro K hk
  refine G_iload_n (i := 1) hk dX2_read_0 rfl rfl ?_
  refine G_if_lt (tgt := 21) hk dX2_read_1 (by decide) (fun c_1 => ?_) (fun c_1 => ?_)
  · try simp only [gB_ne, gB_eq, Decidable.not_not] at c_1
    exact absurd c_1 (nI_pos (by omega))
  · try simp only [gB_ne, gB_eq, Decidable.not_not] at c_1
    refine G_iload_n (i := 1) hk dX2_read_4 rfl rfl ?_
    refine G_aload_n (i := 0) hk dX2_read_5 rfl rfl ?_
    refine G_get hk fX2_19 dX2_read_6 (by assumption) (by rfl) (by first | decide | omega) ?_
    refine G_icmp_ge (tgt := 21) hk dX2_read_9 (by decide) (fun c_9 => ?_) (fun c_9 => ?_)
    · try simp only [gB_ne, gB_eq, Decidable.not_not] at c_9
      exact absurd ((nle (by omega) (by omega)).mp c_9) (by omega)
    · try simp only [gB_ne, gB_eq, Decidable.not_not] at c_9
      refine G_aload_n (i := 0) hk dX2_read_12 rfl rfl ?_
      refine G_get hk fX2_9 dX2_read_13 (by assumption) (by rfl) (by first | decide | omega) ?_
      refine G_iload_n (i := 1) hk dX2_read_16 rfl rfl ?_
      refine G_ialdX (j := j) hk dX2_read_17 (by assumption) rfl (by omega) (by decide) (by first | decide | omega) ?_
      refine G_goto (tgt := 22) hk dX2_read_18 (by decide) ?_
      refine G_iret hk dX2_read_22 ?_
      exact ⟨rfl, rfl⟩

set_option maxHeartbeats 4000000 in
set_option maxRecDepth 100000 in
theorem c_X2_write (l : Launch) (V : gV) (ad : Nat → Nat) (E : Nat → va_E) (p : Nat) (hp : p + 1 < 44) (la : Int32) (sz : Nat) (hsz : sz ≤ 60) (cl : Nat → Int32) (hE : E p = wC ad p la (nI sz)) (hE1 : E (p + 1) = gI V 60 cl) (j : Nat) (hj : j < sz) (v : Int32) : Ct l V ad 44 44 yX2_write cX2_write 3 none { frames := 1, cells := 0, slots := 0, locals := 21 } [.ref (ad p), .int (nI j), .int v] E (pV ad (fun E2 => E2 = va_up E (p + 1) (gI V 60 (upd cl j (sCut la v))))) := by
  refine gCt mX2_write (Nat.le_of_ble_eq_true rfl) ?_
  intro K hk
  refine G_iload_n (i := 1) hk dX2_write_0 rfl rfl ?_
  refine G_if_lt (tgt := 23) hk dX2_write_1 (by decide) (fun c_1 => ?_) (fun c_1 => ?_)
  · try simp only [gB_ne, gB_eq, Decidable.not_not] at c_1
    exact absurd c_1 (nI_pos (by omega))
  · try simp only [gB_ne, gB_eq, Decidable.not_not] at c_1
    refine G_iload_n (i := 1) hk dX2_write_4 rfl rfl ?_
    refine G_aload_n (i := 0) hk dX2_write_5 rfl rfl ?_
    refine G_get hk fX2_19 dX2_write_6 (by assumption) (by rfl) (by first | decide | omega) ?_
    refine G_icmp_ge (tgt := 23) hk dX2_write_9 (by decide) (fun c_9 => ?_) (fun c_9 => ?_)
    · try simp only [gB_ne, gB_eq, Decidable.not_not] at c_9
      exact absurd ((nle (by omega) (by omega)).mp c_9) (by omega)
    · try simp only [gB_ne, gB_eq, Decidable.not_not] at c_9
      refine G_aload_n (i := 0) hk dX2_write_12 rfl rfl ?_
      refine G_get hk fX2_9 dX2_write_13 (by assumption) (by rfl) (by first | decide | omega) ?_
      refine G_iload_n (i := 1) hk dX2_write_16 rfl rfl ?_
      refine G_aload_n (i := 0) hk dX2_write_17 rfl rfl ?_
      refine G_iload_n (i := 2) hk dX2_write_18 rfl rfl ?_
      refine G_cVi hk (c_X2_cut l V ad E p hp la (nI sz) v hE) mX2_cut vX2_cut kX2_35 dX2_write_19 (by assumption) (by rfl) (by first | decide | omega) rfl (by decide) (by decide) rfl (Nat.le_of_ble_eq_true rfl) (fun r_19 E_19 h_19 => ?_)
      obtain ⟨rfl, rfl⟩ := h_19
      refine G_iastX (j := j) hk dX2_write_22 (by assumption) rfl (by omega) (by decide) (by first | decide | omega) ?_
      refine G_vret hk dX2_write_23 ?_
      rfl

set_option maxHeartbeats 4000000 in
set_option maxRecDepth 100000 in
theorem lp_X2_becomeNew {l : Launch} {V : gV} {ad : Nat → Nat} {K : gX} (hk : gOk l { frames := 1, cells := 0, slots := 0, locals := 60 } K V cX2_becomeNew 4 RX2 none yX2_becomeNew.name) (E : Nat → va_E) (p : Nat) (hp : p + 1 < 44) (la : Int32) (m : Nat) (hm : m ≤ 60) (cl : Nat → Int32) (hE : E p = wC ad p la (nI m)) : ∀ (k r : Nat) (E1 : Nat → va_E), m < r + k → r ≤ m → E1 = va_up E (p + 1) (gI V 60 (fun i => if i < r then 0 else cl i)) → G K V 4 (gQ K V 44 0 0 (pV ad (fun E2 => E2 = va_up E (p + 1) (gI V 60 (fun i => if i < m then 0 else cl i))))) ad 44 0 0 21 [(0, .ref (ad p)), (3, .int (nI r))] [] E1 := by
  intro k
  induction k with
  | zero => intro r E1 hr; omega
  | succ k ih =>
    intro r E1 hr hrn hE1
    have e0 := (show E1 p = E p by rw [hE1, va_up_ne _ _ (by omega)]).trans hE
    have e1 := (congrFun hE1 (p + 1)).trans (va_up_self _ _ _)
    refine G_iload_n (i := 3) hk dX2_becomeNew_21 rfl rfl ?_
    refine G_aload_n (i := 0) hk dX2_becomeNew_22 rfl rfl ?_
    refine G_get hk fX2_19 dX2_becomeNew_23 (by assumption) (by rfl) (by first | decide | omega) ?_
    refine G_icmp_ge (tgt := 42) hk dX2_becomeNew_26 (by decide) (fun c_26 => ?_) (fun c_26 => ?_)
    · try simp only [gB_ne, gB_eq, Decidable.not_not] at c_26
      have hge : m ≤ r := (nle (by omega) (by omega)).mp c_26
      have hre : r = m := by omega
      subst hre
      refine G_vret hk dX2_becomeNew_42 ?_
      exact hE1
    · try simp only [gB_ne, gB_eq, Decidable.not_not] at c_26
      have hlt : r < m := Nat.lt_of_not_le (fun q => c_26 ((nle (by omega) (by omega)).mpr q))
      refine G_aload_n (i := 0) hk dX2_becomeNew_29 rfl rfl ?_
      refine G_get hk fX2_9 dX2_becomeNew_30 (by assumption) (by rfl) (by first | decide | omega) ?_
      refine G_iload_n (i := 3) hk dX2_becomeNew_33 rfl rfl ?_
      refine G_iconst (v := 0) hk dX2_becomeNew_34 (by decide) ?_
      refine G_iastX (j := r) hk dX2_becomeNew_35 (by assumption) rfl (by omega) (by decide) (by first | decide | omega) ?_
      refine G_iinc (v := nI (r + 1)) hk dX2_becomeNew_36 rfl (nI_inc r) (by decide) rfl ?_
      refine G_goto (tgt := 21) hk dX2_becomeNew_39 (by decide) ?_
      refine G_lv (by exact And.intro rfl (And.intro rfl (trivial))) (ih (r + 1) _ (by omega) (by omega) ?_)
      rw [hE1, va_up_up]
      congr 4
      funext i
      show (if i = r then (0 : Int32) else (if i < r then 0 else cl i)) = (if i < r + 1 then 0 else cl i)
      by_cases hi : i = r
      · rw [if_pos hi, if_pos (by omega)]
      · by_cases h7 : i < r
        · rw [if_neg hi, if_pos h7, if_pos (by omega)]
        · rw [if_neg hi, if_neg h7, if_neg (by omega)]

set_option maxHeartbeats 4000000 in
set_option maxRecDepth 100000 in
theorem c_X2_becomeNew (l : Launch) (V : gV) (ad : Nat → Nat) (E : Nat → va_E) (p : Nat) (hp : p + 1 < 44) (la0 sz0 : Int32) (cl : Nat → Int32) (hE : E p = wC ad p la0 sz0) (hE1 : E (p + 1) = gI V 60 cl) (la : Int32) (m : Nat) (hm : m ≤ 60) : Ct l V ad 44 44 yX2_becomeNew cX2_becomeNew 4 none { frames := 1, cells := 0, slots := 0, locals := 60 } [.ref (ad p), .int la, .int (nI m)] E (pV ad (fun E2 => E2 = va_up (va_up E p (wC ad p la (nI m))) (p + 1) (gI V 60 (fun i => if i < m then 0 else cl i)))) := by
  refine gCt mX2_becomeNew (Nat.le_of_ble_eq_true rfl) ?_
  intro K hk
  refine G_aload_n (i := 0) hk dX2_becomeNew_0 rfl rfl ?_
  refine G_iload_n (i := 1) hk dX2_becomeNew_1 rfl rfl ?_
  refine G_put hk fX2_15 iX2_1 dX2_becomeNew_2 (by assumption) (Nat.le_of_ble_eq_true rfl) (by first | decide | omega) ?_
  refine G_aload_n (i := 0) hk dX2_becomeNew_5 rfl rfl ?_
  refine G_iconst (v := 0) hk dX2_becomeNew_6 (by decide) ?_
  refine G_iload_n (i := 2) hk dX2_becomeNew_7 rfl rfl ?_
  refine G_bipush (v := 60) hk dX2_becomeNew_8 (by decide) ?_
  refine G_mmin hk jkX2_22 dX2_becomeNew_10 (Nat.le_of_ble_eq_true rfl) (by decide) (by decide) ?_
  rw [show (if (60 : Int32) < nI m then (60 : Int32) else nI m) = nI m from if_neg (fun q => absurd ((nlt (a := 60) (by omega) (by omega)).mp q) (by omega))]
  refine G_mmax hk jkX2_28 dX2_becomeNew_13 (Nat.le_of_ble_eq_true rfl) (by decide) (by decide) ?_
  rw [mx0 (show m < 100000 by omega)]
  refine G_put hk fX2_19 iX2_2 dX2_becomeNew_16 (va_up_self _ _ _) (Nat.le_of_ble_eq_true rfl) (by first | decide | omega) ?_
  rw [va_up_up]
  refine G_iconst (v := 0) hk dX2_becomeNew_19 (by decide) ?_
  refine G_istore_n (i := 3) hk dX2_becomeNew_20 rfl (by decide) rfl ?_
  refine G_lv (by exact And.intro rfl (And.intro rfl (trivial))) (lp_X2_becomeNew hk (va_up E p (wC ad p la (nI m))) p hp la m hm cl (va_up_self _ _ _) (m + 1) 0 _ (by omega) (by omega) ?_)
  funext q
  by_cases h1 : q = p + 1
  · subst h1
    rw [va_up_self, va_up_ne _ _ (by omega), hE1]
    rfl
  · rw [va_up_ne _ _ h1]
    rfl

set_option maxHeartbeats 4000000 in
set_option maxRecDepth 100000 in
theorem c_X4_kindOf (l : Launch) (V : gV) (ad : Nat → Nat) (E : Nat → va_E) (c : Int32) : Ct l V ad 44 44 yX4_kindOf cX4_kindOf 1 (some .int) { frames := 0, cells := 0, slots := 0, locals := 0 } [.int c] E (pI ad (pS E (sKd c))) := by
  refine gCt mX4_kindOf (Nat.le_of_ble_eq_true rfl) ?_
  intro K hk
  refine G_iload_n (i := 0) hk dX4_kindOf_0 rfl rfl ?_
  by_cases q1_66 : c = 66
  · skip
    refine G_lookup (off := 37) (tgt := 38) hk dX4_kindOf_1 (by decide) (by rw [q1_66]; decide) (by decide) ?_
    refine G_iconst (v := 1) hk dX4_kindOf_38 (by decide) ?_
    refine G_iret hk dX4_kindOf_39 ?_
    exact ⟨rfl, by unfold sKd; (try first | rw [if_pos q1_66] | rw [if_neg q1_66])⟩
  · skip
    by_cases q1_80 : c = 80
    · skip
      refine G_lookup (off := 35) (tgt := 36) hk dX4_kindOf_1 (by decide) (by rw [q1_80]; decide) (by decide) ?_
      refine G_iconst (v := 0) hk dX4_kindOf_36 (by decide) ?_
      refine G_iret hk dX4_kindOf_37 ?_
      exact ⟨rfl, by unfold sKd; (try first | rw [if_pos q1_66] | rw [if_neg q1_66]); (try first | rw [if_pos q1_80] | rw [if_neg q1_80])⟩
    · skip
      by_cases q1_87 : c = 87
      · skip
        refine G_lookup (off := 39) (tgt := 40) hk dX4_kindOf_1 (by decide) (by rw [q1_87]; decide) (by decide) ?_
        refine G_iconst (v := 2) hk dX4_kindOf_40 (by decide) ?_
        refine G_iret hk dX4_kindOf_41 ?_
        exact ⟨rfl, by unfold sKd; (try first | rw [if_pos q1_66] | rw [if_neg q1_66]); (try first | rw [if_pos q1_80] | rw [if_neg q1_80]); (try first | rw [if_pos q1_87] | rw [if_neg q1_87])⟩
      · skip
        refine G_lookup (off := 41) (tgt := 42) hk dX4_kindOf_1 (by decide) (show Op.lookupswitch.offset [(66, 37), (80, 35), (87, 39)] 41 (Int32.toInt (c)) = 41 by rw [lv_osw (k := 66) q1_66 (by decide), lv_osw (k := 80) q1_80 (by decide), lv_osw (k := 87) q1_87 (by decide)]; rfl) (by decide) ?_
        refine G_bipush (v := (-9)) hk dX4_kindOf_42 (by decide) ?_
        refine G_iret hk dX4_kindOf_44 ?_
        exact ⟨rfl, by unfold sKd; (try first | rw [if_pos q1_66] | rw [if_neg q1_66]); (try first | rw [if_pos q1_80] | rw [if_neg q1_80]); (try first | rw [if_pos q1_87] | rw [if_neg q1_87])⟩

set_option maxHeartbeats 4000000 in
set_option maxRecDepth 100000 in
theorem c_X4_deedOf (l : Launch) (V : gV) (ad : Nat → Nat) (E : Nat → va_E) (c : Int32) : Ct l V ad 44 44 yX4_deedOf cX4_deedOf 1 (some .int) { frames := 0, cells := 0, slots := 0, locals := 0 } [.int c] E (pI ad (pS E (sDd c))) := by
  refine gCt mX4_deedOf (Nat.le_of_ble_eq_true rfl) ?_
  intro K hk
  refine G_iload_n (i := 0) hk dX4_deedOf_0 rfl rfl ?_
  by_cases q1_68 : c = 68
  · skip
    refine G_lookup (off := 37) (tgt := 38) hk dX4_deedOf_1 (by decide) (by rw [q1_68]; decide) (by decide) ?_
    refine G_iconst (v := 1) hk dX4_deedOf_38 (by decide) ?_
    refine G_iret hk dX4_deedOf_39 ?_
    exact ⟨rfl, by unfold sDd; (try first | rw [if_pos q1_68] | rw [if_neg q1_68])⟩
  · skip
    by_cases q1_71 : c = 71
    · skip
      refine G_lookup (off := 35) (tgt := 36) hk dX4_deedOf_1 (by decide) (by rw [q1_71]; decide) (by decide) ?_
      refine G_iconst (v := 0) hk dX4_deedOf_36 (by decide) ?_
      refine G_iret hk dX4_deedOf_37 ?_
      exact ⟨rfl, by unfold sDd; (try first | rw [if_pos q1_68] | rw [if_neg q1_68]); (try first | rw [if_pos q1_71] | rw [if_neg q1_71])⟩
    · skip
      by_cases q1_74 : c = 74
      · skip
        refine G_lookup (off := 39) (tgt := 40) hk dX4_deedOf_1 (by decide) (by rw [q1_74]; decide) (by decide) ?_
        refine G_iconst (v := 2) hk dX4_deedOf_40 (by decide) ?_
        refine G_iret hk dX4_deedOf_41 ?_
        exact ⟨rfl, by unfold sDd; (try first | rw [if_pos q1_68] | rw [if_neg q1_68]); (try first | rw [if_pos q1_71] | rw [if_neg q1_71]); (try first | rw [if_pos q1_74] | rw [if_neg q1_74])⟩
      · skip
        refine G_lookup (off := 41) (tgt := 42) hk dX4_deedOf_1 (by decide) (show Op.lookupswitch.offset [(68, 37), (71, 35), (74, 39)] 41 (Int32.toInt (c)) = 41 by rw [lv_osw (k := 68) q1_68 (by decide), lv_osw (k := 71) q1_71 (by decide), lv_osw (k := 74) q1_74 (by decide)]; rfl) (by decide) ?_
        refine G_bipush (v := (-9)) hk dX4_deedOf_42 (by decide) ?_
        refine G_iret hk dX4_deedOf_44 ?_
        exact ⟨rfl, by unfold sDd; (try first | rw [if_pos q1_68] | rw [if_neg q1_68]); (try first | rw [if_pos q1_71] | rw [if_neg q1_71]); (try first | rw [if_pos q1_74] | rw [if_neg q1_74])⟩

set_option maxHeartbeats 4000000 in
set_option maxRecDepth 100000 in
theorem c_X4_goesOn (l : Launch) (V : gV) (ad : Nat → Nat) (E : Nat → va_E) (p : Nat) (hp : p + 1 < 44) (la : Int32) (sz : Nat) (hsz : sz ≤ 60) (cl : Nat → Int32) (hE : E p = wC ad p la (nI sz)) (hE1 : E (p + 1) = gI V 60 cl) (i m : Nat) (him : i + m ≤ sz) (q : Nat) (hq : q < m) : Ct l V ad 44 44 yX4_goesOn cX4_goesOn 4 (some .boolean) { frames := 1, cells := 0, slots := 0, locals := 22 } [.ref (ad p), .int (nI i), .int (nI q)] E (pI ad (pS E (gB (sGoD (fun a => cl (i + a)) q = true)))) := by
  refine gCt mX4_goesOn (Nat.le_of_ble_eq_true rfl) ?_
  intro K hk
  have hz : nI q = 0 ↔ q = 0 := neq (b := 0) (by omega) (by omega)
  have h42 : nI q ≤ 42 ↔ q ≤ 42 := nle (b := 42) (by omega) (by omega)
  have key : ∀ (c : Prop) [Decidable c], (sGo (fun a => cl (i + a)) q ↔ c) → gB c = gB (sGoD (fun a => cl (i + a)) q = true) := fun c _ h => gB_c (h.symm.trans sGoD_iff.symm)
  refine G_aload_n (i := 0) hk dX4_goesOn_0 rfl rfl ?_
  refine G_iload_n (i := 1) hk dX4_goesOn_1 rfl rfl ?_
  refine G_iload_n (i := 2) hk dX4_goesOn_2 rfl rfl ?_
  refine G_iadd hk dX4_goesOn_3 ?_
  rw [nI_add]
  refine G_cVi hk (c_X2_read l V ad E p hp la sz hsz cl hE hE1 (i + q) (by omega)) mX2_read vX2_read kX4_15 dX4_goesOn_4 (by assumption) (by rfl) (by first | decide | omega) rfl (by decide) (by decide) rfl (Nat.le_of_ble_eq_true rfl) (fun r_4 E_4 h_4 => ?_)
  obtain ⟨rfl, rfl⟩ := h_4
  refine G_istore_n (i := 3) hk dX4_goesOn_7 rfl (by decide) rfl ?_
  refine G_iload_n (i := 2) hk dX4_goesOn_8 rfl rfl ?_
  refine G_if_ne (tgt := 24) hk dX4_goesOn_9 (by decide) (fun c_9 => ?_) (fun c_9 => ?_)
  · try simp only [gB_ne, gB_eq, Decidable.not_not] at c_9
    have hq0 : ¬ q = 0 := fun z => c_9 (hz.mpr z)
    refine G_iload_n (i := 2) hk dX4_goesOn_24 rfl rfl ?_
    refine G_bipush (v := 42) hk dX4_goesOn_25 (by decide) ?_
    refine G_icmp_le (tgt := 32) hk dX4_goesOn_27 (by decide) (fun c_27 => ?_) (fun c_27 => ?_)
    · try simp only [gB_ne, gB_eq, Decidable.not_not] at c_27
      have hq42 := h42.mp c_27
      have hrem : (nI q - 1) - (nI q - 1) / 6 * 6 = nI ((q - 1) % 6) := by rw [show nI q - 1 = nI (q - 1) from pk_sub (b := 1) (by omega)]; exact pk_rem6 (by omega)
      have hm6 : (q - 1) % 6 < 6 := Nat.mod_lt _ (by omega)
      have key2 : ∀ (t : Nat) (x : Int32), x = nI t → t < 100 → (nI ((q - 1) % 6) = x ↔ (q - 1) % 6 = t) := fun t x e h => by rw [e]; exact neq (by omega) (by omega)
      have hG : sGo (fun a => cl (i + a)) q ↔ (if (q - 1) % 6 = 0 then cl (i + q) = 59 else if (q - 1) % 6 = 1 then sKd (cl (i + q)) ≠ -9 else if (q - 1) % 6 = 2 then sDd (cl (i + q)) ≠ -9 else if (q - 1) % 6 = 3 then 49 ≤ cl (i + q) ∧ cl (i + q) ≤ 57 else if (q - 1) % 6 = 4 then 97 ≤ cl (i + q) ∧ cl (i + q) ≤ 122 else cl (i + (q - 1)) ≤ cl (i + q) ∧ cl (i + q) ≤ 122) := by unfold sGo; rw [if_neg hq0, if_neg (by omega)]
      refine G_iload_n (i := 2) hk dX4_goesOn_32 rfl rfl ?_
      refine G_iconst (v := 1) hk dX4_goesOn_33 (by decide) ?_
      refine G_isub hk dX4_goesOn_34 ?_
      refine G_bipush (v := 6) hk dX4_goesOn_35 (by decide) ?_
      refine G_irem hk dX4_goesOn_37 (by decide) ?_
      rw [hrem]
      by_cases q38_0 : nI ((q - 1) % 6) = 0
      · skip
        refine G_tbl (off := 34) (tgt := 72) 0 hk dX4_goesOn_38 (by rw [q38_0]; decide) (by decide) (by decide) (by rfl) (by decide) ?_
        have k0 := (key2 0 0 rfl (by omega)).mp q38_0
        rw [if_pos k0] at hG
        refine G_iload_n (i := 3) hk dX4_goesOn_72 rfl rfl ?_
        refine G_bipush (v := 59) hk dX4_goesOn_73 (by decide) ?_
        refine G_icmp_ne (tgt := 82) hk dX4_goesOn_75 (by decide) (fun c_75 => ?_) (fun c_75 => ?_)
        · try simp only [gB_ne, gB_eq, Decidable.not_not] at c_75
          refine G_iconst (v := 0) hk dX4_goesOn_82 (by decide) ?_
          refine G_zret hk dX4_goesOn_83 (by first | rfl | exact gB_nar _) ?_
          first | exact ⟨rfl, (gB_t (sGoD_iff.mpr (hG.mpr (by assumption)))).symm⟩ | exact ⟨rfl, (gB_t (sGoD_iff.mpr (hG.mpr (Decidable.not_not.mp (by assumption))))).symm⟩ | exact ⟨rfl, (gB_f (fun z => absurd (hG.mp (sGoD_iff.mp z)) (by assumption))).symm⟩ | exact ⟨rfl, (gB_f (fun z => absurd (by assumption) (hG.mp (sGoD_iff.mp z)))).symm⟩
        · try simp only [gB_ne, gB_eq, Decidable.not_not] at c_75
          refine G_iconst (v := 1) hk dX4_goesOn_78 (by decide) ?_
          refine G_goto (tgt := 83) hk dX4_goesOn_79 (by decide) ?_
          refine G_zret hk dX4_goesOn_83 (by first | rfl | exact gB_nar _) ?_
          first | exact ⟨rfl, (gB_t (sGoD_iff.mpr (hG.mpr (by assumption)))).symm⟩ | exact ⟨rfl, (gB_t (sGoD_iff.mpr (hG.mpr (Decidable.not_not.mp (by assumption))))).symm⟩ | exact ⟨rfl, (gB_f (fun z => absurd (hG.mp (sGoD_iff.mp z)) (by assumption))).symm⟩ | exact ⟨rfl, (gB_f (fun z => absurd (by assumption) (hG.mp (sGoD_iff.mp z)))).symm⟩
      · skip
        by_cases q38_1 : nI ((q - 1) % 6) = 1
        · skip
          refine G_tbl (off := 46) (tgt := 84) 1 hk dX4_goesOn_38 (by rw [q38_1]; decide) (by decide) (by decide) (by rfl) (by decide) ?_
          have k0 := mt (key2 0 0 rfl (by omega)).mpr q38_0
          have k1 := (key2 1 1 rfl (by omega)).mp q38_1
          rw [if_neg k0, if_pos k1] at hG
          refine G_iload_n (i := 3) hk dX4_goesOn_84 rfl rfl ?_
          refine G_cSi hk (c_X4_kindOf l V ad E (cl (i + q))) mX4_kindOf sX4_kindOf kX4_21 dX4_goesOn_85 rfl (by decide) (by decide) rfl (Nat.le_of_ble_eq_true rfl) (fun r_85 E_85 h_85 => ?_)
          obtain ⟨rfl, rfl⟩ := h_85
          refine G_bipush (v := (-9)) hk dX4_goesOn_88 (by decide) ?_
          refine G_icmp_eq (tgt := 97) hk dX4_goesOn_90 (by decide) (fun c_90 => ?_) (fun c_90 => ?_)
          · try simp only [gB_ne, gB_eq, Decidable.not_not] at c_90
            refine G_iconst (v := 0) hk dX4_goesOn_97 (by decide) ?_
            refine G_zret hk dX4_goesOn_98 (by first | rfl | exact gB_nar _) ?_
            first | exact ⟨rfl, (gB_t (sGoD_iff.mpr (hG.mpr (by assumption)))).symm⟩ | exact ⟨rfl, (gB_t (sGoD_iff.mpr (hG.mpr (Decidable.not_not.mp (by assumption))))).symm⟩ | exact ⟨rfl, (gB_f (fun z => absurd (hG.mp (sGoD_iff.mp z)) (by assumption))).symm⟩ | exact ⟨rfl, (gB_f (fun z => absurd (by assumption) (hG.mp (sGoD_iff.mp z)))).symm⟩
          · try simp only [gB_ne, gB_eq, Decidable.not_not] at c_90
            refine G_iconst (v := 1) hk dX4_goesOn_93 (by decide) ?_
            refine G_goto (tgt := 98) hk dX4_goesOn_94 (by decide) ?_
            refine G_zret hk dX4_goesOn_98 (by first | rfl | exact gB_nar _) ?_
            first | exact ⟨rfl, (gB_t (sGoD_iff.mpr (hG.mpr (by assumption)))).symm⟩ | exact ⟨rfl, (gB_t (sGoD_iff.mpr (hG.mpr (Decidable.not_not.mp (by assumption))))).symm⟩ | exact ⟨rfl, (gB_f (fun z => absurd (hG.mp (sGoD_iff.mp z)) (by assumption))).symm⟩ | exact ⟨rfl, (gB_f (fun z => absurd (by assumption) (hG.mp (sGoD_iff.mp z)))).symm⟩
        · skip
          by_cases q38_2 : nI ((q - 1) % 6) = 2
          · skip
            refine G_tbl (off := 61) (tgt := 99) 2 hk dX4_goesOn_38 (by rw [q38_2]; decide) (by decide) (by decide) (by rfl) (by decide) ?_
            have k0 := mt (key2 0 0 rfl (by omega)).mpr q38_0
            have k1 := mt (key2 1 1 rfl (by omega)).mpr q38_1
            have k2 := (key2 2 2 rfl (by omega)).mp q38_2
            rw [if_neg k0, if_neg k1, if_pos k2] at hG
            refine G_iload_n (i := 3) hk dX4_goesOn_99 rfl rfl ?_
            refine G_cSi hk (c_X4_deedOf l V ad E (cl (i + q))) mX4_deedOf sX4_deedOf kX4_24 dX4_goesOn_100 rfl (by decide) (by decide) rfl (Nat.le_of_ble_eq_true rfl) (fun r_100 E_100 h_100 => ?_)
            obtain ⟨rfl, rfl⟩ := h_100
            refine G_bipush (v := (-9)) hk dX4_goesOn_103 (by decide) ?_
            refine G_icmp_eq (tgt := 112) hk dX4_goesOn_105 (by decide) (fun c_105 => ?_) (fun c_105 => ?_)
            · try simp only [gB_ne, gB_eq, Decidable.not_not] at c_105
              refine G_iconst (v := 0) hk dX4_goesOn_112 (by decide) ?_
              refine G_zret hk dX4_goesOn_113 (by first | rfl | exact gB_nar _) ?_
              first | exact ⟨rfl, (gB_t (sGoD_iff.mpr (hG.mpr (by assumption)))).symm⟩ | exact ⟨rfl, (gB_t (sGoD_iff.mpr (hG.mpr (Decidable.not_not.mp (by assumption))))).symm⟩ | exact ⟨rfl, (gB_f (fun z => absurd (hG.mp (sGoD_iff.mp z)) (by assumption))).symm⟩ | exact ⟨rfl, (gB_f (fun z => absurd (by assumption) (hG.mp (sGoD_iff.mp z)))).symm⟩
            · try simp only [gB_ne, gB_eq, Decidable.not_not] at c_105
              refine G_iconst (v := 1) hk dX4_goesOn_108 (by decide) ?_
              refine G_goto (tgt := 113) hk dX4_goesOn_109 (by decide) ?_
              refine G_zret hk dX4_goesOn_113 (by first | rfl | exact gB_nar _) ?_
              first | exact ⟨rfl, (gB_t (sGoD_iff.mpr (hG.mpr (by assumption)))).symm⟩ | exact ⟨rfl, (gB_t (sGoD_iff.mpr (hG.mpr (Decidable.not_not.mp (by assumption))))).symm⟩ | exact ⟨rfl, (gB_f (fun z => absurd (hG.mp (sGoD_iff.mp z)) (by assumption))).symm⟩ | exact ⟨rfl, (gB_f (fun z => absurd (by assumption) (hG.mp (sGoD_iff.mp z)))).symm⟩
          · skip
            by_cases q38_3 : nI ((q - 1) % 6) = 3
            · skip
              refine G_tbl (off := 76) (tgt := 114) 3 hk dX4_goesOn_38 (by rw [q38_3]; decide) (by decide) (by decide) (by rfl) (by decide) ?_
              have k0 := mt (key2 0 0 rfl (by omega)).mpr q38_0
              have k1 := mt (key2 1 1 rfl (by omega)).mpr q38_1
              have k2 := mt (key2 2 2 rfl (by omega)).mpr q38_2
              have k3 := (key2 3 3 rfl (by omega)).mp q38_3
              rw [if_neg k0, if_neg k1, if_neg k2, if_pos k3] at hG
              refine G_iload_n (i := 3) hk dX4_goesOn_114 rfl rfl ?_
              refine G_bipush (v := 49) hk dX4_goesOn_115 (by decide) ?_
              refine G_bipush (v := 57) hk dX4_goesOn_117 (by decide) ?_
              refine G_cSNi hk (c_X5_isIn l V ad E (cl (i + q)) 49 57) mX5_isIn sX5_isIn (fun q => q.2.2.2.1) dX4_goesOn_119 rfl (by decide) (by decide) rfl (Nat.le_of_ble_eq_true rfl) (fun r_119 E_119 h_119 => ?_)
              obtain ⟨rfl, rfl⟩ := h_119
              refine G_zret hk dX4_goesOn_122 (by first | rfl | exact gB_nar _) ?_
              exact ⟨rfl, key _ hG⟩
            · skip
              by_cases q38_4 : nI ((q - 1) % 6) = 4
              · skip
                refine G_tbl (off := 85) (tgt := 123) 4 hk dX4_goesOn_38 (by rw [q38_4]; decide) (by decide) (by decide) (by rfl) (by decide) ?_
                have k0 := mt (key2 0 0 rfl (by omega)).mpr q38_0
                have k1 := mt (key2 1 1 rfl (by omega)).mpr q38_1
                have k2 := mt (key2 2 2 rfl (by omega)).mpr q38_2
                have k3 := mt (key2 3 3 rfl (by omega)).mpr q38_3
                have k4 := (key2 4 4 rfl (by omega)).mp q38_4
                rw [if_neg k0, if_neg k1, if_neg k2, if_neg k3, if_pos k4] at hG
                refine G_iload_n (i := 3) hk dX4_goesOn_123 rfl rfl ?_
                refine G_bipush (v := 97) hk dX4_goesOn_124 (by decide) ?_
                refine G_bipush (v := 122) hk dX4_goesOn_126 (by decide) ?_
                refine G_cSNi hk (c_X5_isIn l V ad E (cl (i + q)) 97 122) mX5_isIn sX5_isIn (fun q => q.2.2.2.1) dX4_goesOn_128 rfl (by decide) (by decide) rfl (Nat.le_of_ble_eq_true rfl) (fun r_128 E_128 h_128 => ?_)
                obtain ⟨rfl, rfl⟩ := h_128
                refine G_zret hk dX4_goesOn_131 (by first | rfl | exact gB_nar _) ?_
                exact ⟨rfl, key _ hG⟩
              · skip
                refine G_tableOut (tgt := 132) hk dX4_goesOn_38 (by have a_0 := lv_neT (a := 0) q38_0 (by decide); have a_1 := lv_neT (a := 1) q38_1 (by decide); have a_2 := lv_neT (a := 2) q38_2 (by decide); have a_3 := lv_neT (a := 3) q38_3 (by decide); have a_4 := lv_neT (a := 4) q38_4 (by decide); omega) (by decide) ?_
                have k0 := mt (key2 0 0 rfl (by omega)).mpr q38_0
                have k1 := mt (key2 1 1 rfl (by omega)).mpr q38_1
                have k2 := mt (key2 2 2 rfl (by omega)).mpr q38_2
                have k3 := mt (key2 3 3 rfl (by omega)).mpr q38_3
                have k4 := mt (key2 4 4 rfl (by omega)).mpr q38_4
                rw [if_neg k0, if_neg k1, if_neg k2, if_neg k3, if_neg k4] at hG
                refine G_iload_n (i := 3) hk dX4_goesOn_132 rfl rfl ?_
                refine G_aload_n (i := 0) hk dX4_goesOn_133 rfl rfl ?_
                refine G_iload_n (i := 1) hk dX4_goesOn_134 rfl rfl ?_
                refine G_iload_n (i := 2) hk dX4_goesOn_135 rfl rfl ?_
                refine G_iadd hk dX4_goesOn_136 ?_
                rw [nI_add]
                refine G_iconst (v := 1) hk dX4_goesOn_137 (by decide) ?_
                refine G_isub hk dX4_goesOn_138 ?_
                rw [show nI (i + q) - 1 = nI (i + (q - 1)) by rw [← Nat.add_sub_assoc (by omega)]; exact pk_sub (b := 1) (by omega)]
                refine G_cVi hk (c_X2_read l V ad E p hp la sz hsz cl hE hE1 (i + (q - 1)) (by omega)) mX2_read vX2_read kX4_15 dX4_goesOn_139 (by assumption) (by rfl) (by first | decide | omega) rfl (by decide) (by decide) rfl (Nat.le_of_ble_eq_true rfl) (fun r_139 E_139 h_139 => ?_)
                obtain ⟨rfl, rfl⟩ := h_139
                refine G_bipush (v := 122) hk dX4_goesOn_142 (by decide) ?_
                refine G_cSNi hk (c_X5_isIn l V ad E (cl (i + q)) (cl (i + (q - 1))) 122) mX5_isIn sX5_isIn (fun q => q.2.2.2.1) dX4_goesOn_144 rfl (by decide) (by decide) rfl (Nat.le_of_ble_eq_true rfl) (fun r_144 E_144 h_144 => ?_)
                obtain ⟨rfl, rfl⟩ := h_144
                refine G_zret hk dX4_goesOn_147 (by first | rfl | exact gB_nar _) ?_
                exact ⟨rfl, key _ hG⟩
    · try simp only [gB_ne, gB_eq, Decidable.not_not] at c_27
      have hq42 : ¬ q ≤ 42 := fun z => c_27 (h42.mpr z)
      refine G_iconst (v := 0) hk dX4_goesOn_30 (by decide) ?_
      refine G_zret hk dX4_goesOn_31 (by first | rfl | exact gB_nar _) ?_
      exact ⟨rfl, (gB_f (fun z => by have := sGoD_iff.mp z; unfold sGo at this; rw [if_neg hq0, if_pos (by omega)] at this; exact this)).symm⟩
  · try simp only [gB_ne, gB_eq, Decidable.not_not] at c_9
    have hq0 : q = 0 := hz.mp (by first | exact c_9 | exact Decidable.not_not.mp c_9)
    refine G_iload_n (i := 3) hk dX4_goesOn_12 rfl rfl ?_
    refine G_bipush (v := 113) hk dX4_goesOn_13 (by decide) ?_
    refine G_icmp_ne (tgt := 22) hk dX4_goesOn_15 (by decide) (fun c_15 => ?_) (fun c_15 => ?_)
    · try simp only [gB_ne, gB_eq, Decidable.not_not] at c_15
      refine G_iconst (v := 0) hk dX4_goesOn_22 (by decide) ?_
      refine G_zret hk dX4_goesOn_23 (by first | rfl | exact gB_nar _) ?_
      subst hq0
      have hG : sGo (fun a => cl (i + a)) 0 ↔ cl (i + 0) = 113 := by unfold sGo; rw [if_pos rfl]
      first | exact ⟨rfl, (gB_t (sGoD_iff.mpr (hG.mpr c_15))).symm⟩ | exact ⟨rfl, (gB_t (sGoD_iff.mpr (hG.mpr (Decidable.not_not.mp c_15)))).symm⟩ | exact ⟨rfl, (gB_f (fun z => c_15 (hG.mp (sGoD_iff.mp z)))).symm⟩
    · try simp only [gB_ne, gB_eq, Decidable.not_not] at c_15
      refine G_iconst (v := 1) hk dX4_goesOn_18 (by decide) ?_
      refine G_goto (tgt := 23) hk dX4_goesOn_19 (by decide) ?_
      refine G_zret hk dX4_goesOn_23 (by first | rfl | exact gB_nar _) ?_
      subst hq0
      have hG : sGo (fun a => cl (i + a)) 0 ↔ cl (i + 0) = 113 := by unfold sGo; rw [if_pos rfl]
      first | exact ⟨rfl, (gB_t (sGoD_iff.mpr (hG.mpr c_15))).symm⟩ | exact ⟨rfl, (gB_t (sGoD_iff.mpr (hG.mpr (Decidable.not_not.mp c_15)))).symm⟩ | exact ⟨rfl, (gB_f (fun z => c_15 (hG.mp (sGoD_iff.mp z)))).symm⟩
end
section
/-! the class's state: rules (n, R), readings (rd, rp, rw), trace, fault, sheets (lane la, size sz, cells cl) -/
abbrev cS : Type := Nat × (Nat → Nat → Int32) × Nat × (Nat → Int32) × (Nat → Int32) × Int32 × Int32 × (Nat → Int32) × (Nat → Nat) × (Nat → Nat → Int32)
abbrev oC (ad : Nat → Nat) (rd tr fa : Int32) : va_E := .inr (4, [.ref (ad 1), .ref (ad 12), .ref (ad 23), .ref (ad 24), .ref (ad 25), .int rd, .int tr, .int fa])
def cR (V : gV) (ad : Nat → Nat) (E : Nat → va_E) : cS → Prop
  | (n, R, rd, rp, rw, tr, fa, la, sz, cl) => E 0 = oC ad (nI rd) tr fa ∧ (∃ π, bkB V ad E 1 n π R) ∧ (∃ dn wo dl, bkA V ad E 1 dn wo dl) ∧ (∃ n2 π2 R2, bkB V ad E 12 n2 π2 R2) ∧ (∃ dn wo dl, bkA V ad E 12 dn wo dl) ∧ E 23 = gRw V 4 (fun i => some (ad (26 + 2 * i))) ∧ E 24 = gI V 8 rp ∧ E 25 = gI V 8 rw ∧ (∀ s, s < 4 → E (26 + 2 * s) = wC ad (26 + 2 * s) (la s) (nI (sz s)) ∧ E (26 + 2 * s + 1) = gI V 60 (cl s) ∧ sz s ≤ 60) ∧ rd ≤ 8
def fr (E E2 : Nat → va_E) : Prop := ∀ k, 34 ≤ k → E2 k = E k
theorem fr.rf {E : Nat → va_E} : fr E E := fun _ _ => rfl
theorem fr.tr {E E2 E3 : Nat → va_E} (h : fr E E2) (h2 : fr E2 E3) : fr E E3 := fun k hk => (h2 k hk).trans (h k hk)
theorem fr.up {E : Nat → va_E} {k : Nat} {c : va_E} (h : k < 34) : fr E (va_up E k c) := fun q hq => va_up_ne _ _ (by omega)
theorem fr.aX {V : gV} {ad : Nat → Nat} {E E2 : Nat → va_E} {bb : Nat} (h : aX V ad bb E E2) (hb : bb + 10 < 34) : fr E E2 := fun q hq => h.1 q (by omega) (by omega)
theorem fr.bk {V : gV} {ad : Nat → Nat} {E E2 : Nat → va_E} {bb n : Nat} {R : Nat → Nat → Int32} (h : bkM V ad bb E E2 n R) (hb : bb + 10 < 34) : fr E E2 := fun q hq => h.2.2.2 q (by omega)
theorem bkB.eq {V : gV} {ad : Nat → Nat} {E E2 : Nat → va_E} {bb n : Nat} {π : Nat → Nat} {R : Nat → Nat → Int32} (h : bkB V ad E bb n π R) (hx : ∀ k, bb ≤ k → k ≤ bb + 10 → E2 k = E k) : bkB V ad E2 bb n π R := by
  obtain ⟨h0, h1, h2, h3, h4, h5, h6⟩ := h
  exact ⟨(hx _ (by omega) (by omega)).trans h0, (hx _ (by omega) (by omega)).trans h1, fun i hi => (hx _ (by omega) (by have := h4 i hi; omega)).trans (h2 i hi), h3, h4, h5, h6⟩
theorem bkA.eq {V : gV} {ad : Nat → Nat} {E E2 : Nat → va_E} {bb : Nat} {dn wo : Int32} {dl : Nat → Int32} (h : bkA V ad E bb dn wo dl) (h2 : E2 (bb + 2) = E (bb + 2)) (h3 : E2 (bb + 3) = E (bb + 3)) : bkA V ad E2 bb dn wo dl := ⟨h2.trans h.1, h3.trans h.2⟩
section CR
variable {V : gV} {ad : Nat → Nat} {E E2 : Nat → va_E} {n rd : Nat} {R : Nat → Nat → Int32} {rp rw : Nat → Int32} {tr fa : Int32} {la : Nat → Int32} {sz : Nat → Nat} {cl : Nat → Nat → Int32}
theorem cR.sc {rd2 : Nat} {tr2 fa2 : Int32} (h : cR V ad E (n, R, rd, rp, rw, tr, fa, la, sz, cl)) (hr : rd2 ≤ 8) : cR V ad (va_up E 0 (oC ad (nI rd2) tr2 fa2)) (n, R, rd2, rp, rw, tr2, fa2, la, sz, cl) := by
  obtain ⟨h0, ⟨π, hB⟩, ⟨dn, wo, dl, hA⟩, ⟨n2, π2, R2, hB2⟩, ⟨dn2, wo2, dl2, hA2⟩, h3, h4, h5, h6, h7⟩ := h
  have hx : ∀ k, 0 < k → (va_up E 0 (oC ad (nI rd2) tr2 fa2)) k = E k := fun k hk => va_up_ne _ _ (by omega)
  exact ⟨va_up_self _ _ _, ⟨π, hB.eq fun k a b => hx k (by omega)⟩, ⟨dn, wo, dl, hA.eq (hx _ (by omega)) (hx _ (by omega))⟩, ⟨n2, π2, R2, hB2.eq fun k a b => hx k (by omega)⟩, ⟨dn2, wo2, dl2, hA2.eq (hx _ (by omega)) (hx _ (by omega))⟩, (hx _ (by omega)).trans h3, (hx _ (by omega)).trans h4, (hx _ (by omega)).trans h5, fun s hs => ⟨(hx _ (by omega)).trans (h6 s hs).1, (hx _ (by omega)).trans (h6 s hs).2.1, (h6 s hs).2.2⟩, hr⟩
theorem cR.ask (h : cR V ad E (n, R, rd, rp, rw, tr, fa, la, sz, cl)) (hX : aX V ad 1 E E2) : cR V ad E2 (n, R, rd, rp, rw, tr, fa, la, sz, cl) := by
  obtain ⟨h0, ⟨π, hB⟩, -, ⟨n2, π2, R2, hB2⟩, ⟨dn2, wo2, dl2, hA2⟩, h3, h4, h5, h6, h7⟩ := h
  have hx : ∀ k, k < 3 ∨ 4 < k → E2 k = E k := fun k hk => hX.1 k (by omega) (by omega)
  exact ⟨(hx _ (by omega)).trans h0, ⟨π, hB.ex hX.1⟩, hX.2, ⟨n2, π2, R2, hB2.eq fun k a b => hx k (by omega)⟩, ⟨dn2, wo2, dl2, hA2.eq (hx _ (by omega)) (hx _ (by omega))⟩, (hx _ (by omega)).trans h3, (hx _ (by omega)).trans h4, (hx _ (by omega)).trans h5, fun s hs => ⟨(hx _ (by omega)).trans (h6 s hs).1, (hx _ (by omega)).trans (h6 s hs).2.1, (h6 s hs).2.2⟩, h7⟩
theorem cR.askD (h : cR V ad E (n, R, rd, rp, rw, tr, fa, la, sz, cl)) (hX : aX V ad 12 E E2) : cR V ad E2 (n, R, rd, rp, rw, tr, fa, la, sz, cl) := by
  obtain ⟨h0, ⟨π, hB⟩, ⟨dn2, wo2, dl2, hA2⟩, ⟨n2, π2, R2, hB2⟩, -, h3, h4, h5, h6, h7⟩ := h
  have hx : ∀ k, k < 14 ∨ 15 < k → E2 k = E k := fun k hk => hX.1 k (by omega) (by omega)
  exact ⟨(hx _ (by omega)).trans h0, ⟨π, hB.eq fun k a b => hx k (by omega)⟩, ⟨dn2, wo2, dl2, hA2.eq (hx _ (by omega)) (hx _ (by omega))⟩, ⟨n2, π2, R2, hB2.ex hX.1⟩, hX.2, (hx _ (by omega)).trans h3, (hx _ (by omega)).trans h4, (hx _ (by omega)).trans h5, fun s hs => ⟨(hx _ (by omega)).trans (h6 s hs).1, (hx _ (by omega)).trans (h6 s hs).2.1, (h6 s hs).2.2⟩, h7⟩
theorem cR.bk {m : Nat} {Rn : Nat → Nat → Int32} (h : cR V ad E (n, R, rd, rp, rw, tr, fa, la, sz, cl)) (hM : bkM V ad 1 E E2 m Rn) : ∃ R', cR V ad E2 (m, R', rd, rp, rw, tr, fa, la, sz, cl) ∧ ∀ i, i < m → R' i = Rn i := by
  obtain ⟨h0, -, ⟨dn, wo, dl, hA⟩, ⟨n2, π2, R2, hB2⟩, ⟨dn2, wo2, dl2, hA2⟩, h3, h4, h5, h6, h7⟩ := h
  obtain ⟨⟨π', R', hB', hR'⟩, a2, a3, hB⟩ := hM
  have hx : ∀ k, k < 1 ∨ 11 < k → E2 k = E k := fun k hk => hB k (by omega)
  exact ⟨R', ⟨(hx _ (by omega)).trans h0, ⟨π', hB'⟩, ⟨dn, wo, dl, hA.eq a2 a3⟩, ⟨n2, π2, R2, hB2.eq fun k a b => hx k (by omega)⟩, ⟨dn2, wo2, dl2, hA2.eq (hx _ (by omega)) (hx _ (by omega))⟩, (hx _ (by omega)).trans h3, (hx _ (by omega)).trans h4, (hx _ (by omega)).trans h5, fun s hs => ⟨(hx _ (by omega)).trans (h6 s hs).1, (hx _ (by omega)).trans (h6 s hs).2.1, (h6 s hs).2.2⟩, h7⟩, hR'⟩
theorem cR.bkD {m : Nat} {Rn : Nat → Nat → Int32} (h : cR V ad E (n, R, rd, rp, rw, tr, fa, la, sz, cl)) (hM : bkM V ad 12 E E2 m Rn) : cR V ad E2 (n, R, rd, rp, rw, tr, fa, la, sz, cl) := by
  obtain ⟨h0, ⟨π, hB⟩, ⟨dn, wo, dl, hA⟩, -, ⟨dn2, wo2, dl2, hA2⟩, h3, h4, h5, h6, h7⟩ := h
  obtain ⟨⟨π', R', hB', hR'⟩, a2, a3, hx0⟩ := hM
  have hx : ∀ k, k < 12 ∨ 22 < k → E2 k = E k := fun k hk => hx0 k (by omega)
  exact ⟨(hx _ (by omega)).trans h0, ⟨π, hB.eq fun k a b => hx k (by omega)⟩, ⟨dn, wo, dl, hA.eq (hx _ (by omega)) (hx _ (by omega))⟩, ⟨m, π', R', hB'⟩, ⟨dn2, wo2, dl2, hA2.eq a2 a3⟩, (hx _ (by omega)).trans h3, (hx _ (by omega)).trans h4, (hx _ (by omega)).trans h5, fun s hs => ⟨(hx _ (by omega)).trans (h6 s hs).1, (hx _ (by omega)).trans (h6 s hs).2.1, (h6 s hs).2.2⟩, h7⟩
theorem cR.rule {π : Nat → Nat} {r : Nat} (h : cR V ad E (n, R, rd, rp, rw, tr, fa, la, sz, cl)) (hB : bkB V ad E 1 n π R) (hr : r < 7) (q : Nat → Int32) : cR V ad (va_up E (1 + 4 + π r) (rC q)) (n, fun i => if i = r then q else R i, rd, rp, rw, tr, fa, la, sz, cl) := by
  obtain ⟨h0, -, ⟨dn, wo, dl, hA⟩, ⟨n2, π2, R2, hB2⟩, ⟨dn2, wo2, dl2, hA2⟩, h3, h4, h5, h6, h7⟩ := h
  have hp := hB.2.2.2.2.1 r hr
  have hx : ∀ k, k < 5 ∨ 11 < k → (va_up E (1 + 4 + π r) (rC q)) k = E k := fun k hk => va_up_ne _ _ (by omega)
  exact ⟨(hx _ (by omega)).trans h0, ⟨π, hB.rule hr q⟩, ⟨dn, wo, dl, hA.eq (hx _ (by omega)) (hx _ (by omega))⟩, ⟨n2, π2, R2, hB2.eq fun k a b => hx k (by omega)⟩, ⟨dn2, wo2, dl2, hA2.eq (hx _ (by omega)) (hx _ (by omega))⟩, (hx _ (by omega)).trans h3, (hx _ (by omega)).trans h4, (hx _ (by omega)).trans h5, fun s hs => ⟨(hx _ (by omega)).trans (h6 s hs).1, (hx _ (by omega)).trans (h6 s hs).2.1, (h6 s hs).2.2⟩, h7⟩
theorem cR.out (h : cR V ad E (n, R, rd, rp, rw, tr, fa, la, sz, cl)) {rp2 rw2 : Nat → Int32} {la2 : Nat → Int32} {sz2 : Nat → Nat} {cl2 : Nat → Nat → Int32} (hx : ∀ k, k < 24 → E2 k = E k) (h4 : E2 24 = gI V 8 rp2) (h5 : E2 25 = gI V 8 rw2) (h6 : ∀ s, s < 4 → E2 (26 + 2 * s) = wC ad (26 + 2 * s) (la2 s) (nI (sz2 s)) ∧ E2 (26 + 2 * s + 1) = gI V 60 (cl2 s) ∧ sz2 s ≤ 60) : cR V ad E2 (n, R, rd, rp2, rw2, tr, fa, la2, sz2, cl2) := by
  obtain ⟨h0, ⟨π, hB⟩, ⟨dn, wo, dl, hA⟩, ⟨n2, π2, R2, hB2⟩, ⟨dn2, wo2, dl2, hA2⟩, h3, -, -, -, h7⟩ := h
  exact ⟨(hx _ (by omega)).trans h0, ⟨π, hB.eq fun k a b => hx k (by omega)⟩, ⟨dn, wo, dl, hA.eq (hx _ (by omega)) (hx _ (by omega))⟩, ⟨n2, π2, R2, hB2.eq fun k a b => hx k (by omega)⟩, ⟨dn2, wo2, dl2, hA2.eq (hx _ (by omega)) (hx _ (by omega))⟩, (hx _ (by omega)).trans h3, h4, h5, h6, h7⟩
/-- one sheet's cells written -/
theorem cR.cells {s : Nat} (h : cR V ad E (n, R, rd, rp, rw, tr, fa, la, sz, cl)) (hs : s < 4) (c : Nat → Int32) : cR V ad (va_up E (26 + 2 * s + 1) (gI V 60 c)) (n, R, rd, rp, rw, tr, fa, la, sz, va_up cl s c) := by
  obtain ⟨-, -, -, -, -, -, h4, h5, h6, -⟩ := id h
  refine h.out (fun k hk => va_up_ne _ _ (by omega)) (by rw [va_up_ne _ _ (by omega)]; exact h4) (by rw [va_up_ne _ _ (by omega)]; exact h5) (fun t ht => ⟨by rw [va_up_ne _ _ (by omega)]; exact (h6 t ht).1, ?_, (h6 t ht).2.2⟩)
  by_cases hts : t = s
  · subst hts
    rw [va_up_self, va_up_self]
  · rw [va_up_ne _ _ (by omega), va_up_ne _ _ hts]
    exact (h6 t ht).2.1
/-- one sheet's lane and size -/
theorem cR.row {s m : Nat} {a : Int32} (h : cR V ad E (n, R, rd, rp, rw, tr, fa, la, sz, cl)) (hs : s < 4) (hm : m ≤ 60) : cR V ad (va_up E (26 + 2 * s) (wC ad (26 + 2 * s) a (nI m))) (n, R, rd, rp, rw, tr, fa, va_up la s a, va_up sz s m, cl) := by
  obtain ⟨-, -, -, -, -, -, h4, h5, h6, -⟩ := id h
  refine h.out (fun k hk => va_up_ne _ _ (by omega)) (by rw [va_up_ne _ _ (by omega)]; exact h4) (by rw [va_up_ne _ _ (by omega)]; exact h5) (fun t ht => ?_)
  by_cases hts : t = s
  · subst hts
    rw [va_up_self, va_up_self, va_up_self, va_up_ne _ _ (by omega)]
    exact ⟨rfl, (h6 t ht).2.1, hm⟩
  · have q := h6 t ht
    rw [va_up_ne la _ hts, va_up_ne sz _ hts]
    exact ⟨(va_up_ne _ _ (by omega)).trans q.1, (va_up_ne _ _ (by omega)).trans q.2.1, q.2.2⟩
end CR
end
section
set_option maxHeartbeats 4000000 in
set_option maxRecDepth 100000 in
theorem lp_X4_firstFault {l : Launch} {V : gV} {ad : Nat → Nat} {K : gX} (hk : gOk l { frames := 2, cells := 0, slots := 0, locals := 45 } K V cX4_firstFault 4 RX4 (some .int) yX4_firstFault.name) (E : Nat → va_E) (p : Nat) (hp : p + 1 < 44) (la : Int32) (sz : Nat) (hsz : sz ≤ 60) (cl : Nat → Int32) (hE : E p = wC ad p la (nI sz)) (hE1 : E (p + 1) = gI V 60 cl) (i m : Nat) (him : i + m ≤ sz) : ∀ (k q : Nat) (val : Int32), m < q + k → q ≤ m → val = (if sFfn (fun a => cl (i + a)) m q < m then nI (sFfn (fun a => cl (i + a)) m q) else if 1 < m ∧ (m - 1) % 6 = 0 then -1 else nI m) → G K V 4 (gQ K V 44 0 0 (pI ad (pS E val))) ad 44 0 0 2 [(0, .ref (ad p)), (1, .int (nI i)), (2, .int (nI m)), (3, .int (nI q))] [] E := by
  intro k
  induction k with
  | zero => intro q val hq; omega
  | succ k ih =>
    intro q val hq hqm hv
    have h1m : nI m ≤ 1 ↔ m ≤ 1 := nle (b := 1) (by omega) (by omega)
    refine G_iload_n (i := 3) hk dX4_firstFault_2 rfl rfl ?_
    refine G_iload_n (i := 2) hk dX4_firstFault_3 rfl rfl ?_
    refine G_icmp_ge (tgt := 24) hk dX4_firstFault_4 (by decide) (fun c_4 => ?_) (fun c_4 => ?_)
    · try simp only [gB_ne, gB_eq, Decidable.not_not] at c_4
      have hge : m ≤ q := (nle (by omega) (by omega)).mp c_4
      have hqe : q = m := by omega
      subst hqe
      rw [sFfn_end (Nat.le_refl q), if_neg (Nat.lt_irrefl q)] at hv
      refine G_iload_n (i := 2) hk dX4_firstFault_24 rfl rfl ?_
      refine G_iconst (v := 1) hk dX4_firstFault_25 (by decide) ?_
      refine G_icmp_le (tgt := 42) hk dX4_firstFault_26 (by decide) (fun c_26 => ?_) (fun c_26 => ?_)
      · try simp only [gB_ne, gB_eq, Decidable.not_not] at c_26
        have hm1 := h1m.mp c_26
        refine G_iload_n (i := 2) hk dX4_firstFault_42 rfl rfl ?_
        refine G_iret hk dX4_firstFault_43 ?_
        first | exact ⟨rfl, by rw [hv, if_neg (by omega)]⟩ | exact ⟨rfl, by rw [hv, if_neg (fun z => c_35 (hz.mpr z.2))]⟩ | exact ⟨rfl, by rw [hv, if_pos ⟨by omega, hz.mp c_35⟩]⟩ | exact ⟨rfl, by rw [hv, if_pos ⟨by omega, hz.mp (Decidable.not_not.mp c_35)⟩]⟩
      · try simp only [gB_ne, gB_eq, Decidable.not_not] at c_26
        have hm1 : ¬ q ≤ 1 := fun z => c_26 (h1m.mpr z)
        have hrem : (nI q - 1) - (nI q - 1) / 6 * 6 = nI ((q - 1) % 6) := by rw [show nI q - 1 = nI (q - 1) from pk_sub (b := 1) (by omega)]; exact pk_rem6 (by omega)
        have hz : nI ((q - 1) % 6) = 0 ↔ (q - 1) % 6 = 0 := neq (b := 0) (by have := Nat.mod_lt (q - 1) (show 0 < 6 by omega); omega) (by omega)
        refine G_iload_n (i := 2) hk dX4_firstFault_29 rfl rfl ?_
        refine G_iconst (v := 1) hk dX4_firstFault_30 (by decide) ?_
        refine G_isub hk dX4_firstFault_31 ?_
        refine G_bipush (v := 6) hk dX4_firstFault_32 (by decide) ?_
        refine G_irem hk dX4_firstFault_34 (by decide) ?_
        rw [hrem]
        refine G_if_ne (tgt := 42) hk dX4_firstFault_35 (by decide) (fun c_35 => ?_) (fun c_35 => ?_)
        · try simp only [gB_ne, gB_eq, Decidable.not_not] at c_35
          refine G_iload_n (i := 2) hk dX4_firstFault_42 rfl rfl ?_
          refine G_iret hk dX4_firstFault_43 ?_
          first | exact ⟨rfl, by rw [hv, if_neg (by omega)]⟩ | exact ⟨rfl, by rw [hv, if_neg (fun z => c_35 (hz.mpr z.2))]⟩ | exact ⟨rfl, by rw [hv, if_pos ⟨by omega, hz.mp c_35⟩]⟩ | exact ⟨rfl, by rw [hv, if_pos ⟨by omega, hz.mp (Decidable.not_not.mp c_35)⟩]⟩
        · try simp only [gB_ne, gB_eq, Decidable.not_not] at c_35
          refine G_iconst (v := (-1)) hk dX4_firstFault_38 (by decide) ?_
          refine G_goto (tgt := 43) hk dX4_firstFault_39 (by decide) ?_
          refine G_iret hk dX4_firstFault_43 ?_
          first | exact ⟨rfl, by rw [hv, if_neg (by omega)]⟩ | exact ⟨rfl, by rw [hv, if_neg (fun z => c_35 (hz.mpr z.2))]⟩ | exact ⟨rfl, by rw [hv, if_pos ⟨by omega, hz.mp c_35⟩]⟩ | exact ⟨rfl, by rw [hv, if_pos ⟨by omega, hz.mp (Decidable.not_not.mp c_35)⟩]⟩
    · try simp only [gB_ne, gB_eq, Decidable.not_not] at c_4
      have hlt : q < m := Nat.lt_of_not_le (fun z => c_4 ((nle (by omega) (by omega)).mpr z))
      refine G_aload_n (i := 0) hk dX4_firstFault_7 rfl rfl ?_
      refine G_iload_n (i := 1) hk dX4_firstFault_8 rfl rfl ?_
      refine G_iload_n (i := 3) hk dX4_firstFault_9 rfl rfl ?_
      refine G_cSi hk (c_X4_goesOn l V ad E p hp la sz hsz cl hE hE1 i m him q hlt) mX4_goesOn sX4_goesOn kX4_9 dX4_firstFault_10 rfl (by decide) (by decide) rfl (Nat.le_of_ble_eq_true rfl) (fun r_10 E_10 h_10 => ?_)
      obtain ⟨rfl, rfl⟩ := h_10
      refine G_if_ne (tgt := 18) hk dX4_firstFault_13 (by decide) (fun c_13 => ?_) (fun c_13 => ?_)
      · try simp only [gB_ne, gB_eq, Decidable.not_not] at c_13
        refine G_iinc (v := nI (q + 1)) hk dX4_firstFault_18 rfl (nI_inc q) (by decide) rfl ?_
        refine G_goto (tgt := 2) hk dX4_firstFault_21 (by decide) ?_
        exact G_lv (by exact And.intro rfl (And.intro rfl (And.intro rfl (And.intro rfl (trivial))))) (ih (q + 1) val (by omega) (by omega) (by rw [hv, sFfn_go hlt (sGoD_iff.mp c_13)]))
      · try simp only [gB_ne, gB_eq, Decidable.not_not] at c_13
        refine G_iload_n (i := 3) hk dX4_firstFault_16 rfl rfl ?_
        refine G_iret hk dX4_firstFault_17 ?_
        refine ⟨rfl, ?_⟩
        have hn : ¬ sGo (fun a => cl (i + a)) q := fun z => c_13 (sGoD_iff.mpr z)
        rw [hv, sFfn_no hlt hn, if_pos hlt]

set_option maxHeartbeats 4000000 in
set_option maxRecDepth 100000 in
theorem c_X4_firstFault (l : Launch) (V : gV) (ad : Nat → Nat) (E : Nat → va_E) (p : Nat) (hp : p + 1 < 44) (la : Int32) (sz : Nat) (hsz : sz ≤ 60) (cl : Nat → Int32) (hE : E p = wC ad p la (nI sz)) (hE1 : E (p + 1) = gI V 60 cl) (i m : Nat) (him : i + m ≤ sz) : Ct l V ad 44 44 yX4_firstFault cX4_firstFault 4 (some .int) { frames := 2, cells := 0, slots := 0, locals := 45 } [.ref (ad p), .int (nI i), .int (nI m)] E (pI ad (pS E (sFault (fun a => cl (i + a)) m))) := by
  refine gCt mX4_firstFault (Nat.le_of_ble_eq_true rfl) ?_
  intro K hk
  refine G_iconst (v := 0) hk dX4_firstFault_0 (by decide) ?_
  refine G_istore_n (i := 3) hk dX4_firstFault_1 rfl (by decide) rfl ?_
  exact G_lv (by exact And.intro rfl (And.intro rfl (And.intro rfl (And.intro rfl (trivial))))) (lp_X4_firstFault hk E p hp la sz hsz cl hE hE1 i m him (m + 1) 0 _ (by omega) (by omega) rfl)

set_option maxHeartbeats 4000000 in
set_option maxRecDepth 100000 in
theorem lp_X4_take {l : Launch} {V : gV} {ad : Nat → Nat} {K : gX} (hk : gOk l { frames := 1, cells := 0, slots := 0, locals := 60 } K V cX4_take 6 RX4 none yX4_take.name) (E0 : Nat → va_E) (p : Nat) (hp : p + 1 < 44) (hp11 : 11 < p) (la : Int32) (sz : Nat) (hsz : sz ≤ 60) (cl : Nat → Int32) (hE : E0 p = wC ad p la (nI sz)) (hE1 : E0 (p + 1) = gI V 60 cl) (i q : Nat) (him : i + (6 * q + 1) ≤ sz) (hq7 : q ≤ 7) (π : Nat → Nat) : ∀ (k r : Nat) (E1 : Nat → va_E) (R1 : Nat → Nat → Int32), q < r + k → r ≤ q → bkB V ad E1 1 q π R1 → (∀ i0, i0 < r → R1 i0 = sTx (fun a => cl (i + a)) i0) → E1 3 = E0 3 → E1 4 = E0 4 → exB 1 E0 E1 → G K V 6 (gQ K V 44 0 0 (pV ad (fun E2 => bkM V ad 1 E0 E2 q (sTx (fun a => cl (i + a)))))) ad 44 0 0 18 [(0, .ref (ad p)), (1, .int (nI i)), (3, .ref (ad 1)), (4, .int (nI r))] [] E1 := by
  intro k
  induction k with
  | zero => intro r E1 R1 hr; omega
  | succ k ih =>
    intro r E1 R1 hr hrn hB hR x2 x3 xB
    obtain ⟨h0, h1, h2, h3, h4, h5, h6⟩ := id hB
    have e0 := (xB p (by omega)).trans hE
    have e1 := (xB (p + 1) (by omega)).trans hE1
    refine G_iload hk dX4_take_18 rfl ?_
    refine G_aload_n (i := 3) hk dX4_take_20 rfl rfl ?_
    refine G_get hk fX4_37 dX4_take_21 (by assumption) (by rfl) (by first | decide | omega) ?_
    refine G_icmp_ge (tgt := 109) hk dX4_take_24 (by decide) (fun c_24 => ?_) (fun c_24 => ?_)
    · try simp only [gB_ne, gB_eq, Decidable.not_not] at c_24
      have hge : q ≤ r := (nle (by omega) (by omega)).mp c_24
      refine G_vret hk dX4_take_109 ?_
      exact ⟨⟨π, R1, hB, fun i0 hi => hR i0 (by omega)⟩, x2, x3, xB⟩
    · try simp only [gB_ne, gB_eq, Decidable.not_not] at c_24
      have hlt : r < q := Nat.lt_of_not_le (fun z => c_24 ((nle (by omega) (by omega)).mpr z))
      have p0 := h4 r (by omega)
      have br := h2 r (by omega)
      have hat : nI i + 1 + nI r * 6 = nI (i + (6 * r + 1)) := by rw [nI_i1, show (6 : Int32) = nI 6 from rfl, pk_mul, nI_add]; congr 1; omega
      refine G_iload_n (i := 1) hk dX4_take_27 rfl rfl ?_
      refine G_iconst (v := 1) hk dX4_take_28 (by decide) ?_
      refine G_iadd hk dX4_take_29 ?_
      refine G_iload hk dX4_take_30 rfl ?_
      refine G_bipush (v := 6) hk dX4_take_32 (by decide) ?_
      refine G_imul hk dX4_take_34 ?_
      refine G_iadd hk dX4_take_35 ?_
      rw [hat]
      refine G_istore hk dX4_take_36 (by decide) rfl ?_
      refine G_aload_n (i := 3) hk dX4_take_38 rfl rfl ?_
      refine G_get hk fX4_43 dX4_take_39 (by assumption) (by rfl) (by first | decide | omega) ?_
      refine G_iload hk dX4_take_42 rfl ?_
      refine G_aaldRlX (j := r) hk dX4_take_44 (by assumption) rfl (by omega) (by decide) (by rfl) (by first | decide | omega) ?_
      refine G_aload_n (i := 0) hk dX4_take_45 rfl rfl ?_
      refine G_iload hk dX4_take_46 rfl ?_
      refine G_iconst (v := 1) hk dX4_take_48 (by decide) ?_
      refine G_iadd hk dX4_take_49 ?_
      rw [show nI (i + (6 * r + 1)) + 1 = nI (i + (6 * r + 2)) from nI_add _ 1]
      refine G_cVi hk (c_X2_read l V ad E1 p hp la sz hsz cl e0 e1 (i + (6 * r + 2)) (by omega)) mX2_read vX2_read kX4_15 dX4_take_50 (by assumption) (by rfl) (by first | decide | omega) rfl (by decide) (by decide) rfl (Nat.le_of_ble_eq_true rfl) (fun r_50 E_50 h_50 => ?_)
      obtain ⟨rfl, rfl⟩ := h_50
      refine G_cSi hk (c_X4_kindOf l V ad E1 _) mX4_kindOf sX4_kindOf kX4_21 dX4_take_53 rfl (by decide) (by decide) rfl (Nat.le_of_ble_eq_true rfl) (fun r_53 E_53 h_53 => ?_)
      obtain ⟨rfl, rfl⟩ := h_53
      refine G_aload_n (i := 0) hk dX4_take_56 rfl rfl ?_
      refine G_iload hk dX4_take_57 rfl ?_
      refine G_iconst (v := 2) hk dX4_take_59 (by decide) ?_
      refine G_iadd hk dX4_take_60 ?_
      rw [show nI (i + (6 * r + 1)) + 2 = nI (i + (6 * r + 3)) from nI_add _ 2]
      refine G_cVi hk (c_X2_read l V ad E1 p hp la sz hsz cl e0 e1 (i + (6 * r + 3)) (by omega)) mX2_read vX2_read kX4_15 dX4_take_61 (by assumption) (by rfl) (by first | decide | omega) rfl (by decide) (by decide) rfl (Nat.le_of_ble_eq_true rfl) (fun r_61 E_61 h_61 => ?_)
      obtain ⟨rfl, rfl⟩ := h_61
      refine G_cSi hk (c_X4_deedOf l V ad E1 _) mX4_deedOf sX4_deedOf kX4_24 dX4_take_64 rfl (by decide) (by decide) rfl (Nat.le_of_ble_eq_true rfl) (fun r_64 E_64 h_64 => ?_)
      obtain ⟨rfl, rfl⟩ := h_64
      refine G_aload_n (i := 0) hk dX4_take_67 rfl rfl ?_
      refine G_iload hk dX4_take_68 rfl ?_
      refine G_iconst (v := 3) hk dX4_take_70 (by decide) ?_
      refine G_iadd hk dX4_take_71 ?_
      rw [show nI (i + (6 * r + 1)) + 3 = nI (i + (6 * r + 4)) from nI_add _ 3]
      refine G_cVi hk (c_X2_read l V ad E1 p hp la sz hsz cl e0 e1 (i + (6 * r + 4)) (by omega)) mX2_read vX2_read kX4_15 dX4_take_72 (by assumption) (by rfl) (by first | decide | omega) rfl (by decide) (by decide) rfl (Nat.le_of_ble_eq_true rfl) (fun r_72 E_72 h_72 => ?_)
      obtain ⟨rfl, rfl⟩ := h_72
      refine G_bipush (v := 48) hk dX4_take_75 (by decide) ?_
      refine G_isub hk dX4_take_77 ?_
      refine G_aload_n (i := 0) hk dX4_take_78 rfl rfl ?_
      refine G_iload hk dX4_take_79 rfl ?_
      refine G_iconst (v := 4) hk dX4_take_81 (by decide) ?_
      refine G_iadd hk dX4_take_82 ?_
      rw [show nI (i + (6 * r + 1)) + 4 = nI (i + (6 * r + 5)) from nI_add _ 4]
      refine G_cVi hk (c_X2_read l V ad E1 p hp la sz hsz cl e0 e1 (i + (6 * r + 5)) (by omega)) mX2_read vX2_read kX4_15 dX4_take_83 (by assumption) (by rfl) (by first | decide | omega) rfl (by decide) (by decide) rfl (Nat.le_of_ble_eq_true rfl) (fun r_83 E_83 h_83 => ?_)
      obtain ⟨rfl, rfl⟩ := h_83
      refine G_bipush (v := 97) hk dX4_take_86 (by decide) ?_
      refine G_isub hk dX4_take_88 ?_
      refine G_aload_n (i := 0) hk dX4_take_89 rfl rfl ?_
      refine G_iload hk dX4_take_90 rfl ?_
      refine G_iconst (v := 5) hk dX4_take_92 (by decide) ?_
      refine G_iadd hk dX4_take_93 ?_
      rw [show nI (i + (6 * r + 1)) + 5 = nI (i + (6 * r + 6)) from nI_add _ 5]
      refine G_cVi hk (c_X2_read l V ad E1 p hp la sz hsz cl e0 e1 (i + (6 * r + 6)) (by omega)) mX2_read vX2_read kX4_15 dX4_take_94 (by assumption) (by rfl) (by first | decide | omega) rfl (by decide) (by decide) rfl (Nat.le_of_ble_eq_true rfl) (fun r_94 E_94 h_94 => ?_)
      obtain ⟨rfl, rfl⟩ := h_94
      refine G_bipush (v := 97) hk dX4_take_97 (by decide) ?_
      refine G_isub hk dX4_take_99 ?_
      refine G_cVv hk (c_X3_become l V ad E1 (1 + 4 + π r) (by omega) (R1 r) _ _ _ _ _ br) mX3_become vX3_become kX4_47 dX4_take_100 (by assumption) (by rfl) (by first | decide | omega) rfl (by decide) (by decide) rfl (Nat.le_of_ble_eq_true rfl) (fun E_100 h_100 => ?_)
      subst h_100
      refine G_iinc (v := nI (r + 1)) hk dX4_take_103 rfl (nI_inc r) (by decide) rfl ?_
      refine G_goto (tgt := 18) hk dX4_take_106 (by decide) ?_
      refine G_lv (by exact And.intro rfl (And.intro rfl (And.intro rfl (And.intro rfl (trivial))))) (ih (r + 1) _ (fun i0 => if i0 = r then sTx (fun a => cl (i + a)) r else R1 i0) (by omega) (by omega) (hB.rule (by omega) (sTx (fun a => cl (i + a)) r)) (fun i0 hi => ?_) ?_ ?_ (fun z hz => ?_))
      · by_cases hir : i0 = r
        · rw [if_pos hir, hir]
        · rw [if_neg hir, hR i0 (by omega)]
      · rw [va_up_ne _ _ (by omega)]; exact x2
      · rw [va_up_ne _ _ (by omega)]; exact x3
      · rw [va_up_ne _ _ (by omega)]; exact xB z hz

set_option maxHeartbeats 4000000 in
set_option maxRecDepth 100000 in
theorem c_X4_take (l : Launch) (V : gV) (ad : Nat → Nat) (E : Nat → va_E) (p : Nat) (hp : p + 1 < 44) (hp11 : 11 < p) (la : Int32) (sz : Nat) (hsz : sz ≤ 60) (cl : Nat → Int32) (hE : E p = wC ad p la (nI sz)) (hE1 : E (p + 1) = gI V 60 cl) (i q : Nat) (him : i + (6 * q + 1) ≤ sz) (hq7 : q ≤ 7) (n0 : Nat) (π : Nat → Nat) (R0 : Nat → Nat → Int32) (hB : bkB V ad E 1 n0 π R0) : Ct l V ad 44 44 yX4_take cX4_take 6 none { frames := 1, cells := 0, slots := 0, locals := 60 } [.ref (ad p), .int (nI i), .int (nI (6 * q + 1)), .ref (ad 1)] E (pV ad (fun E2 => bkM V ad 1 E E2 q (sTx (fun a => cl (i + a))))) := by
  refine gCt mX4_take (Nat.le_of_ble_eq_true rfl) ?_
  intro K hk
  obtain ⟨h0, h1, h2, h3, h4, h5, h6⟩ := id hB
  refine G_aload_n (i := 3) hk dX4_take_0 rfl rfl ?_
  refine G_iload_n (i := 2) hk dX4_take_1 rfl rfl ?_
  refine G_iconst (v := 1) hk dX4_take_2 (by decide) ?_
  refine G_isub hk dX4_take_3 ?_
  rw [show nI (6 * q + 1) - 1 = nI (6 * q) from nI_pred _]
  refine G_bipush (v := 6) hk dX4_take_4 (by decide) ?_
  refine G_idiv hk dX4_take_6 (by decide) ?_
  rw [pk_div6 (show 6 * q < 100000 by omega), show 6 * q / 6 = q by omega]
  refine G_bipush (v := 7) hk dX4_take_7 (by decide) ?_
  refine G_mmin hk jkX4_31 dX4_take_9 (Nat.le_of_ble_eq_true rfl) (by decide) (by decide) ?_
  rw [show (if (7 : Int32) < nI q then (7 : Int32) else nI q) = nI q from if_neg (fun z => absurd ((nlt (a := 7) (by omega) (by omega)).mp z) (by omega))]
  refine G_put hk fX4_37 iX1_2 dX4_take_12 (by assumption) (Nat.le_of_ble_eq_true rfl) (by first | decide | omega) ?_
  refine G_iconst (v := 0) hk dX4_take_15 (by decide) ?_
  refine G_istore hk dX4_take_16 (by decide) rfl ?_
  refine G_lv (by exact And.intro rfl (And.intro rfl (And.intro rfl (And.intro rfl (trivial))))) (lp_X4_take hk E p hp hp11 la sz hsz cl hE hE1 i q him hq7 π (q + 1) 0 _ R0 (by omega) (by omega) ⟨?_, ?_, fun i0 hi => ?_, hq7, h4, h5, h6⟩ (fun i0 hi => absurd hi (Nat.not_lt_zero i0)) ?_ ?_ (fun z hz => ?_))
  · rw [va_up_self]; rfl
  · rw [va_up_ne _ _ (by omega)]; exact h1
  · rw [va_up_ne _ _ (by omega)]; exact h2 i0 hi
  · rw [va_up_ne _ _ (by omega)]
  · rw [va_up_ne _ _ (by omega)]
  · rw [va_up_ne _ _ (by omega)]
end
section
/-! what each call answers, and what it does to the rules -/
abbrev ix (r : Int32) : Nat := r.toNatClampNeg
theorem ix_nI {j : Nat} (h : j < 100000) : ix (nI j) = j := nI_clamp (by omega)
def vOfRule (n : Nat) (R : Nat → Nat → Int32) (r w : Int32) : Int32 := if 0 ≤ r ∧ r < nI n then (if w = 0 then R (ix r) 0 else if w = 1 then R (ix r) 1 else if w = 2 then R (ix r) 2 else if w = 3 then R (ix r) 3 else if w = 4 then R (ix r) 4 else if w = 5 then sWr (R (ix r)) else if w = 6 then nI (sWon R n r) else -2) else -1
def vNumber (n : Nat) (R : Nat → Nat → Int32) (r v : Int32) : Int32 := if 0 ≤ r ∧ r < nI n then (if 1 ≤ v ∧ v ≤ 9 then R (ix r) 2 else -2) else -1
def sNum (q : Nat → Int32) (v : Int32) : Nat → Int32 := fun j => if j = 2 then v else q j
def sKin (q : Nat → Int32) (v : Int32) : Nat → Int32 := fun j => if j = 0 then v else q j
def rNumber (n : Nat) (R : Nat → Nat → Int32) (r v : Int32) : Nat → Nat → Int32 := fun i => if (0 ≤ r ∧ r < nI n) ∧ (1 ≤ v ∧ v ≤ 9) then (if i = ix r then sNum (R i) v else R i) else R i
def okIns (n : Nat) (k kd de nu lo hi : Int32) : Prop := (0 ≤ k ∧ k ≤ nI n) ∧ (0 ≤ kd ∧ kd ≤ 2) ∧ (0 ≤ de ∧ de ≤ 2) ∧ (1 ≤ nu ∧ nu ≤ 9) ∧ (0 ≤ lo ∧ lo ≤ 25) ∧ (lo ≤ hi ∧ hi ≤ 25)
noncomputable def okInsD (n : Nat) (k kd de nu lo hi : Int32) : Bool := @decide (okIns n k kd de nu lo hi) (Classical.propDecidable _)
theorem okInsD_t {n : Nat} {k kd de nu lo hi : Int32} (h : okIns n k kd de nu lo hi) : okInsD n k kd de nu lo hi = true := @decide_eq_true _ (Classical.propDecidable _) h
theorem okInsD_f {n : Nat} {k kd de nu lo hi : Int32} (h : ¬ okIns n k kd de nu lo hi) : okInsD n k kd de nu lo hi = false := @decide_eq_false _ (Classical.propDecidable _) h
noncomputable def vInsert (n : Nat) (k kd de nu lo hi : Int32) : Int32 := if n = 0 then -3 else if okInsD n k kd de nu lo hi then (if n = 7 then -4 else nI (n + 1)) else -2
noncomputable def nInsert (n : Nat) (k kd de nu lo hi : Int32) : Nat := if n = 0 then n else if okInsD n k kd de nu lo hi then (if n = 7 then n else n + 1) else n
def sQ (kd de nu lo hi : Int32) : Nat → Int32 := fun j => if j = 0 then kd else if j = 1 then de else if j = 2 then nu else if j = 3 then lo else hi
noncomputable def rInsert (n : Nat) (R : Nat → Nat → Int32) (k kd de nu lo hi : Int32) : Nat → Nat → Int32 := if n = 0 then R else if okInsD n k kd de nu lo hi then (if n = 7 then R else sIns R (ix k) (sQ kd de nu lo hi)) else R
def vRemove (n : Nat) (r : Int32) : Int32 := if 0 ≤ r ∧ r < nI n then (if n = 1 then -3 else nI (n - 1)) else -1
def nRemove (n : Nat) (r : Int32) : Nat := if 0 ≤ r ∧ r < nI n then (if n = 1 then n else n - 1) else n
def rRemove (n : Nat) (R : Nat → Nat → Int32) (r : Int32) : Nat → Nat → Int32 := if 0 ≤ r ∧ r < nI n then (if n = 1 then R else sDel R (ix r)) else R
def vSwap (n : Nat) (r : Int32) : Int32 := if 0 ≤ r ∧ r < nI n - 1 then r else -1
def rSwap (n : Nat) (R : Nat → Nat → Int32) (r : Int32) : Nat → Nat → Int32 := if 0 ≤ r ∧ r < nI n - 1 then sSwap R (ix r) else R
def vWinner (n : Nat) (R : Nat → Nat → Int32) (x : Int32) : Int32 := if 0 ≤ x ∧ x ≤ 25 then (if n = 0 then -3 else sW R n x) else -2
def vAsk (n : Nat) (R : Nat → Nat → Int32) (x w : Int32) : Int32 := if 0 ≤ x ∧ x ≤ 25 then (if (0 ≤ w ∧ w ≤ 1) ∨ (10 ≤ w ∧ w ≤ 17) then (if n = 0 then -3 else if w = 0 then (sAn R 99 n 0 x).1 else if w = 1 then nI (sAn R 99 n 0 x).2.length else (sAn R 99 n 0 x).2.getD (ix (w - 10)) (-9)) else -2) else -2
def sRunsN (R : Nat → Nat → Int32) (n : Nat) : Nat := if n = 0 then 0 else sRuns R n
def vOfRun (n : Nat) (R : Nat → Nat → Int32) (k w : Int32) : Int32 := if 0 ≤ k ∧ k ≤ nI (sRunsN R n) - 1 then (if w = 0 then nI (sFrn (sBg R n) (ix k) 0) else if w = 1 then nI (sFrn (sBg R n) (ix k + 1) 0) - nI (sFrn (sBg R n) (ix k) 0) else if w = 2 then sW R n (nI (sFrn (sBg R n) (ix k) 0)) else -2) else -1
def vWhole (n : Nat) (R : Nat → Nat → Int32) (w : Int32) : Int32 := if 0 ≤ w ∧ w ≤ 4 then (if n = 0 then -3 else if w = 0 then nI (sRuns R n) else if w = 1 then sShad R n else if w = 2 then sNeeds R n else if w = 3 then 26 - nI (sCw R n 0) else sSum R n) else -2
def vMany (n : Nat) (R : Nat → Nat → Int32) (rd : Nat) (w : Int32) : Int32 := if w = 0 then nI n else if w = 1 then nI (sRunsN R n) else if w = 2 then nI rd else -2
def vReading (n rd : Nat) (x v : Int32) : Int32 := if n = 0 then -3 else if 0 ≤ x ∧ x ≤ 25 then (if (0 ≤ v ∧ v ≤ 200) ∨ v = -9 then (if rd = 8 then -4 else nI rd) else -2) else -2
def bReading (n rd : Nat) (x v : Int32) : Prop := n ≠ 0 ∧ (0 ≤ x ∧ x ≤ 25) ∧ ((0 ≤ v ∧ v ≤ 200) ∨ v = -9) ∧ rd ≠ 8
noncomputable def bReadingD (n rd : Nat) (x v : Int32) : Bool := @decide (bReading n rd x v) (Classical.propDecidable _)
theorem bReadingD_t {n rd : Nat} {x v : Int32} (h : bReading n rd x v) : bReadingD n rd x v = true := @decide_eq_true _ (Classical.propDecidable _) h
theorem bReadingD_f {n rd : Nat} {x v : Int32} (h : ¬ bReading n rd x v) : bReadingD n rd x v = false := @decide_eq_false _ (Classical.propDecidable _) h
def vBack (rd : Nat) (k : Int32) : Int32 := if 0 ≤ k ∧ k ≤ nI rd then nI (rd - ix k) else -2
def dBack (rd : Nat) (k : Int32) : Nat := if 0 ≤ k ∧ k ≤ nI rd then rd - ix k else rd
theorem gIe {i : Int32} {n : Nat} (h0 : 0 ≤ i) (h1 : i ≤ nI n) (hn : n < 100000) : ∃ j : Nat, j ≤ n ∧ i = nI j := by
  obtain ⟨j, hj, e⟩ := gIx (i := i) (n := n + 1) (Int32.not_lt.mpr h0) (by rw [← nI_i1]; exact (fa_lt _ _).mpr (by
    have a := (fa_le _ _).mp h1
    have b : (nI n).toInt = n := nI_toInt (by omega)
    have c : (nI n + 1).toInt = n + 1 := by rw [nI_i1]; exact nI_toInt (by omega)
    omega)) (by omega)
  exact ⟨j, by omega, e⟩
end
section
set_option maxHeartbeats 4000000 in
set_option maxRecDepth 100000 in
theorem c_X5_isPoint (l : Launch) (V : gV) (ad : Nat → Nat) (E : Nat → va_E) (v : Int32) : Ct l V ad 44 44 yX5_isPoint cX5_isPoint 1 (some .boolean) { frames := 1, cells := 0, slots := 0, locals := 22 } [.int v] E (pI ad (pS E (gB (0 ≤ v ∧ v ≤ 25)))) := by
  refine gCt mX5_isPoint (Nat.le_of_ble_eq_true rfl) ?_
  intro K hk
  refine G_iload_n (i := 0) hk dX5_isPoint_0 rfl rfl ?_
  refine G_iconst (v := 0) hk dX5_isPoint_1 (by decide) ?_
  refine G_bipush (v := 25) hk dX5_isPoint_2 (by decide) ?_
  refine G_cSi hk (c_X5_isIn l V ad E v 0 25) mX5_isIn sX5_isIn kX5_43 dX5_isPoint_4 rfl (by decide) (by decide) rfl (Nat.le_of_ble_eq_true rfl) (fun r_4 E_4 h_4 => ?_)
  obtain ⟨rfl, rfl⟩ := h_4
  refine G_zret hk dX5_isPoint_7 (by first | rfl | exact gB_nar _) ?_
  exact ⟨rfl, rfl⟩

set_option maxHeartbeats 4000000 in
set_option maxRecDepth 100000 in
theorem c_X5_isSheet (l : Launch) (V : gV) (ad : Nat → Nat) (E : Nat → va_E) (v : Int32) : Ct l V ad 44 44 yX5_isSheet cX5_isSheet 1 (some .boolean) { frames := 1, cells := 0, slots := 0, locals := 22 } [.int v] E (pI ad (pS E (gB (0 ≤ v ∧ v ≤ 3)))) := by
  refine gCt mX5_isSheet (Nat.le_of_ble_eq_true rfl) ?_
  intro K hk
  refine G_iload_n (i := 0) hk dX5_isSheet_0 rfl rfl ?_
  refine G_iconst (v := 0) hk dX5_isSheet_1 (by decide) ?_
  refine G_iconst (v := 3) hk dX5_isSheet_2 (by decide) ?_
  refine G_cSi hk (c_X5_isIn l V ad E v 0 3) mX5_isIn sX5_isIn kX5_43 dX5_isSheet_3 rfl (by decide) (by decide) rfl (Nat.le_of_ble_eq_true rfl) (fun r_3 E_3 h_3 => ?_)
  obtain ⟨rfl, rfl⟩ := h_3
  refine G_zret hk dX5_isSheet_6 (by first | rfl | exact gB_nar _) ?_
  exact ⟨rfl, rfl⟩

set_option maxHeartbeats 4000000 in
set_option maxRecDepth 100000 in
theorem c_X5_faulted (l : Launch) (V : gV) (ad : Nat → Nat) (E : Nat → va_E) (n rd : Nat) (R : Nat → Nat → Int32) (rp rw : Nat → Int32) (tr fa : Int32) (la : Nat → Int32) (sz : Nat → Nat) (cl : Nat → Nat → Int32) (hC : cR V ad E (n, R, rd, rp, rw, tr, fa, la, sz, cl)) (w : Int32) : Ct l V ad 44 44 yX5_faulted cX5_faulted 2 (some .int) { frames := 0, cells := 0, slots := 0, locals := 0 } [.ref (ad 0), .int w] E (pI ad (fun v E2 => v = -10 - w ∧ cR V ad E2 (n, R, rd, rp, rw, tr, w, la, sz, cl) ∧ fr E E2)) := by
  refine gCt mX5_faulted (Nat.le_of_ble_eq_true rfl) ?_
  intro K hk
  obtain ⟨h0, ⟨π, hB⟩, ⟨dn, wo, dl, hA⟩, ⟨n2, π2, R2, hB2⟩, ⟨dn2, wo2, dl2, hA2⟩, h3, h4, h5, h6, h7⟩ := id hC
  obtain ⟨b0, b1, b2, b3, b4, b5, -⟩ := id hB
  have hn0 : nI n = 0 ↔ n = 0 := neq (b := 0) (by omega) (by omega)
  refine G_aload_n (i := 0) hk dX5_faulted_0 rfl rfl ?_
  refine G_iload_n (i := 1) hk dX5_faulted_1 rfl rfl ?_
  refine G_put hk fX5_35 iX5_7 dX5_faulted_2 (by assumption) (Nat.le_of_ble_eq_true rfl) (by first | decide | omega) ?_
  refine G_bipush (v := (-10)) hk dX5_faulted_5 (by decide) ?_
  refine G_iload_n (i := 1) hk dX5_faulted_7 rfl rfl ?_
  refine G_isub hk dX5_faulted_8 ?_
  refine G_iret hk dX5_faulted_9 ?_
  exact ⟨rfl, hC.sc h7, fr.up (by omega)⟩

set_option maxHeartbeats 4000000 in
set_option maxRecDepth 100000 in
theorem c_X5_leave (l : Launch) (V : gV) (ad : Nat → Nat) (E : Nat → va_E) (n rd : Nat) (R : Nat → Nat → Int32) (rp rw : Nat → Int32) (tr fa : Int32) (la : Nat → Int32) (sz : Nat → Nat) (cl : Nat → Nat → Int32) (hC : cR V ad E (n, R, rd, rp, rw, tr, fa, la, sz, cl)) (w : Int32) : Ct l V ad 44 44 yX5_leave cX5_leave 2 none { frames := 0, cells := 0, slots := 0, locals := 0 } [.ref (ad 0), .int w] E (pV ad (fun E2 => cR V ad E2 (n, R, rd, rp, rw, 31 * tr + w, fa, la, sz, cl) ∧ fr E E2)) := by
  refine gCt mX5_leave (Nat.le_of_ble_eq_true rfl) ?_
  intro K hk
  obtain ⟨h0, ⟨π, hB⟩, ⟨dn, wo, dl, hA⟩, ⟨n2, π2, R2, hB2⟩, ⟨dn2, wo2, dl2, hA2⟩, h3, h4, h5, h6, h7⟩ := id hC
  obtain ⟨b0, b1, b2, b3, b4, b5, -⟩ := id hB
  have hn0 : nI n = 0 ↔ n = 0 := neq (b := 0) (by omega) (by omega)
  refine G_aload_n (i := 0) hk dX5_leave_0 rfl rfl ?_
  refine G_bipush (v := 31) hk dX5_leave_1 (by decide) ?_
  refine G_aload_n (i := 0) hk dX5_leave_3 rfl rfl ?_
  refine G_get hk fX5_239 dX5_leave_4 (by assumption) (by rfl) (by first | decide | omega) ?_
  refine G_imul hk dX5_leave_7 ?_
  refine G_iload_n (i := 1) hk dX5_leave_8 rfl rfl ?_
  refine G_iadd hk dX5_leave_9 ?_
  refine G_put hk fX5_239 iX5_6 dX5_leave_10 (by assumption) (Nat.le_of_ble_eq_true rfl) (by first | decide | omega) ?_
  refine G_vret hk dX5_leave_13 ?_
  exact ⟨hC.sc h7, fr.up (by omega)⟩

set_option maxHeartbeats 4000000 in
set_option maxRecDepth 100000 in
theorem c_X5_trace (l : Launch) (V : gV) (ad : Nat → Nat) (E : Nat → va_E) (n rd : Nat) (R : Nat → Nat → Int32) (rp rw : Nat → Int32) (tr fa : Int32) (la : Nat → Int32) (sz : Nat → Nat) (cl : Nat → Nat → Int32) (hC : cR V ad E (n, R, rd, rp, rw, tr, fa, la, sz, cl)) : Ct l V ad 44 44 yX5_trace cX5_trace 1 (some .int) { frames := 0, cells := 0, slots := 0, locals := 0 } [.ref (ad 0)] E (pI ad (fun v E2 => v = tr ∧ cR V ad E2 (n, R, rd, rp, rw, tr, fa, la, sz, cl) ∧ fr E E2)) := by
  refine gCt mX5_trace (Nat.le_of_ble_eq_true rfl) ?_
  intro K hk
  obtain ⟨h0, ⟨π, hB⟩, ⟨dn, wo, dl, hA⟩, ⟨n2, π2, R2, hB2⟩, ⟨dn2, wo2, dl2, hA2⟩, h3, h4, h5, h6, h7⟩ := id hC
  obtain ⟨b0, b1, b2, b3, b4, b5, -⟩ := id hB
  have hn0 : nI n = 0 ↔ n = 0 := neq (b := 0) (by omega) (by omega)
  refine G_aload_n (i := 0) hk dX5_trace_0 rfl rfl ?_
  refine G_get hk fX5_239 dX5_trace_1 (by assumption) (by rfl) (by first | decide | omega) ?_
  refine G_iret hk dX5_trace_4 ?_
  exact ⟨rfl, hC, fr.rf⟩

set_option maxHeartbeats 4000000 in
set_option maxRecDepth 100000 in
theorem c_X5_fault (l : Launch) (V : gV) (ad : Nat → Nat) (E : Nat → va_E) (n rd : Nat) (R : Nat → Nat → Int32) (rp rw : Nat → Int32) (tr fa : Int32) (la : Nat → Int32) (sz : Nat → Nat) (cl : Nat → Nat → Int32) (hC : cR V ad E (n, R, rd, rp, rw, tr, fa, la, sz, cl)) : Ct l V ad 44 44 yX5_fault cX5_fault 1 (some .int) { frames := 0, cells := 0, slots := 0, locals := 0 } [.ref (ad 0)] E (pI ad (fun v E2 => v = fa ∧ cR V ad E2 (n, R, rd, rp, rw, tr, fa, la, sz, cl) ∧ fr E E2)) := by
  refine gCt mX5_fault (Nat.le_of_ble_eq_true rfl) ?_
  intro K hk
  obtain ⟨h0, ⟨π, hB⟩, ⟨dn, wo, dl, hA⟩, ⟨n2, π2, R2, hB2⟩, ⟨dn2, wo2, dl2, hA2⟩, h3, h4, h5, h6, h7⟩ := id hC
  obtain ⟨b0, b1, b2, b3, b4, b5, -⟩ := id hB
  have hn0 : nI n = 0 ↔ n = 0 := neq (b := 0) (by omega) (by omega)
  refine G_aload_n (i := 0) hk dX5_fault_0 rfl rfl ?_
  refine G_get hk fX5_35 dX5_fault_1 (by assumption) (by rfl) (by first | decide | omega) ?_
  refine G_iret hk dX5_fault_4 ?_
  exact ⟨rfl, hC, fr.rf⟩

set_option maxHeartbeats 4000000 in
set_option maxRecDepth 100000 in
theorem c_X5_runsNow (l : Launch) (V : gV) (ad : Nat → Nat) (E : Nat → va_E) (n rd : Nat) (R : Nat → Nat → Int32) (rp rw : Nat → Int32) (tr fa : Int32) (la : Nat → Int32) (sz : Nat → Nat) (cl : Nat → Nat → Int32) (hC : cR V ad E (n, R, rd, rp, rw, tr, fa, la, sz, cl)) : Ct l V ad 44 44 yX5_runsNow cX5_runsNow 1 (some .int) { frames := 4, cells := 0, slots := 0, locals := 86 } [.ref (ad 0)] E (pI ad (pS E (nI (sRunsN R n)))) := by
  refine gCt mX5_runsNow (Nat.le_of_ble_eq_true rfl) ?_
  intro K hk
  obtain ⟨h0, ⟨π, hB⟩, ⟨dn, wo, dl, hA⟩, ⟨n2, π2, R2, hB2⟩, ⟨dn2, wo2, dl2, hA2⟩, h3, h4, h5, h6, h7⟩ := id hC
  obtain ⟨b0, b1, b2, b3, b4, b5, -⟩ := id hB
  have hn0 : nI n = 0 ↔ n = 0 := neq (b := 0) (by omega) (by omega)
  refine G_aload_n (i := 0) hk dX5_runsNow_0 rfl rfl ?_
  refine G_get hk fX5_12 dX5_runsNow_1 (by assumption) (by rfl) (by first | decide | omega) ?_
  refine G_get hk fX5_71 dX5_runsNow_4 (by assumption) (by rfl) (by first | decide | omega) ?_
  refine G_if_ne (tgt := 14) hk dX5_runsNow_7 (by decide) (fun c_7 => ?_) (fun c_7 => ?_)
  · try simp only [gB_ne, gB_eq, Decidable.not_not] at c_7
    have hn : ¬ n = 0 := fun q => c_7 (hn0.mpr q)
    refine G_aload_n (i := 0) hk dX5_runsNow_14 rfl rfl ?_
    refine G_get hk fX5_12 dX5_runsNow_15 (by assumption) (by rfl) (by first | decide | omega) ?_
    refine G_cVi hk (c_X1_countRuns l V ad E 1 n π R hB) mX1_countRuns vX1_countRuns kX5_167 dX5_runsNow_18 (by assumption) (by rfl) (by first | decide | omega) rfl (by decide) (by decide) rfl (Nat.le_of_ble_eq_true rfl) (fun r_18 E_18 h_18 => ?_)
    obtain ⟨rfl, rfl⟩ := h_18
    refine G_iret hk dX5_runsNow_21 ?_
    first | exact ⟨rfl, by unfold sRunsN; rw [if_pos hn]; rfl⟩ | exact ⟨rfl, by unfold sRunsN; rw [if_neg hn]⟩
  · try simp only [gB_ne, gB_eq, Decidable.not_not] at c_7
    have hn : n = 0 := hn0.mp (by first | exact c_7 | exact Decidable.not_not.mp c_7)
    refine G_iconst (v := 0) hk dX5_runsNow_10 (by decide) ?_
    refine G_goto (tgt := 21) hk dX5_runsNow_11 (by decide) ?_
    refine G_iret hk dX5_runsNow_21 ?_
    first | exact ⟨rfl, by unfold sRunsN; rw [if_pos hn]; rfl⟩ | exact ⟨rfl, by unfold sRunsN; rw [if_neg hn]⟩

set_option maxHeartbeats 4000000 in
set_option maxRecDepth 100000 in
theorem c_X5_many (l : Launch) (V : gV) (ad : Nat → Nat) (E : Nat → va_E) (n rd : Nat) (R : Nat → Nat → Int32) (rp rw : Nat → Int32) (tr fa : Int32) (la : Nat → Int32) (sz : Nat → Nat) (cl : Nat → Nat → Int32) (hC : cR V ad E (n, R, rd, rp, rw, tr, fa, la, sz, cl)) (w : Int32) : Ct l V ad 44 44 yX5_many cX5_many 2 (some .int) { frames := 5, cells := 0, slots := 0, locals := 106 } [.ref (ad 0), .int w] E (pI ad (fun v E2 => v = vMany n R rd w ∧ cR V ad E2 (n, R, rd, rp, rw, tr, fa, la, sz, cl) ∧ fr E E2)) := by
  refine gCt mX5_many (Nat.le_of_ble_eq_true rfl) ?_
  intro K hk
  obtain ⟨h0, ⟨π, hB⟩, ⟨dn, wo, dl, hA⟩, ⟨n2, π2, R2, hB2⟩, ⟨dn2, wo2, dl2, hA2⟩, h3, h4, h5, h6, h7⟩ := id hC
  obtain ⟨b0, b1, b2, b3, b4, b5, -⟩ := id hB
  have hn0 : nI n = 0 ↔ n = 0 := neq (b := 0) (by omega) (by omega)
  refine G_iload_n (i := 1) hk dX5_many_0 rfl rfl ?_
  by_cases q1_0 : w = 0
  · skip
    refine G_tbl (off := 27) (tgt := 28) 0 hk dX5_many_1 (by rw [q1_0]; decide) (by decide) (by decide) (by rfl) (by decide) ?_
    refine G_aload_n (i := 0) hk dX5_many_28 rfl rfl ?_
    refine G_get hk fX5_12 dX5_many_29 (by assumption) (by rfl) (by first | decide | omega) ?_
    refine G_get hk fX5_71 dX5_many_32 (by assumption) (by rfl) (by first | decide | omega) ?_
    refine G_iret hk dX5_many_35 ?_
    exact ⟨by unfold vMany; (try first | rw [if_pos q1_0] | rw [if_neg q1_0]), hC, fr.rf⟩
  · skip
    by_cases q1_1 : w = 1
    · skip
      refine G_tbl (off := 35) (tgt := 36) 1 hk dX5_many_1 (by rw [q1_1]; decide) (by decide) (by decide) (by rfl) (by decide) ?_
      refine G_aload_n (i := 0) hk dX5_many_36 rfl rfl ?_
      refine G_cVi hk (c_X5_runsNow l V ad E n rd R rp rw tr fa la sz cl hC) mX5_runsNow vX5_runsNow kX5_161 dX5_many_37 (by assumption) (by rfl) (by first | decide | omega) rfl (by decide) (by decide) rfl (Nat.le_of_ble_eq_true rfl) (fun r_37 E_37 h_37 => ?_)
      obtain ⟨rfl, rfl⟩ := h_37
      refine G_iret hk dX5_many_40 ?_
      exact ⟨by unfold vMany; (try first | rw [if_pos q1_0] | rw [if_neg q1_0]); (try first | rw [if_pos q1_1] | rw [if_neg q1_1]), hC, fr.rf⟩
    · skip
      by_cases q1_2 : w = 2
      · skip
        refine G_tbl (off := 40) (tgt := 41) 2 hk dX5_many_1 (by rw [q1_2]; decide) (by decide) (by decide) (by rfl) (by decide) ?_
        refine G_aload_n (i := 0) hk dX5_many_41 rfl rfl ?_
        refine G_get hk fX5_68 dX5_many_42 (by assumption) (by rfl) (by first | decide | omega) ?_
        refine G_iret hk dX5_many_45 ?_
        exact ⟨by unfold vMany; (try first | rw [if_pos q1_0] | rw [if_neg q1_0]); (try first | rw [if_pos q1_1] | rw [if_neg q1_1]); (try first | rw [if_pos q1_2] | rw [if_neg q1_2]), hC, fr.rf⟩
      · skip
        refine G_tableOut (tgt := 46) hk dX5_many_1 (by have a_0 := lv_neT (a := 0) q1_0 (by decide); have a_1 := lv_neT (a := 1) q1_1 (by decide); have a_2 := lv_neT (a := 2) q1_2 (by decide); omega) (by decide) ?_
        refine G_bipush (v := (-2)) hk dX5_many_46 (by decide) ?_
        refine G_iret hk dX5_many_48 ?_
        exact ⟨by unfold vMany; (try first | rw [if_pos q1_0] | rw [if_neg q1_0]); (try first | rw [if_pos q1_1] | rw [if_neg q1_1]); (try first | rw [if_pos q1_2] | rw [if_neg q1_2]), hC, fr.rf⟩

set_option maxHeartbeats 4000000 in
set_option maxRecDepth 100000 in
theorem c_X5_ofRule (l : Launch) (V : gV) (ad : Nat → Nat) (E : Nat → va_E) (n rd : Nat) (R : Nat → Nat → Int32) (rp rw : Nat → Int32) (tr fa : Int32) (la : Nat → Int32) (sz : Nat → Nat) (cl : Nat → Nat → Int32) (hC : cR V ad E (n, R, rd, rp, rw, tr, fa, la, sz, cl)) (r w : Int32) : Ct l V ad 44 44 yX5_ofRule cX5_ofRule 4 (some .int) { frames := 3, cells := 0, slots := 0, locals := 66 } [.ref (ad 0), .int r, .int w] E (pI ad (fun v E2 => v = vOfRule n R r w ∧ cR V ad E2 (n, R, rd, rp, rw, tr, fa, la, sz, cl) ∧ fr E E2)) := by
  refine gCt mX5_ofRule (Nat.le_of_ble_eq_true rfl) ?_
  intro K hk
  obtain ⟨h0, ⟨π, hB⟩, ⟨dn, wo, dl, hA⟩, ⟨n2, π2, R2, hB2⟩, ⟨dn2, wo2, dl2, hA2⟩, h3, h4, h5, h6, h7⟩ := id hC
  obtain ⟨b0, b1, b2, b3, b4, b5, -⟩ := id hB
  have hn0 : nI n = 0 ↔ n = 0 := neq (b := 0) (by omega) (by omega)
  refine G_aload_n (i := 0) hk dX5_ofRule_0 rfl rfl ?_
  refine G_get hk fX5_12 dX5_ofRule_1 (by assumption) (by rfl) (by first | decide | omega) ?_
  refine G_iload_n (i := 1) hk dX5_ofRule_4 rfl rfl ?_
  refine G_cVi hk (c_X1_isRule l V ad E 1 n π R hB r) mX1_isRule vX1_isRule kX5_74 dX5_ofRule_5 (by assumption) (by rfl) (by first | decide | omega) rfl (by decide) (by decide) rfl (Nat.le_of_ble_eq_true rfl) (fun r_5 E_5 h_5 => ?_)
  obtain ⟨rfl, rfl⟩ := h_5
  refine G_if_ne (tgt := 13) hk dX5_ofRule_8 (by decide) (fun c_8 => ?_) (fun c_8 => ?_)
  · try simp only [gB_ne, gB_eq, Decidable.not_not] at c_8
    obtain ⟨j, hj, rfl⟩ := gIx (Int32.not_lt.mpr c_8.1) c_8.2 (by omega)
    have hix : ix (nI j) = j := ix_nI (by omega)
    have pj := b4 j (by omega)
    have bj := b2 j (by omega)
    refine G_aload_n (i := 0) hk dX5_ofRule_13 rfl rfl ?_
    refine G_get hk fX5_12 dX5_ofRule_14 (by assumption) (by rfl) (by first | decide | omega) ?_
    refine G_get hk fX5_77 dX5_ofRule_17 (by assumption) (by rfl) (by first | decide | omega) ?_
    refine G_iload_n (i := 1) hk dX5_ofRule_20 rfl rfl ?_
    refine G_aaldRlX (j := j) hk dX5_ofRule_21 (by assumption) rfl (by omega) (by decide) (by rfl) (by first | decide | omega) ?_
    refine G_astore_n (i := 3) hk dX5_ofRule_22 rfl (by decide) rfl ?_
    refine G_iload_n (i := 2) hk dX5_ofRule_23 rfl rfl ?_
    by_cases q24_0 : w = 0
    · skip
      refine G_tbl (off := 44) (tgt := 68) 0 hk dX5_ofRule_24 (by rw [q24_0]; decide) (by decide) (by decide) (by rfl) (by decide) ?_
      refine G_aload_n (i := 3) hk dX5_ofRule_68 rfl rfl ?_
      refine G_get hk fX5_81 dX5_ofRule_69 (by assumption) (by rfl) (by first | decide | omega) ?_
      refine G_iret hk dX5_ofRule_72 ?_
      exact ⟨by unfold vOfRule; (try rw [hix]); (try first | rw [if_pos c_8] | rw [if_neg c_8]); (try first | rw [if_pos q24_0] | rw [if_neg q24_0]), hC, fr.rf⟩
    · skip
      by_cases q24_1 : w = 1
      · skip
        refine G_tbl (off := 49) (tgt := 73) 1 hk dX5_ofRule_24 (by rw [q24_1]; decide) (by decide) (by decide) (by rfl) (by decide) ?_
        refine G_aload_n (i := 3) hk dX5_ofRule_73 rfl rfl ?_
        refine G_get hk fX5_86 dX5_ofRule_74 (by assumption) (by rfl) (by first | decide | omega) ?_
        refine G_iret hk dX5_ofRule_77 ?_
        exact ⟨by unfold vOfRule; (try rw [hix]); (try first | rw [if_pos c_8] | rw [if_neg c_8]); (try first | rw [if_pos q24_0] | rw [if_neg q24_0]); (try first | rw [if_pos q24_1] | rw [if_neg q24_1]), hC, fr.rf⟩
      · skip
        by_cases q24_2 : w = 2
        · skip
          refine G_tbl (off := 54) (tgt := 78) 2 hk dX5_ofRule_24 (by rw [q24_2]; decide) (by decide) (by decide) (by rfl) (by decide) ?_
          refine G_aload_n (i := 3) hk dX5_ofRule_78 rfl rfl ?_
          refine G_get hk fX5_89 dX5_ofRule_79 (by assumption) (by rfl) (by first | decide | omega) ?_
          refine G_iret hk dX5_ofRule_82 ?_
          exact ⟨by unfold vOfRule; (try rw [hix]); (try first | rw [if_pos c_8] | rw [if_neg c_8]); (try first | rw [if_pos q24_0] | rw [if_neg q24_0]); (try first | rw [if_pos q24_1] | rw [if_neg q24_1]); (try first | rw [if_pos q24_2] | rw [if_neg q24_2]), hC, fr.rf⟩
        · skip
          by_cases q24_3 : w = 3
          · skip
            refine G_tbl (off := 59) (tgt := 83) 3 hk dX5_ofRule_24 (by rw [q24_3]; decide) (by decide) (by decide) (by rfl) (by decide) ?_
            refine G_aload_n (i := 3) hk dX5_ofRule_83 rfl rfl ?_
            refine G_get hk fX5_92 dX5_ofRule_84 (by assumption) (by rfl) (by first | decide | omega) ?_
            refine G_iret hk dX5_ofRule_87 ?_
            exact ⟨by unfold vOfRule; (try rw [hix]); (try first | rw [if_pos c_8] | rw [if_neg c_8]); (try first | rw [if_pos q24_0] | rw [if_neg q24_0]); (try first | rw [if_pos q24_1] | rw [if_neg q24_1]); (try first | rw [if_pos q24_2] | rw [if_neg q24_2]); (try first | rw [if_pos q24_3] | rw [if_neg q24_3]), hC, fr.rf⟩
          · skip
            by_cases q24_4 : w = 4
            · skip
              refine G_tbl (off := 64) (tgt := 88) 4 hk dX5_ofRule_24 (by rw [q24_4]; decide) (by decide) (by decide) (by rfl) (by decide) ?_
              refine G_aload_n (i := 3) hk dX5_ofRule_88 rfl rfl ?_
              refine G_get hk fX5_95 dX5_ofRule_89 (by assumption) (by rfl) (by first | decide | omega) ?_
              refine G_iret hk dX5_ofRule_92 ?_
              exact ⟨by unfold vOfRule; (try rw [hix]); (try first | rw [if_pos c_8] | rw [if_neg c_8]); (try first | rw [if_pos q24_0] | rw [if_neg q24_0]); (try first | rw [if_pos q24_1] | rw [if_neg q24_1]); (try first | rw [if_pos q24_2] | rw [if_neg q24_2]); (try first | rw [if_pos q24_3] | rw [if_neg q24_3]); (try first | rw [if_pos q24_4] | rw [if_neg q24_4]), hC, fr.rf⟩
            · skip
              by_cases q24_5 : w = 5
              · skip
                refine G_tbl (off := 69) (tgt := 93) 5 hk dX5_ofRule_24 (by rw [q24_5]; decide) (by decide) (by decide) (by rfl) (by decide) ?_
                refine G_aload_n (i := 3) hk dX5_ofRule_93 rfl rfl ?_
                refine G_cVi hk (c_X3_ownWorth l V ad E (1 + 4 + π j) (by omega) (R j) bj) mX3_ownWorth vX3_ownWorth kX5_98 dX5_ofRule_94 (by assumption) (by rfl) (by first | decide | omega) rfl (by decide) (by decide) rfl (Nat.le_of_ble_eq_true rfl) (fun r_94 E_94 h_94 => ?_)
                obtain ⟨rfl, rfl⟩ := h_94
                refine G_iret hk dX5_ofRule_97 ?_
                exact ⟨by unfold vOfRule; (try rw [hix]); (try first | rw [if_pos c_8] | rw [if_neg c_8]); (try first | rw [if_pos q24_0] | rw [if_neg q24_0]); (try first | rw [if_pos q24_1] | rw [if_neg q24_1]); (try first | rw [if_pos q24_2] | rw [if_neg q24_2]); (try first | rw [if_pos q24_3] | rw [if_neg q24_3]); (try first | rw [if_pos q24_4] | rw [if_neg q24_4]); (try first | rw [if_pos q24_5] | rw [if_neg q24_5]), hC, fr.rf⟩
              · skip
                by_cases q24_6 : w = 6
                · skip
                  refine G_tbl (off := 74) (tgt := 98) 6 hk dX5_ofRule_24 (by rw [q24_6]; decide) (by decide) (by decide) (by rfl) (by decide) ?_
                  refine G_aload_n (i := 0) hk dX5_ofRule_98 rfl rfl ?_
                  refine G_get hk fX5_12 dX5_ofRule_99 (by assumption) (by rfl) (by first | decide | omega) ?_
                  refine G_iload_n (i := 1) hk dX5_ofRule_102 rfl rfl ?_
                  refine G_cVi hk (c_X1_pointsWonBy l V ad E 1 n π R hB (nI j)) mX1_pointsWonBy vX1_pointsWonBy kX5_102 dX5_ofRule_103 (by assumption) (by rfl) (by first | decide | omega) rfl (by decide) (by decide) rfl (Nat.le_of_ble_eq_true rfl) (fun r_103 E_103 h_103 => ?_)
                  obtain ⟨rfl, rfl⟩ := h_103
                  refine G_iret hk dX5_ofRule_106 ?_
                  exact ⟨by unfold vOfRule; (try rw [hix]); (try first | rw [if_pos c_8] | rw [if_neg c_8]); (try first | rw [if_pos q24_0] | rw [if_neg q24_0]); (try first | rw [if_pos q24_1] | rw [if_neg q24_1]); (try first | rw [if_pos q24_2] | rw [if_neg q24_2]); (try first | rw [if_pos q24_3] | rw [if_neg q24_3]); (try first | rw [if_pos q24_4] | rw [if_neg q24_4]); (try first | rw [if_pos q24_5] | rw [if_neg q24_5]); (try first | rw [if_pos q24_6] | rw [if_neg q24_6]), hC, fr.rf⟩
                · skip
                  refine G_tableOut (tgt := 107) hk dX5_ofRule_24 (by have a_0 := lv_neT (a := 0) q24_0 (by decide); have a_1 := lv_neT (a := 1) q24_1 (by decide); have a_2 := lv_neT (a := 2) q24_2 (by decide); have a_3 := lv_neT (a := 3) q24_3 (by decide); have a_4 := lv_neT (a := 4) q24_4 (by decide); have a_5 := lv_neT (a := 5) q24_5 (by decide); have a_6 := lv_neT (a := 6) q24_6 (by decide); omega) (by decide) ?_
                  refine G_bipush (v := (-2)) hk dX5_ofRule_107 (by decide) ?_
                  refine G_iret hk dX5_ofRule_109 ?_
                  exact ⟨by unfold vOfRule; (try rw [hix]); (try first | rw [if_pos c_8] | rw [if_neg c_8]); (try first | rw [if_pos q24_0] | rw [if_neg q24_0]); (try first | rw [if_pos q24_1] | rw [if_neg q24_1]); (try first | rw [if_pos q24_2] | rw [if_neg q24_2]); (try first | rw [if_pos q24_3] | rw [if_neg q24_3]); (try first | rw [if_pos q24_4] | rw [if_neg q24_4]); (try first | rw [if_pos q24_5] | rw [if_neg q24_5]); (try first | rw [if_pos q24_6] | rw [if_neg q24_6]), hC, fr.rf⟩
  · try simp only [gB_ne, gB_eq, Decidable.not_not] at c_8
    refine G_iconst (v := (-1)) hk dX5_ofRule_11 (by decide) ?_
    refine G_iret hk dX5_ofRule_12 ?_
    exact ⟨by unfold vOfRule; (try rw [hix]); (try first | rw [if_pos c_8] | rw [if_neg c_8]), hC, fr.rf⟩

set_option maxHeartbeats 4000000 in
set_option maxRecDepth 100000 in
theorem c_X5_number (l : Launch) (V : gV) (ad : Nat → Nat) (E : Nat → va_E) (n rd : Nat) (R : Nat → Nat → Int32) (rp rw : Nat → Int32) (tr fa : Int32) (la : Nat → Int32) (sz : Nat → Nat) (cl : Nat → Nat → Int32) (hC : cR V ad E (n, R, rd, rp, rw, tr, fa, la, sz, cl)) (r v : Int32) : Ct l V ad 44 44 yX5_number cX5_number 4 (some .int) { frames := 1, cells := 0, slots := 0, locals := 22 } [.ref (ad 0), .int r, .int v] E (pI ad (fun z E2 => z = vNumber n R r v ∧ (∃ R2, cR V ad E2 (n, R2, rd, rp, rw, tr, fa, la, sz, cl) ∧ ∀ i, i < n → R2 i = rNumber n R r v i) ∧ fr E E2)) := by
  refine gCt mX5_number (Nat.le_of_ble_eq_true rfl) ?_
  intro K hk
  obtain ⟨h0, ⟨π, hB⟩, ⟨dn, wo, dl, hA⟩, ⟨n2, π2, R2, hB2⟩, ⟨dn2, wo2, dl2, hA2⟩, h3, h4, h5, h6, h7⟩ := id hC
  obtain ⟨b0, b1, b2, b3, b4, b5, -⟩ := id hB
  have hn0 : nI n = 0 ↔ n = 0 := neq (b := 0) (by omega) (by omega)
  refine G_aload_n (i := 0) hk dX5_number_0 rfl rfl ?_
  refine G_get hk fX5_12 dX5_number_1 (by assumption) (by rfl) (by first | decide | omega) ?_
  refine G_iload_n (i := 1) hk dX5_number_4 rfl rfl ?_
  refine G_cVi hk (c_X1_isRule l V ad E 1 n π R hB r) mX1_isRule vX1_isRule kX5_74 dX5_number_5 (by assumption) (by rfl) (by first | decide | omega) rfl (by decide) (by decide) rfl (Nat.le_of_ble_eq_true rfl) (fun r_5 E_5 h_5 => ?_)
  obtain ⟨rfl, rfl⟩ := h_5
  refine G_if_ne (tgt := 13) hk dX5_number_8 (by decide) (fun c_8 => ?_) (fun c_8 => ?_)
  · try simp only [gB_ne, gB_eq, Decidable.not_not] at c_8
    obtain ⟨j, hj, rfl⟩ := gIx (Int32.not_lt.mpr c_8.1) c_8.2 (by omega)
    have hix : ix (nI j) = j := ix_nI (by omega)
    have pj := b4 j (by omega)
    have bj := b2 j (by omega)
    refine G_iload_n (i := 2) hk dX5_number_13 rfl rfl ?_
    refine G_iconst (v := 1) hk dX5_number_14 (by decide) ?_
    refine G_bipush (v := 9) hk dX5_number_15 (by decide) ?_
    refine G_cSi hk (c_X5_isIn l V ad E v 1 9) mX5_isIn sX5_isIn kX5_43 dX5_number_17 rfl (by decide) (by decide) rfl (Nat.le_of_ble_eq_true rfl) (fun r_17 E_17 h_17 => ?_)
    obtain ⟨rfl, rfl⟩ := h_17
    refine G_if_ne (tgt := 26) hk dX5_number_20 (by decide) (fun c_20 => ?_) (fun c_20 => ?_)
    · try simp only [gB_ne, gB_eq, Decidable.not_not] at c_20
      refine G_aload_n (i := 0) hk dX5_number_26 rfl rfl ?_
      refine G_get hk fX5_12 dX5_number_27 (by assumption) (by rfl) (by first | decide | omega) ?_
      refine G_get hk fX5_77 dX5_number_30 (by assumption) (by rfl) (by first | decide | omega) ?_
      refine G_iload_n (i := 1) hk dX5_number_33 rfl rfl ?_
      refine G_aaldRlX (j := j) hk dX5_number_34 (by assumption) rfl (by omega) (by decide) (by rfl) (by first | decide | omega) ?_
      refine G_get hk fX5_89 dX5_number_35 (by assumption) (by rfl) (by first | decide | omega) ?_
      refine G_istore_n (i := 3) hk dX5_number_38 rfl (by decide) rfl ?_
      refine G_aload_n (i := 0) hk dX5_number_39 rfl rfl ?_
      refine G_get hk fX5_12 dX5_number_40 (by assumption) (by rfl) (by first | decide | omega) ?_
      refine G_get hk fX5_77 dX5_number_43 (by assumption) (by rfl) (by first | decide | omega) ?_
      refine G_iload_n (i := 1) hk dX5_number_46 rfl rfl ?_
      refine G_aaldRlX (j := j) hk dX5_number_47 (by assumption) rfl (by omega) (by decide) (by rfl) (by first | decide | omega) ?_
      refine G_iload_n (i := 2) hk dX5_number_48 rfl rfl ?_
      refine G_put hk fX5_89 iX3_2 dX5_number_49 (by assumption) (Nat.le_of_ble_eq_true rfl) (by first | decide | omega) ?_
      refine G_iload_n (i := 3) hk dX5_number_52 rfl rfl ?_
      refine G_iret hk dX5_number_53 ?_
      refine ⟨by unfold vNumber; rw [hix]; (try first | rw [if_pos c_8] | rw [if_neg c_8]); (try first | rw [if_pos c_20] | rw [if_neg c_20]), ⟨_, hC.rule hB (by omega) (sNum (R j) v), fun i hi => ?_⟩, fr.up (by omega)⟩
      have e : rNumber n R (nI j) v i = (if i = j then sNum (R i) v else R i) := by
        unfold rNumber
        rw [if_pos (show (0 ≤ nI j ∧ nI j < nI n) ∧ (1 ≤ v ∧ v ≤ 9) from ⟨c_8, c_20⟩), hix]
      rw [e]
      by_cases hij : i = j
      · subst hij
        rfl
      · rw [if_neg hij]
        exact (if_neg hij).symm
    · try simp only [gB_ne, gB_eq, Decidable.not_not] at c_20
      refine G_bipush (v := (-2)) hk dX5_number_23 (by decide) ?_
      refine G_iret hk dX5_number_25 ?_
      exact ⟨by unfold vNumber; (try first | rw [if_pos c_8] | rw [if_neg c_8]); (try first | rw [if_pos c_20] | rw [if_neg c_20]), ⟨R, hC, fun i _ => (if_neg (fun q => c_20 q.2)).symm⟩, fr.rf⟩
  · try simp only [gB_ne, gB_eq, Decidable.not_not] at c_8
    refine G_iconst (v := (-1)) hk dX5_number_11 (by decide) ?_
    refine G_iret hk dX5_number_12 ?_
    exact ⟨by unfold vNumber; (try first | rw [if_pos c_8] | rw [if_neg c_8]), ⟨R, hC, fun i _ => (if_neg (fun q => c_8 q.1)).symm⟩, fr.rf⟩

set_option maxHeartbeats 4000000 in
set_option maxRecDepth 100000 in
theorem c_X5_insert (l : Launch) (V : gV) (ad : Nat → Nat) (E : Nat → va_E) (n rd : Nat) (R : Nat → Nat → Int32) (rp rw : Nat → Int32) (tr fa : Int32) (la : Nat → Int32) (sz : Nat → Nat) (cl : Nat → Nat → Int32) (hC : cR V ad E (n, R, rd, rp, rw, tr, fa, la, sz, cl)) (k kd de nu lo hi : Int32) : Ct l V ad 44 44 yX5_insert cX5_insert 7 (some .int) { frames := 1, cells := 0, slots := 0, locals := 25 } [.ref (ad 0), .int k, .int kd, .int de, .int nu, .int lo, .int hi] E (pI ad (fun v E2 => v = vInsert n k kd de nu lo hi ∧ (∃ R2, cR V ad E2 (nInsert n k kd de nu lo hi, R2, rd, rp, rw, tr, fa, la, sz, cl) ∧ ∀ i, i < nInsert n k kd de nu lo hi → R2 i = rInsert n R k kd de nu lo hi i) ∧ fr E E2)) := by
  refine gCt mX5_insert (Nat.le_of_ble_eq_true rfl) ?_
  intro K hk
  obtain ⟨h0, ⟨π, hB⟩, ⟨dn, wo, dl, hA⟩, ⟨n2, π2, R2, hB2⟩, ⟨dn2, wo2, dl2, hA2⟩, h3, h4, h5, h6, h7⟩ := id hC
  obtain ⟨b0, b1, b2, b3, b4, b5, -⟩ := id hB
  have hn0 : nI n = 0 ↔ n = 0 := neq (b := 0) (by omega) (by omega)
  refine G_aload_n (i := 0) hk dX5_insert_0 rfl rfl ?_
  refine G_get hk fX5_12 dX5_insert_1 (by assumption) (by rfl) (by first | decide | omega) ?_
  refine G_get hk fX5_71 dX5_insert_4 (by assumption) (by rfl) (by first | decide | omega) ?_
  refine G_if_ne (tgt := 13) hk dX5_insert_7 (by decide) (fun c_7 => ?_) (fun c_7 => ?_)
  · try simp only [gB_ne, gB_eq, Decidable.not_not] at c_7
    have hn : ¬ n = 0 := fun q => c_7 (hn0.mpr q)
    refine G_iload_n (i := 1) hk dX5_insert_13 rfl rfl ?_
    refine G_iconst (v := 0) hk dX5_insert_14 (by decide) ?_
    refine G_aload_n (i := 0) hk dX5_insert_15 rfl rfl ?_
    refine G_get hk fX5_12 dX5_insert_16 (by assumption) (by rfl) (by first | decide | omega) ?_
    refine G_get hk fX5_71 dX5_insert_19 (by assumption) (by rfl) (by first | decide | omega) ?_
    refine G_cSi hk (c_X5_isIn l V ad E k 0 (nI n)) mX5_isIn sX5_isIn kX5_43 dX5_insert_22 rfl (by decide) (by decide) rfl (Nat.le_of_ble_eq_true rfl) (fun r_22 E_22 h_22 => ?_)
    obtain ⟨rfl, rfl⟩ := h_22
    refine G_if_ne (tgt := 31) hk dX5_insert_25 (by decide) (fun c_25 => ?_) (fun c_25 => ?_)
    · try simp only [gB_ne, gB_eq, Decidable.not_not] at c_25
      refine G_iload_n (i := 2) hk dX5_insert_31 rfl rfl ?_
      refine G_iconst (v := 0) hk dX5_insert_32 (by decide) ?_
      refine G_iconst (v := 2) hk dX5_insert_33 (by decide) ?_
      refine G_cSi hk (c_X5_isIn l V ad E kd 0 2) mX5_isIn sX5_isIn kX5_43 dX5_insert_34 rfl (by decide) (by decide) rfl (Nat.le_of_ble_eq_true rfl) (fun r_34 E_34 h_34 => ?_)
      obtain ⟨rfl, rfl⟩ := h_34
      refine G_if_eq (tgt := 49) hk dX5_insert_37 (by decide) (fun c_37 => ?_) (fun c_37 => ?_)
      · try simp only [gB_ne, gB_eq, Decidable.not_not] at c_37
        refine G_bipush (v := (-2)) hk dX5_insert_49 (by decide) ?_
        refine G_iret hk dX5_insert_51 ?_
        first | exact ⟨by unfold vInsert; rw [if_neg hn, okInsD_f (fun q => c_37 q.2.1)]; rfl, by unfold nInsert rInsert; rw [if_neg hn, if_neg hn, okInsD_f (fun q => c_37 q.2.1)]; exact ⟨R, hC, fun _ _ => rfl⟩, fr.rf⟩ | exact ⟨by unfold vInsert; rw [if_neg hn, okInsD_f (fun q => c_46 q.2.2.1)]; rfl, by unfold nInsert rInsert; rw [if_neg hn, if_neg hn, okInsD_f (fun q => c_46 q.2.2.1)]; exact ⟨R, hC, fun _ _ => rfl⟩, fr.rf⟩
      · try simp only [gB_ne, gB_eq, Decidable.not_not] at c_37
        refine G_iload_n (i := 3) hk dX5_insert_40 rfl rfl ?_
        refine G_iconst (v := 0) hk dX5_insert_41 (by decide) ?_
        refine G_iconst (v := 2) hk dX5_insert_42 (by decide) ?_
        refine G_cSi hk (c_X5_isIn l V ad E de 0 2) mX5_isIn sX5_isIn kX5_43 dX5_insert_43 rfl (by decide) (by decide) rfl (Nat.le_of_ble_eq_true rfl) (fun r_43 E_43 h_43 => ?_)
        obtain ⟨rfl, rfl⟩ := h_43
        refine G_if_ne (tgt := 52) hk dX5_insert_46 (by decide) (fun c_46 => ?_) (fun c_46 => ?_)
        · try simp only [gB_ne, gB_eq, Decidable.not_not] at c_46
          refine G_iload hk dX5_insert_52 rfl ?_
          refine G_iconst (v := 1) hk dX5_insert_54 (by decide) ?_
          refine G_bipush (v := 9) hk dX5_insert_55 (by decide) ?_
          refine G_cSi hk (c_X5_isIn l V ad E nu 1 9) mX5_isIn sX5_isIn kX5_43 dX5_insert_57 rfl (by decide) (by decide) rfl (Nat.le_of_ble_eq_true rfl) (fun r_57 E_57 h_57 => ?_)
          obtain ⟨rfl, rfl⟩ := h_57
          refine G_if_ne (tgt := 66) hk dX5_insert_60 (by decide) (fun c_60 => ?_) (fun c_60 => ?_)
          · try simp only [gB_ne, gB_eq, Decidable.not_not] at c_60
            refine G_iload hk dX5_insert_66 rfl ?_
            refine G_iconst (v := 0) hk dX5_insert_68 (by decide) ?_
            refine G_bipush (v := 25) hk dX5_insert_69 (by decide) ?_
            refine G_cSi hk (c_X5_isIn l V ad E lo 0 25) mX5_isIn sX5_isIn kX5_43 dX5_insert_71 rfl (by decide) (by decide) rfl (Nat.le_of_ble_eq_true rfl) (fun r_71 E_71 h_71 => ?_)
            obtain ⟨rfl, rfl⟩ := h_71
            refine G_if_eq (tgt := 89) hk dX5_insert_74 (by decide) (fun c_74 => ?_) (fun c_74 => ?_)
            · try simp only [gB_ne, gB_eq, Decidable.not_not] at c_74
              refine G_bipush (v := (-2)) hk dX5_insert_89 (by decide) ?_
              refine G_iret hk dX5_insert_91 ?_
              first | exact ⟨by unfold vInsert; rw [if_neg hn, okInsD_f (fun q => c_74 q.2.2.2.2.1)]; rfl, by unfold nInsert rInsert; rw [if_neg hn, if_neg hn, okInsD_f (fun q => c_74 q.2.2.2.2.1)]; exact ⟨R, hC, fun _ _ => rfl⟩, fr.rf⟩ | exact ⟨by unfold vInsert; rw [if_neg hn, okInsD_f (fun q => c_86 q.2.2.2.2.2)]; rfl, by unfold nInsert rInsert; rw [if_neg hn, if_neg hn, okInsD_f (fun q => c_86 q.2.2.2.2.2)]; exact ⟨R, hC, fun _ _ => rfl⟩, fr.rf⟩
            · try simp only [gB_ne, gB_eq, Decidable.not_not] at c_74
              refine G_iload hk dX5_insert_77 rfl ?_
              refine G_iload hk dX5_insert_79 rfl ?_
              refine G_bipush (v := 25) hk dX5_insert_81 (by decide) ?_
              refine G_cSi hk (c_X5_isIn l V ad E hi lo 25) mX5_isIn sX5_isIn kX5_43 dX5_insert_83 rfl (by decide) (by decide) rfl (Nat.le_of_ble_eq_true rfl) (fun r_83 E_83 h_83 => ?_)
              obtain ⟨rfl, rfl⟩ := h_83
              refine G_if_ne (tgt := 92) hk dX5_insert_86 (by decide) (fun c_86 => ?_) (fun c_86 => ?_)
              · try simp only [gB_ne, gB_eq, Decidable.not_not] at c_86
                refine G_aload_n (i := 0) hk dX5_insert_92 rfl rfl ?_
                refine G_get hk fX5_12 dX5_insert_93 (by assumption) (by rfl) (by first | decide | omega) ?_
                refine G_get hk fX5_71 dX5_insert_96 (by assumption) (by rfl) (by first | decide | omega) ?_
                refine G_bipush (v := 7) hk dX5_insert_99 (by decide) ?_
                refine G_icmp_lt (tgt := 107) hk dX5_insert_101 (by decide) (fun c_101 => ?_) (fun c_101 => ?_)
                · try simp only [gB_ne, gB_eq, Decidable.not_not] at c_101
                  have hlt : n < 7 := (nlt (b := 7) (by omega) (by omega)).mp c_101
                  obtain ⟨j, hj, rfl⟩ := gIe c_25.1 c_25.2 (by omega)
                  have hix : ix (nI j) = j := ix_nI (by omega)
                  refine G_aload_n (i := 0) hk dX5_insert_107 rfl rfl ?_
                  refine G_get hk fX5_12 dX5_insert_108 (by assumption) (by rfl) (by first | decide | omega) ?_
                  refine G_iload_n (i := 1) hk dX5_insert_111 rfl rfl ?_
                  refine G_cVv hk (c_X1_openPlace l V ad E 1 n π R hB j hj hlt) mX1_openPlace vX1_openPlace kX5_105 dX5_insert_112 (by assumption) (by rfl) (by first | decide | omega) rfl (by decide) (by decide) rfl (Nat.le_of_ble_eq_true rfl) (fun E_112 h_112 => ?_)
                  have hM := h_112
                  obtain ⟨R2', hC2, hR2⟩ := hC.bk h_112
                  obtain ⟨g0, ⟨π', gB'⟩, -⟩ := id hC2
                  obtain ⟨e0, e1, e2, e3, e4, e5, -⟩ := id gB'
                  have pj := e4 j (by omega)
                  have bj := e2 j (by omega)
                  refine G_aload_n (i := 0) hk dX5_insert_115 rfl rfl ?_
                  refine G_get hk fX5_12 dX5_insert_116 (by assumption) (by rfl) (by first | decide | omega) ?_
                  refine G_get hk fX5_77 dX5_insert_119 (by assumption) (by rfl) (by first | decide | omega) ?_
                  refine G_iload_n (i := 1) hk dX5_insert_122 rfl rfl ?_
                  refine G_aaldRlX (j := j) hk dX5_insert_123 (by assumption) rfl (by omega) (by decide) (by rfl) (by first | decide | omega) ?_
                  refine G_iload_n (i := 2) hk dX5_insert_124 rfl rfl ?_
                  refine G_iload_n (i := 3) hk dX5_insert_125 rfl rfl ?_
                  refine G_iload hk dX5_insert_126 rfl ?_
                  refine G_iload hk dX5_insert_128 rfl ?_
                  refine G_iload hk dX5_insert_130 rfl ?_
                  refine G_cVv hk (c_X3_become l V ad E_112 (1 + 4 + π' j) (by omega) (R2' j) kd de nu lo hi bj) mX3_become vX3_become kX5_109 dX5_insert_132 (by assumption) (by rfl) (by first | decide | omega) rfl (by decide) (by decide) rfl (Nat.le_of_ble_eq_true rfl) (fun E_132 h_132 => ?_)
                  have hC3 := hC2.rule gB' (by omega : j < 7) (sQ kd de nu lo hi)
                  have z0 := (show E_132 0 = E_112 0 by rw [h_132, va_up_ne _ _ (by omega)]).trans g0
                  have z1 := (show E_132 1 = E_112 1 by rw [h_132, va_up_ne _ _ (by omega)]).trans e0
                  refine G_aload_n (i := 0) hk dX5_insert_135 rfl rfl ?_
                  refine G_get hk fX5_12 dX5_insert_136 (by assumption) (by rfl) (by first | decide | omega) ?_
                  refine G_get hk fX5_71 dX5_insert_139 (by assumption) (by rfl) (by first | decide | omega) ?_
                  refine G_iret hk dX5_insert_142 ?_
                  have hok : okIns n (nI j) kd de nu lo hi := ⟨c_25, c_37, c_46, c_60, c_74, c_86⟩
                  refine ⟨by unfold vInsert; rw [if_neg hn, okInsD_t hok, if_pos rfl, if_neg (by omega)], ?_, ?_⟩
                  · unfold nInsert rInsert
                    rw [if_neg hn, if_neg hn, okInsD_t hok, if_pos rfl, if_pos rfl, if_neg (by omega), if_neg (by omega), hix]
                    refine ⟨_, by rw [h_132]; exact hC3, fun i hi => ?_⟩
                    by_cases hij : i = j
                    · subst hij
                      rw [if_pos rfl]
                      unfold sIns
                      rw [if_neg (by omega), if_pos rfl]
                    · rw [if_neg hij, hR2 i hi]
                      unfold sIns
                      rw [if_neg hij, if_neg hij]
                  · rw [h_132]
                    exact (fr.bk hM (by omega)).tr (fr.up (by omega))
                · try simp only [gB_ne, gB_eq, Decidable.not_not] at c_101
                  have hge : ¬ n < 7 := fun q => c_101 ((nlt (b := 7) (by omega) (by omega)).mpr q)
                  have hn7 : n = 7 := by omega
                  refine G_bipush (v := (-4)) hk dX5_insert_104 (by decide) ?_
                  refine G_iret hk dX5_insert_106 ?_
                  have hok : okIns n k kd de nu lo hi := ⟨c_25, c_37, c_46, c_60, c_74, c_86⟩
                  exact ⟨by unfold vInsert; rw [if_neg hn, okInsD_t hok, if_pos rfl, if_pos hn7], by unfold nInsert rInsert; rw [if_neg hn, if_neg hn, okInsD_t hok, if_pos rfl, if_pos rfl, if_pos hn7, if_pos hn7]; exact ⟨R, hC, fun _ _ => rfl⟩, fr.rf⟩
              · try simp only [gB_ne, gB_eq, Decidable.not_not] at c_86
                refine G_bipush (v := (-2)) hk dX5_insert_89 (by decide) ?_
                refine G_iret hk dX5_insert_91 ?_
                first | exact ⟨by unfold vInsert; rw [if_neg hn, okInsD_f (fun q => c_74 q.2.2.2.2.1)]; rfl, by unfold nInsert rInsert; rw [if_neg hn, if_neg hn, okInsD_f (fun q => c_74 q.2.2.2.2.1)]; exact ⟨R, hC, fun _ _ => rfl⟩, fr.rf⟩ | exact ⟨by unfold vInsert; rw [if_neg hn, okInsD_f (fun q => c_86 q.2.2.2.2.2)]; rfl, by unfold nInsert rInsert; rw [if_neg hn, if_neg hn, okInsD_f (fun q => c_86 q.2.2.2.2.2)]; exact ⟨R, hC, fun _ _ => rfl⟩, fr.rf⟩
          · try simp only [gB_ne, gB_eq, Decidable.not_not] at c_60
            refine G_bipush (v := (-2)) hk dX5_insert_63 (by decide) ?_
            refine G_iret hk dX5_insert_65 ?_
            exact ⟨by unfold vInsert; rw [if_neg hn, okInsD_f (fun q => c_60 q.2.2.2.1)]; rfl, by unfold nInsert rInsert; rw [if_neg hn, if_neg hn, okInsD_f (fun q => c_60 q.2.2.2.1)]; exact ⟨R, hC, fun _ _ => rfl⟩, fr.rf⟩
        · try simp only [gB_ne, gB_eq, Decidable.not_not] at c_46
          refine G_bipush (v := (-2)) hk dX5_insert_49 (by decide) ?_
          refine G_iret hk dX5_insert_51 ?_
          first | exact ⟨by unfold vInsert; rw [if_neg hn, okInsD_f (fun q => c_37 q.2.1)]; rfl, by unfold nInsert rInsert; rw [if_neg hn, if_neg hn, okInsD_f (fun q => c_37 q.2.1)]; exact ⟨R, hC, fun _ _ => rfl⟩, fr.rf⟩ | exact ⟨by unfold vInsert; rw [if_neg hn, okInsD_f (fun q => c_46 q.2.2.1)]; rfl, by unfold nInsert rInsert; rw [if_neg hn, if_neg hn, okInsD_f (fun q => c_46 q.2.2.1)]; exact ⟨R, hC, fun _ _ => rfl⟩, fr.rf⟩
    · try simp only [gB_ne, gB_eq, Decidable.not_not] at c_25
      refine G_bipush (v := (-2)) hk dX5_insert_28 (by decide) ?_
      refine G_iret hk dX5_insert_30 ?_
      exact ⟨by unfold vInsert; rw [if_neg hn, okInsD_f (fun q => c_25 q.1)]; rfl, by unfold nInsert rInsert; rw [if_neg hn, if_neg hn, okInsD_f (fun q => c_25 q.1)]; exact ⟨R, hC, fun _ _ => rfl⟩, fr.rf⟩
  · try simp only [gB_ne, gB_eq, Decidable.not_not] at c_7
    have hn : n = 0 := hn0.mp (by first | exact c_7 | exact Decidable.not_not.mp c_7)
    refine G_bipush (v := (-3)) hk dX5_insert_10 (by decide) ?_
    refine G_iret hk dX5_insert_12 ?_
    exact ⟨by unfold vInsert; rw [if_pos hn], by unfold nInsert rInsert; rw [if_pos hn, if_pos hn]; exact ⟨R, hC, fun _ _ => rfl⟩, fr.rf⟩

set_option maxHeartbeats 4000000 in
set_option maxRecDepth 100000 in
theorem c_X5_remove (l : Launch) (V : gV) (ad : Nat → Nat) (E : Nat → va_E) (n rd : Nat) (R : Nat → Nat → Int32) (rp rw : Nat → Int32) (tr fa : Int32) (la : Nat → Int32) (sz : Nat → Nat) (cl : Nat → Nat → Int32) (hC : cR V ad E (n, R, rd, rp, rw, tr, fa, la, sz, cl)) (r : Int32) : Ct l V ad 44 44 yX5_remove cX5_remove 2 (some .int) { frames := 2, cells := 0, slots := 0, locals := 44 } [.ref (ad 0), .int r] E (pI ad (fun v E2 => v = vRemove n r ∧ (∃ R2, cR V ad E2 (nRemove n r, R2, rd, rp, rw, tr, fa, la, sz, cl) ∧ ∀ i, i < nRemove n r → R2 i = rRemove n R r i) ∧ fr E E2)) := by
  refine gCt mX5_remove (Nat.le_of_ble_eq_true rfl) ?_
  intro K hk
  obtain ⟨h0, ⟨π, hB⟩, ⟨dn, wo, dl, hA⟩, ⟨n2, π2, R2, hB2⟩, ⟨dn2, wo2, dl2, hA2⟩, h3, h4, h5, h6, h7⟩ := id hC
  obtain ⟨b0, b1, b2, b3, b4, b5, -⟩ := id hB
  have hn0 : nI n = 0 ↔ n = 0 := neq (b := 0) (by omega) (by omega)
  have hn1 : nI n = 1 ↔ n = 1 := neq (b := 1) (by omega) (by omega)
  refine G_aload_n (i := 0) hk dX5_remove_0 rfl rfl ?_
  refine G_get hk fX5_12 dX5_remove_1 (by assumption) (by rfl) (by first | decide | omega) ?_
  refine G_iload_n (i := 1) hk dX5_remove_4 rfl rfl ?_
  refine G_cVi hk (c_X1_isRule l V ad E 1 n π R hB r) mX1_isRule vX1_isRule kX5_74 dX5_remove_5 (by assumption) (by rfl) (by first | decide | omega) rfl (by decide) (by decide) rfl (Nat.le_of_ble_eq_true rfl) (fun r_5 E_5 h_5 => ?_)
  obtain ⟨rfl, rfl⟩ := h_5
  refine G_if_ne (tgt := 13) hk dX5_remove_8 (by decide) (fun c_8 => ?_) (fun c_8 => ?_)
  · try simp only [gB_ne, gB_eq, Decidable.not_not] at c_8
    obtain ⟨j, hj, rfl⟩ := gIx (Int32.not_lt.mpr c_8.1) c_8.2 (by omega)
    have hix : ix (nI j) = j := ix_nI (by omega)
    have pj := b4 j (by omega)
    have bj := b2 j (by omega)
    refine G_aload_n (i := 0) hk dX5_remove_13 rfl rfl ?_
    refine G_get hk fX5_12 dX5_remove_14 (by assumption) (by rfl) (by first | decide | omega) ?_
    refine G_get hk fX5_71 dX5_remove_17 (by assumption) (by rfl) (by first | decide | omega) ?_
    refine G_iconst (v := 1) hk dX5_remove_20 (by decide) ?_
    refine G_icmp_ne (tgt := 27) hk dX5_remove_21 (by decide) (fun c_21 => ?_) (fun c_21 => ?_)
    · try simp only [gB_ne, gB_eq, Decidable.not_not] at c_21
      have h1 : ¬ n = 1 := fun q => c_21 (hn1.mpr q)
      refine G_aload_n (i := 0) hk dX5_remove_27 rfl rfl ?_
      refine G_get hk fX5_12 dX5_remove_28 (by assumption) (by rfl) (by first | decide | omega) ?_
      refine G_iload_n (i := 1) hk dX5_remove_31 rfl rfl ?_
      refine G_cVv hk (c_X1_takeAway l V ad E 1 n π R hB j hj) mX1_takeAway vX1_takeAway kX5_113 dX5_remove_32 (by assumption) (by rfl) (by first | decide | omega) rfl (by decide) (by decide) rfl (Nat.le_of_ble_eq_true rfl) (fun E_32 h_32 => ?_)
      have hM := h_32
      obtain ⟨R2', hC2, hR2⟩ := hC.bk h_32
      obtain ⟨g0, ⟨π', gB'⟩, -⟩ := id hC2
      have e0 := gB'.1
      refine G_aload_n (i := 0) hk dX5_remove_35 rfl rfl ?_
      refine G_get hk fX5_12 dX5_remove_36 (by assumption) (by rfl) (by first | decide | omega) ?_
      refine G_get hk fX5_71 dX5_remove_39 (by assumption) (by rfl) (by first | decide | omega) ?_
      refine G_iret hk dX5_remove_42 ?_
      exact ⟨by unfold vRemove; rw [if_pos c_8, if_neg h1], by unfold nRemove rRemove; rw [if_pos c_8, if_pos c_8, if_neg h1, if_neg h1, hix]; exact ⟨R2', hC2, hR2⟩, fr.bk hM (by omega)⟩
    · try simp only [gB_ne, gB_eq, Decidable.not_not] at c_21
      have h1 : n = 1 := hn1.mp (by first | exact c_21 | exact Decidable.not_not.mp c_21)
      refine G_bipush (v := (-3)) hk dX5_remove_24 (by decide) ?_
      refine G_iret hk dX5_remove_26 ?_
      exact ⟨by unfold vRemove; rw [if_pos c_8, if_pos h1], by unfold nRemove rRemove; rw [if_pos c_8, if_pos c_8, if_pos h1, if_pos h1]; exact ⟨R, hC, fun _ _ => rfl⟩, fr.rf⟩
  · try simp only [gB_ne, gB_eq, Decidable.not_not] at c_8
    refine G_iconst (v := (-1)) hk dX5_remove_11 (by decide) ?_
    refine G_iret hk dX5_remove_12 ?_
    exact ⟨by unfold vRemove; (try first | rw [if_pos c_8] | rw [if_neg c_8]), by unfold nRemove rRemove; rw [if_neg c_8, if_neg c_8]; exact ⟨R, hC, fun _ _ => rfl⟩, fr.rf⟩

set_option maxHeartbeats 4000000 in
set_option maxRecDepth 100000 in
theorem c_X5_swap (l : Launch) (V : gV) (ad : Nat → Nat) (E : Nat → va_E) (n rd : Nat) (R : Nat → Nat → Int32) (rp rw : Nat → Int32) (tr fa : Int32) (la : Nat → Int32) (sz : Nat → Nat) (cl : Nat → Nat → Int32) (hC : cR V ad E (n, R, rd, rp, rw, tr, fa, la, sz, cl)) (r : Int32) : Ct l V ad 44 44 yX5_swap cX5_swap 2 (some .int) { frames := 2, cells := 0, slots := 0, locals := 43 } [.ref (ad 0), .int r] E (pI ad (fun v E2 => v = vSwap n r ∧ (∃ R2, cR V ad E2 (n, R2, rd, rp, rw, tr, fa, la, sz, cl) ∧ ∀ i, i < n → R2 i = rSwap n R r i) ∧ fr E E2)) := by
  refine gCt mX5_swap (Nat.le_of_ble_eq_true rfl) ?_
  intro K hk
  obtain ⟨h0, ⟨π, hB⟩, ⟨dn, wo, dl, hA⟩, ⟨n2, π2, R2, hB2⟩, ⟨dn2, wo2, dl2, hA2⟩, h3, h4, h5, h6, h7⟩ := id hC
  obtain ⟨b0, b1, b2, b3, b4, b5, -⟩ := id hB
  have hn0 : nI n = 0 ↔ n = 0 := neq (b := 0) (by omega) (by omega)
  refine G_aload_n (i := 0) hk dX5_swap_0 rfl rfl ?_
  refine G_get hk fX5_12 dX5_swap_1 (by assumption) (by rfl) (by first | decide | omega) ?_
  refine G_iload_n (i := 1) hk dX5_swap_4 rfl rfl ?_
  refine G_cVi hk (c_X1_isPair l V ad E 1 n π R hB r) mX1_isPair vX1_isPair kX5_116 dX5_swap_5 (by assumption) (by rfl) (by first | decide | omega) rfl (by decide) (by decide) rfl (Nat.le_of_ble_eq_true rfl) (fun r_5 E_5 h_5 => ?_)
  obtain ⟨rfl, rfl⟩ := h_5
  refine G_if_ne (tgt := 13) hk dX5_swap_8 (by decide) (fun c_8 => ?_) (fun c_8 => ?_)
  · try simp only [gB_ne, gB_eq, Decidable.not_not] at c_8
    have hn1 : nI n - 1 = nI (n - 1) := pk_sub (b := 1) (Nat.pos_of_ne_zero (fun q => by
      subst q
      have := c_8
      exact absurd (Int32.le_trans this.1 (Int32.le_of_lt this.2)) (by decide)))
    have hc2 := c_8.2
    rw [hn1] at hc2
    obtain ⟨j, hj, rfl⟩ := gIx (Int32.not_lt.mpr c_8.1) hc2 (by omega)
    have hix : ix (nI j) = j := ix_nI (by omega)
    refine G_aload_n (i := 0) hk dX5_swap_13 rfl rfl ?_
    refine G_get hk fX5_12 dX5_swap_14 (by assumption) (by rfl) (by first | decide | omega) ?_
    refine G_iload_n (i := 1) hk dX5_swap_17 rfl rfl ?_
    refine G_cVv hk (c_X1_changePlaces l V ad E 1 n π R hB j (by omega)) mX1_changePlaces vX1_changePlaces kX5_119 dX5_swap_18 (by assumption) (by rfl) (by first | decide | omega) rfl (by decide) (by decide) rfl (Nat.le_of_ble_eq_true rfl) (fun E_18 h_18 => ?_)
    have hM := h_18
    obtain ⟨R2', hC2, hR2⟩ := hC.bk h_18
    refine G_iload_n (i := 1) hk dX5_swap_21 rfl rfl ?_
    refine G_iret hk dX5_swap_22 ?_
    exact ⟨by unfold vSwap; (try first | rw [if_pos c_8] | rw [if_neg c_8]), by unfold rSwap; rw [if_pos c_8, hix]; exact ⟨R2', hC2, hR2⟩, fr.bk hM (by omega)⟩
  · try simp only [gB_ne, gB_eq, Decidable.not_not] at c_8
    refine G_iconst (v := (-1)) hk dX5_swap_11 (by decide) ?_
    refine G_iret hk dX5_swap_12 ?_
    exact ⟨by unfold vSwap; (try first | rw [if_pos c_8] | rw [if_neg c_8]), by unfold rSwap; rw [if_neg c_8]; exact ⟨R, hC, fun _ _ => rfl⟩, fr.rf⟩

set_option maxHeartbeats 4000000 in
set_option maxRecDepth 100000 in
theorem c_X5_winner (l : Launch) (V : gV) (ad : Nat → Nat) (E : Nat → va_E) (n rd : Nat) (R : Nat → Nat → Int32) (rp rw : Nat → Int32) (tr fa : Int32) (la : Nat → Int32) (sz : Nat → Nat) (cl : Nat → Nat → Int32) (hC : cR V ad E (n, R, rd, rp, rw, tr, fa, la, sz, cl)) (x : Int32) : Ct l V ad 44 44 yX5_winner cX5_winner 2 (some .int) { frames := 2, cells := 0, slots := 0, locals := 43 } [.ref (ad 0), .int x] E (pI ad (fun v E2 => v = vWinner n R x ∧ cR V ad E2 (n, R, rd, rp, rw, tr, fa, la, sz, cl) ∧ fr E E2)) := by
  refine gCt mX5_winner (Nat.le_of_ble_eq_true rfl) ?_
  intro K hk
  obtain ⟨h0, ⟨π, hB⟩, ⟨dn, wo, dl, hA⟩, ⟨n2, π2, R2, hB2⟩, ⟨dn2, wo2, dl2, hA2⟩, h3, h4, h5, h6, h7⟩ := id hC
  obtain ⟨b0, b1, b2, b3, b4, b5, -⟩ := id hB
  have hn0 : nI n = 0 ↔ n = 0 := neq (b := 0) (by omega) (by omega)
  refine G_iload_n (i := 1) hk dX5_winner_0 rfl rfl ?_
  refine G_cSi hk (c_X5_isPoint l V ad E x) mX5_isPoint sX5_isPoint kX5_122 dX5_winner_1 rfl (by decide) (by decide) rfl (Nat.le_of_ble_eq_true rfl) (fun r_1 E_1 h_1 => ?_)
  obtain ⟨rfl, rfl⟩ := h_1
  refine G_if_ne (tgt := 10) hk dX5_winner_4 (by decide) (fun c_4 => ?_) (fun c_4 => ?_)
  · try simp only [gB_ne, gB_eq, Decidable.not_not] at c_4
    refine G_aload_n (i := 0) hk dX5_winner_10 rfl rfl ?_
    refine G_get hk fX5_12 dX5_winner_11 (by assumption) (by rfl) (by first | decide | omega) ?_
    refine G_get hk fX5_71 dX5_winner_14 (by assumption) (by rfl) (by first | decide | omega) ?_
    refine G_if_ne (tgt := 23) hk dX5_winner_17 (by decide) (fun c_17 => ?_) (fun c_17 => ?_)
    · try simp only [gB_ne, gB_eq, Decidable.not_not] at c_17
      have hn : ¬ n = 0 := fun q => c_17 (hn0.mpr q)
      refine G_aload_n (i := 0) hk dX5_winner_23 rfl rfl ?_
      refine G_get hk fX5_12 dX5_winner_24 (by assumption) (by rfl) (by first | decide | omega) ?_
      refine G_iload_n (i := 1) hk dX5_winner_27 rfl rfl ?_
      refine G_cVi hk (c_X1_winnerOf l V ad E 1 n π R hB x) mX1_winnerOf vX1_winnerOf kX5_125 dX5_winner_28 (by assumption) (by rfl) (by first | decide | omega) rfl (by decide) (by decide) rfl (Nat.le_of_ble_eq_true rfl) (fun r_28 E_28 h_28 => ?_)
      obtain ⟨rfl, rfl⟩ := h_28
      refine G_iret hk dX5_winner_31 ?_
      exact ⟨by unfold vWinner; (try first | rw [if_pos c_4] | rw [if_neg c_4]); (try first | rw [if_pos c_17] | rw [if_neg c_17]); (try first | rw [if_pos hn] | rw [if_neg hn]), hC, fr.rf⟩
    · try simp only [gB_ne, gB_eq, Decidable.not_not] at c_17
      have hn : n = 0 := hn0.mp (by first | exact c_17 | exact Decidable.not_not.mp c_17)
      refine G_bipush (v := (-3)) hk dX5_winner_20 (by decide) ?_
      refine G_iret hk dX5_winner_22 ?_
      exact ⟨by unfold vWinner; (try first | rw [if_pos c_4] | rw [if_neg c_4]); (try first | rw [if_pos c_17] | rw [if_neg c_17]); (try first | rw [if_pos hn] | rw [if_neg hn]), hC, fr.rf⟩
  · try simp only [gB_ne, gB_eq, Decidable.not_not] at c_4
    refine G_bipush (v := (-2)) hk dX5_winner_7 (by decide) ?_
    refine G_iret hk dX5_winner_9 ?_
    exact ⟨by unfold vWinner; (try first | rw [if_pos c_4] | rw [if_neg c_4]); (try first | rw [if_pos hn] | rw [if_neg hn]), hC, fr.rf⟩
end
