section
-- ===== PART A: goes FIRST, ahead of the names: the tables' words, and 'selects' of the private methods out of them =====
/-- a private method of a class that the tables say can be made, by its rows of tables_1 -/
def lw_okq (q : MethodName × Nat) : Prop := (q.1.cls ≠ "java/lang/invoke/MethodHandle" ∧ q.1.cls ≠ "java/lang/invoke/VarHandle") ∧ Cond.instantiable q.1.cls q.2 ∈ tables_1 ∧ Cond.privateMethod q.1 ∈ tables_1 ∧ Cond.instanceMethod q.1 ∈ tables_1
theorem lw_p0 : lw_okq (⟨"LineBundles", "found", "(I)I"⟩, 11) := ⟨⟨by decide +kernel, by decide +kernel⟩, List.mem_of_getElem? (i := 12) (by decide +kernel), List.mem_of_getElem? (i := 213) (by decide +kernel), List.mem_of_getElem? (i := 214) (by decide +kernel)⟩
theorem lw_p1 : lw_okq (⟨"LineBundles", "unfound", "(I)I"⟩, 11) := ⟨⟨by decide +kernel, by decide +kernel⟩, List.mem_of_getElem? (i := 12) (by decide +kernel), List.mem_of_getElem? (i := 222) (by decide +kernel), List.mem_of_getElem? (i := 223) (by decide +kernel)⟩
theorem lw_p2 : lw_okq (⟨"LineBundles", "turn", "(IZ)I"⟩, 11) := ⟨⟨by decide +kernel, by decide +kernel⟩, List.mem_of_getElem? (i := 12) (by decide +kernel), List.mem_of_getElem? (i := 291) (by decide +kernel), List.mem_of_getElem? (i := 292) (by decide +kernel)⟩
theorem lw_p3 : lw_okq (⟨"LineBundles", "isPoint", "(I)Z"⟩, 11) := ⟨⟨by decide +kernel, by decide +kernel⟩, List.mem_of_getElem? (i := 12) (by decide +kernel), List.mem_of_getElem? (i := 303) (by decide +kernel), List.mem_of_getElem? (i := 304) (by decide +kernel)⟩
theorem lw_p4 : lw_okq (⟨"LineBundles", "isLine", "(I)Z"⟩, 11) := ⟨⟨by decide +kernel, by decide +kernel⟩, List.mem_of_getElem? (i := 12) (by decide +kernel), List.mem_of_getElem? (i := 320) (by decide +kernel), List.mem_of_getElem? (i := 321) (by decide +kernel)⟩
theorem lw_p5 : lw_okq (⟨"LineBundles$Finder", "spread", "(LLineBundles$Net;LLineBundles$Line;)V"⟩, 6) := ⟨⟨by decide +kernel, by decide +kernel⟩, List.mem_of_getElem? (i := 70) (by decide +kernel), List.mem_of_getElem? (i := 328) (by decide +kernel), List.mem_of_getElem? (i := 329) (by decide +kernel)⟩
theorem lw_p6 : lw_okq (⟨"LineBundles$Finder", "reach", "(II)V"⟩, 6) := ⟨⟨by decide +kernel, by decide +kernel⟩, List.mem_of_getElem? (i := 70) (by decide +kernel), List.mem_of_getElem? (i := 333) (by decide +kernel), List.mem_of_getElem? (i := 334) (by decide +kernel)⟩
theorem lw_p7 : lw_okq (⟨"LineBundles$Finder", "pull", "()I"⟩, 6) := ⟨⟨by decide +kernel, by decide +kernel⟩, List.mem_of_getElem? (i := 70) (by decide +kernel), List.mem_of_getElem? (i := 337) (by decide +kernel), List.mem_of_getElem? (i := 338) (by decide +kernel)⟩
theorem lw_p8 : lw_okq (⟨"LineBundles$Finder", "reachFrom", "(LLineBundles$Net;LLineBundles$Line;I)V"⟩, 6) := ⟨⟨by decide +kernel, by decide +kernel⟩, List.mem_of_getElem? (i := 70) (by decide +kernel), List.mem_of_getElem? (i := 341) (by decide +kernel), List.mem_of_getElem? (i := 342) (by decide +kernel)⟩
theorem lw_p9 : lw_okq (⟨"LineBundles$Finder", "leastDirection", "(LLineBundles$Net;LLineBundles$Line;I)I"⟩, 6) := ⟨⟨by decide +kernel, by decide +kernel⟩, List.mem_of_getElem? (i := 70) (by decide +kernel), List.mem_of_getElem? (i := 356) (by decide +kernel), List.mem_of_getElem? (i := 357) (by decide +kernel)⟩
theorem lw_p10 : lw_okq (⟨"LineBundles$Net", "flipAlong", "(LLineBundles$Line;)V"⟩, 7) := ⟨⟨by decide +kernel, by decide +kernel⟩, List.mem_of_getElem? (i := 24) (by decide +kernel), List.mem_of_getElem? (i := 364) (by decide +kernel), List.mem_of_getElem? (i := 365) (by decide +kernel)⟩
theorem lw_p11 : lw_okq (⟨"LineBundles", "goThroughLines", "()I"⟩, 11) := ⟨⟨by decide +kernel, by decide +kernel⟩, List.mem_of_getElem? (i := 12) (by decide +kernel), List.mem_of_getElem? (i := 397) (by decide +kernel), List.mem_of_getElem? (i := 398) (by decide +kernel)⟩
theorem lw_p12 : lw_okq (⟨"LineBundles", "leadIfBetter", "(LLineBundles$Line;)Z"⟩, 11) := ⟨⟨by decide +kernel, by decide +kernel⟩, List.mem_of_getElem? (i := 12) (by decide +kernel), List.mem_of_getElem? (i := 401) (by decide +kernel), List.mem_of_getElem? (i := 402) (by decide +kernel)⟩
theorem lw_p13 : lw_okq (⟨"LineBundles$Net", "isFork", "(I)Z"⟩, 7) := ⟨⟨by decide +kernel, by decide +kernel⟩, List.mem_of_getElem? (i := 24) (by decide +kernel), List.mem_of_getElem? (i := 448) (by decide +kernel), List.mem_of_getElem? (i := 449) (by decide +kernel)⟩
theorem lw_p14 : lw_okq (⟨"LineBundles", "sidesOfWays", "()I"⟩, 11) := ⟨⟨by decide +kernel, by decide +kernel⟩, List.mem_of_getElem? (i := 12) (by decide +kernel), List.mem_of_getElem? (i := 456) (by decide +kernel), List.mem_of_getElem? (i := 457) (by decide +kernel)⟩
theorem lw_p15 : lw_okq (⟨"LineBundles", "waysMask", "()I"⟩, 11) := ⟨⟨by decide +kernel, by decide +kernel⟩, List.mem_of_getElem? (i := 12) (by decide +kernel), List.mem_of_getElem? (i := 484) (by decide +kernel), List.mem_of_getElem? (i := 485) (by decide +kernel)⟩
def lw_privs_1 : List (MethodName × Nat) := [(⟨"LineBundles", "found", "(I)I"⟩, 11), (⟨"LineBundles", "unfound", "(I)I"⟩, 11), (⟨"LineBundles", "turn", "(IZ)I"⟩, 11), (⟨"LineBundles", "isPoint", "(I)Z"⟩, 11), (⟨"LineBundles", "isLine", "(I)Z"⟩, 11), (⟨"LineBundles$Finder", "spread", "(LLineBundles$Net;LLineBundles$Line;)V"⟩, 6), (⟨"LineBundles$Finder", "reach", "(II)V"⟩, 6), (⟨"LineBundles$Finder", "pull", "()I"⟩, 6), (⟨"LineBundles$Finder", "reachFrom", "(LLineBundles$Net;LLineBundles$Line;I)V"⟩, 6), (⟨"LineBundles$Finder", "leastDirection", "(LLineBundles$Net;LLineBundles$Line;I)I"⟩, 6), (⟨"LineBundles$Net", "flipAlong", "(LLineBundles$Line;)V"⟩, 7), (⟨"LineBundles", "goThroughLines", "()I"⟩, 11), (⟨"LineBundles", "leadIfBetter", "(LLineBundles$Line;)Z"⟩, 11), (⟨"LineBundles$Net", "isFork", "(I)Z"⟩, 7), (⟨"LineBundles", "sidesOfWays", "()I"⟩, 11), (⟨"LineBundles", "waysMask", "()I"⟩, 11)]
theorem lw_r1 : ∀ q ∈ lw_privs_1, lw_okq q := List.forall_mem_cons.mpr ⟨lw_p0, List.forall_mem_cons.mpr ⟨lw_p1, List.forall_mem_cons.mpr ⟨lw_p2, List.forall_mem_cons.mpr ⟨lw_p3, List.forall_mem_cons.mpr ⟨lw_p4, List.forall_mem_cons.mpr ⟨lw_p5, List.forall_mem_cons.mpr ⟨lw_p6, List.forall_mem_cons.mpr ⟨lw_p7, List.forall_mem_cons.mpr ⟨lw_p8, List.forall_mem_cons.mpr ⟨lw_p9, List.forall_mem_cons.mpr ⟨lw_p10, List.forall_mem_cons.mpr ⟨lw_p11, List.forall_mem_cons.mpr ⟨lw_p12, List.forall_mem_cons.mpr ⟨lw_p13, List.forall_mem_cons.mpr ⟨lw_p14, List.forall_mem_cons.mpr ⟨lw_p15, fun _ h => absurd h List.not_mem_nil⟩⟩⟩⟩⟩⟩⟩⟩⟩⟩⟩⟩⟩⟩⟩⟩
theorem lw_p16 : lw_okq (⟨"LineBundles$Tinter", "gatherClashes", "(LLineBundles$Net;)V"⟩, 4) := ⟨⟨by decide +kernel, by decide +kernel⟩, List.mem_of_getElem? (i := 98) (by decide +kernel), List.mem_of_getElem? (i := 492) (by decide +kernel), List.mem_of_getElem? (i := 493) (by decide +kernel)⟩
theorem lw_p17 : lw_okq (⟨"LineBundles", "isEndOfWay", "(I)Z"⟩, 11) := ⟨⟨by decide +kernel, by decide +kernel⟩, List.mem_of_getElem? (i := 12) (by decide +kernel), List.mem_of_getElem? (i := 507) (by decide +kernel), List.mem_of_getElem? (i := 508) (by decide +kernel)⟩
theorem lw_p18 : lw_okq (⟨"LineBundles", "sizeAsked", "(LLineBundles$Line;)I"⟩, 11) := ⟨⟨by decide +kernel, by decide +kernel⟩, List.mem_of_getElem? (i := 12) (by decide +kernel), List.mem_of_getElem? (i := 536) (by decide +kernel), List.mem_of_getElem? (i := 537) (by decide +kernel)⟩
theorem lw_p19 : lw_okq (⟨"LineBundles", "sizeOfAlone", "(LLineBundles$Line;)I"⟩, 11) := ⟨⟨by decide +kernel, by decide +kernel⟩, List.mem_of_getElem? (i := 12) (by decide +kernel), List.mem_of_getElem? (i := 540) (by decide +kernel), List.mem_of_getElem? (i := 541) (by decide +kernel)⟩
theorem lw_p20 : lw_okq (⟨"LineBundles", "leave", "(I)V"⟩, 11) := ⟨⟨by decide +kernel, by decide +kernel⟩, List.mem_of_getElem? (i := 12) (by decide +kernel), List.mem_of_getElem? (i := 544) (by decide +kernel), List.mem_of_getElem? (i := 545) (by decide +kernel)⟩
theorem lw_p21 : lw_okq (⟨"LineBundles", "sizeLent", "(LLineBundles$Line;)I"⟩, 11) := ⟨⟨by decide +kernel, by decide +kernel⟩, List.mem_of_getElem? (i := 12) (by decide +kernel), List.mem_of_getElem? (i := 548) (by decide +kernel), List.mem_of_getElem? (i := 549) (by decide +kernel)⟩
theorem lw_p22 : lw_okq (⟨"LineBundles", "sizeOfBound", "(LLineBundles$Line;)I"⟩, 11) := ⟨⟨by decide +kernel, by decide +kernel⟩, List.mem_of_getElem? (i := 12) (by decide +kernel), List.mem_of_getElem? (i := 552) (by decide +kernel), List.mem_of_getElem? (i := 553) (by decide +kernel)⟩
theorem lw_p23 : lw_okq (⟨"LineBundles", "sizeOfForked", "(LLineBundles$Line;)I"⟩, 11) := ⟨⟨by decide +kernel, by decide +kernel⟩, List.mem_of_getElem? (i := 12) (by decide +kernel), List.mem_of_getElem? (i := 556) (by decide +kernel), List.mem_of_getElem? (i := 557) (by decide +kernel)⟩
theorem lw_p24 : lw_okq (⟨"LineBundles", "markOfForked", "(LLineBundles$Line;)I"⟩, 11) := ⟨⟨by decide +kernel, by decide +kernel⟩, List.mem_of_getElem? (i := 12) (by decide +kernel), List.mem_of_getElem? (i := 560) (by decide +kernel), List.mem_of_getElem? (i := 561) (by decide +kernel)⟩
theorem lw_p25 : lw_okq (⟨"LineBundles", "markLent", "(LLineBundles$Line;)I"⟩, 11) := ⟨⟨by decide +kernel, by decide +kernel⟩, List.mem_of_getElem? (i := 12) (by decide +kernel), List.mem_of_getElem? (i := 564) (by decide +kernel), List.mem_of_getElem? (i := 565) (by decide +kernel)⟩
theorem lw_p26 : lw_okq (⟨"LineBundles", "markAsked", "(LLineBundles$Line;)I"⟩, 11) := ⟨⟨by decide +kernel, by decide +kernel⟩, List.mem_of_getElem? (i := 12) (by decide +kernel), List.mem_of_getElem? (i := 569) (by decide +kernel), List.mem_of_getElem? (i := 570) (by decide +kernel)⟩
theorem lw_p27 : lw_okq (⟨"LineBundles", "markOfBound", "(LLineBundles$Line;)I"⟩, 11) := ⟨⟨by decide +kernel, by decide +kernel⟩, List.mem_of_getElem? (i := 12) (by decide +kernel), List.mem_of_getElem? (i := 573) (by decide +kernel), List.mem_of_getElem? (i := 574) (by decide +kernel)⟩
theorem lw_p28 : lw_okq (⟨"LineBundles", "sheetsThere", "()I"⟩, 11) := ⟨⟨by decide +kernel, by decide +kernel⟩, List.mem_of_getElem? (i := 12) (by decide +kernel), List.mem_of_getElem? (i := 585) (by decide +kernel), List.mem_of_getElem? (i := 586) (by decide +kernel)⟩
theorem lw_p29 : lw_okq (⟨"LineBundles", "linesOfKind", "(I)I"⟩, 11) := ⟨⟨by decide +kernel, by decide +kernel⟩, List.mem_of_getElem? (i := 12) (by decide +kernel), List.mem_of_getElem? (i := 590) (by decide +kernel), List.mem_of_getElem? (i := 591) (by decide +kernel)⟩
theorem lw_p30 : lw_okq (⟨"LineBundlesModel", "found", "(I)I"⟩, 22) := ⟨⟨by decide +kernel, by decide +kernel⟩, List.mem_of_getElem? (i := 602) (by decide +kernel), List.mem_of_getElem? (i := 688) (by decide +kernel), List.mem_of_getElem? (i := 689) (by decide +kernel)⟩
theorem lw_p31 : lw_okq (⟨"LineBundlesModel", "pointOn", "(I)I"⟩, 22) := ⟨⟨by decide +kernel, by decide +kernel⟩, List.mem_of_getElem? (i := 602) (by decide +kernel), List.mem_of_getElem? (i := 713) (by decide +kernel), List.mem_of_getElem? (i := 714) (by decide +kernel)⟩
def lw_privs_2 : List (MethodName × Nat) := [(⟨"LineBundles$Tinter", "gatherClashes", "(LLineBundles$Net;)V"⟩, 4), (⟨"LineBundles", "isEndOfWay", "(I)Z"⟩, 11), (⟨"LineBundles", "sizeAsked", "(LLineBundles$Line;)I"⟩, 11), (⟨"LineBundles", "sizeOfAlone", "(LLineBundles$Line;)I"⟩, 11), (⟨"LineBundles", "leave", "(I)V"⟩, 11), (⟨"LineBundles", "sizeLent", "(LLineBundles$Line;)I"⟩, 11), (⟨"LineBundles", "sizeOfBound", "(LLineBundles$Line;)I"⟩, 11), (⟨"LineBundles", "sizeOfForked", "(LLineBundles$Line;)I"⟩, 11), (⟨"LineBundles", "markOfForked", "(LLineBundles$Line;)I"⟩, 11), (⟨"LineBundles", "markLent", "(LLineBundles$Line;)I"⟩, 11), (⟨"LineBundles", "markAsked", "(LLineBundles$Line;)I"⟩, 11), (⟨"LineBundles", "markOfBound", "(LLineBundles$Line;)I"⟩, 11), (⟨"LineBundles", "sheetsThere", "()I"⟩, 11), (⟨"LineBundles", "linesOfKind", "(I)I"⟩, 11), (⟨"LineBundlesModel", "found", "(I)I"⟩, 22), (⟨"LineBundlesModel", "pointOn", "(I)I"⟩, 22)]
theorem lw_r2 : ∀ q ∈ lw_privs_2, lw_okq q := List.forall_mem_cons.mpr ⟨lw_p16, List.forall_mem_cons.mpr ⟨lw_p17, List.forall_mem_cons.mpr ⟨lw_p18, List.forall_mem_cons.mpr ⟨lw_p19, List.forall_mem_cons.mpr ⟨lw_p20, List.forall_mem_cons.mpr ⟨lw_p21, List.forall_mem_cons.mpr ⟨lw_p22, List.forall_mem_cons.mpr ⟨lw_p23, List.forall_mem_cons.mpr ⟨lw_p24, List.forall_mem_cons.mpr ⟨lw_p25, List.forall_mem_cons.mpr ⟨lw_p26, List.forall_mem_cons.mpr ⟨lw_p27, List.forall_mem_cons.mpr ⟨lw_p28, List.forall_mem_cons.mpr ⟨lw_p29, List.forall_mem_cons.mpr ⟨lw_p30, List.forall_mem_cons.mpr ⟨lw_p31, fun _ h => absurd h List.not_mem_nil⟩⟩⟩⟩⟩⟩⟩⟩⟩⟩⟩⟩⟩⟩⟩⟩
theorem lw_p32 : lw_okq (⟨"LineBundlesModel", "isOfWay", "(I)Z"⟩, 22) := ⟨⟨by decide +kernel, by decide +kernel⟩, List.mem_of_getElem? (i := 602) (by decide +kernel), List.mem_of_getElem? (i := 724) (by decide +kernel), List.mem_of_getElem? (i := 725) (by decide +kernel)⟩
theorem lw_p33 : lw_okq (⟨"LineBundlesModel", "widthOf", "(I)I"⟩, 22) := ⟨⟨by decide +kernel, by decide +kernel⟩, List.mem_of_getElem? (i := 602) (by decide +kernel), List.mem_of_getElem? (i := 734) (by decide +kernel), List.mem_of_getElem? (i := 735) (by decide +kernel)⟩
theorem lw_p34 : lw_okq (⟨"LineBundlesModel", "isPoint", "(I)Z"⟩, 22) := ⟨⟨by decide +kernel, by decide +kernel⟩, List.mem_of_getElem? (i := 602) (by decide +kernel), List.mem_of_getElem? (i := 746) (by decide +kernel), List.mem_of_getElem? (i := 747) (by decide +kernel)⟩
theorem lw_p35 : lw_okq (⟨"LineBundlesModel", "isLine", "(I)Z"⟩, 22) := ⟨⟨by decide +kernel, by decide +kernel⟩, List.mem_of_getElem? (i := 602) (by decide +kernel), List.mem_of_getElem? (i := 760) (by decide +kernel), List.mem_of_getElem? (i := 761) (by decide +kernel)⟩
theorem lw_p36 : lw_okq (⟨"LineBundlesModel", "wipe", "(I)V"⟩, 22) := ⟨⟨by decide +kernel, by decide +kernel⟩, List.mem_of_getElem? (i := 602) (by decide +kernel), List.mem_of_getElem? (i := 764) (by decide +kernel), List.mem_of_getElem? (i := 765) (by decide +kernel)⟩
theorem lw_p37 : lw_okq (⟨"LineBundlesModel", "find", "(I)Z"⟩, 22) := ⟨⟨by decide +kernel, by decide +kernel⟩, List.mem_of_getElem? (i := 602) (by decide +kernel), List.mem_of_getElem? (i := 768) (by decide +kernel), List.mem_of_getElem? (i := 769) (by decide +kernel)⟩
theorem lw_p38 : lw_okq (⟨"LineBundlesModel", "costOf", "(I)I"⟩, 22) := ⟨⟨by decide +kernel, by decide +kernel⟩, List.mem_of_getElem? (i := 602) (by decide +kernel), List.mem_of_getElem? (i := 772) (by decide +kernel), List.mem_of_getElem? (i := 773) (by decide +kernel)⟩
theorem lw_p39 : lw_okq (⟨"LineBundlesModel", "follow", "(I)V"⟩, 22) := ⟨⟨by decide +kernel, by decide +kernel⟩, List.mem_of_getElem? (i := 602) (by decide +kernel), List.mem_of_getElem? (i := 776) (by decide +kernel), List.mem_of_getElem? (i := 777) (by decide +kernel)⟩
theorem lw_p40 : lw_okq (⟨"LineBundlesModel", "passed", "()I"⟩, 22) := ⟨⟨by decide +kernel, by decide +kernel⟩, List.mem_of_getElem? (i := 602) (by decide +kernel), List.mem_of_getElem? (i := 794) (by decide +kernel), List.mem_of_getElem? (i := 795) (by decide +kernel)⟩
theorem lw_p41 : lw_okq (⟨"LineBundlesModel", "ownCost", "(I)I"⟩, 22) := ⟨⟨by decide +kernel, by decide +kernel⟩, List.mem_of_getElem? (i := 602) (by decide +kernel), List.mem_of_getElem? (i := 798) (by decide +kernel), List.mem_of_getElem? (i := 799) (by decide +kernel)⟩
theorem lw_p42 : lw_okq (⟨"LineBundlesModel", "at", "(II)I"⟩, 22) := ⟨⟨by decide +kernel, by decide +kernel⟩, List.mem_of_getElem? (i := 602) (by decide +kernel), List.mem_of_getElem? (i := 819) (by decide +kernel), List.mem_of_getElem? (i := 820) (by decide +kernel)⟩
theorem lw_p43 : lw_okq (⟨"LineBundlesModel", "detourOf", "(I)I"⟩, 22) := ⟨⟨by decide +kernel, by decide +kernel⟩, List.mem_of_getElem? (i := 602) (by decide +kernel), List.mem_of_getElem? (i := 827) (by decide +kernel), List.mem_of_getElem? (i := 828) (by decide +kernel)⟩
theorem lw_p44 : lw_okq (⟨"LineBundlesModel", "sharedBy", "(II)I"⟩, 22) := ⟨⟨by decide +kernel, by decide +kernel⟩, List.mem_of_getElem? (i := 602) (by decide +kernel), List.mem_of_getElem? (i := 838) (by decide +kernel), List.mem_of_getElem? (i := 839) (by decide +kernel)⟩
theorem lw_p45 : lw_okq (⟨"LineBundlesModel", "ways", "()I"⟩, 22) := ⟨⟨by decide +kernel, by decide +kernel⟩, List.mem_of_getElem? (i := 602) (by decide +kernel), List.mem_of_getElem? (i := 846) (by decide +kernel), List.mem_of_getElem? (i := 847) (by decide +kernel)⟩
theorem lw_p46 : lw_okq (⟨"LineBundlesModel", "tints", "(I)Z"⟩, 22) := ⟨⟨by decide +kernel, by decide +kernel⟩, List.mem_of_getElem? (i := 602) (by decide +kernel), List.mem_of_getElem? (i := 850) (by decide +kernel), List.mem_of_getElem? (i := 851) (by decide +kernel)⟩
theorem lw_p47 : lw_okq (⟨"LineBundlesModel", "fits", "(I)Z"⟩, 22) := ⟨⟨by decide +kernel, by decide +kernel⟩, List.mem_of_getElem? (i := 602) (by decide +kernel), List.mem_of_getElem? (i := 854) (by decide +kernel), List.mem_of_getElem? (i := 855) (by decide +kernel)⟩
def lw_privs_3 : List (MethodName × Nat) := [(⟨"LineBundlesModel", "isOfWay", "(I)Z"⟩, 22), (⟨"LineBundlesModel", "widthOf", "(I)I"⟩, 22), (⟨"LineBundlesModel", "isPoint", "(I)Z"⟩, 22), (⟨"LineBundlesModel", "isLine", "(I)Z"⟩, 22), (⟨"LineBundlesModel", "wipe", "(I)V"⟩, 22), (⟨"LineBundlesModel", "find", "(I)Z"⟩, 22), (⟨"LineBundlesModel", "costOf", "(I)I"⟩, 22), (⟨"LineBundlesModel", "follow", "(I)V"⟩, 22), (⟨"LineBundlesModel", "passed", "()I"⟩, 22), (⟨"LineBundlesModel", "ownCost", "(I)I"⟩, 22), (⟨"LineBundlesModel", "at", "(II)I"⟩, 22), (⟨"LineBundlesModel", "detourOf", "(I)I"⟩, 22), (⟨"LineBundlesModel", "sharedBy", "(II)I"⟩, 22), (⟨"LineBundlesModel", "ways", "()I"⟩, 22), (⟨"LineBundlesModel", "tints", "(I)Z"⟩, 22), (⟨"LineBundlesModel", "fits", "(I)Z"⟩, 22)]
theorem lw_r3 : ∀ q ∈ lw_privs_3, lw_okq q := List.forall_mem_cons.mpr ⟨lw_p32, List.forall_mem_cons.mpr ⟨lw_p33, List.forall_mem_cons.mpr ⟨lw_p34, List.forall_mem_cons.mpr ⟨lw_p35, List.forall_mem_cons.mpr ⟨lw_p36, List.forall_mem_cons.mpr ⟨lw_p37, List.forall_mem_cons.mpr ⟨lw_p38, List.forall_mem_cons.mpr ⟨lw_p39, List.forall_mem_cons.mpr ⟨lw_p40, List.forall_mem_cons.mpr ⟨lw_p41, List.forall_mem_cons.mpr ⟨lw_p42, List.forall_mem_cons.mpr ⟨lw_p43, List.forall_mem_cons.mpr ⟨lw_p44, List.forall_mem_cons.mpr ⟨lw_p45, List.forall_mem_cons.mpr ⟨lw_p46, List.forall_mem_cons.mpr ⟨lw_p47, fun _ h => absurd h List.not_mem_nil⟩⟩⟩⟩⟩⟩⟩⟩⟩⟩⟩⟩⟩⟩⟩⟩
theorem lw_p48 : lw_okq (⟨"LineBundlesModel", "isWide", "(II)Z"⟩, 22) := ⟨⟨by decide +kernel, by decide +kernel⟩, List.mem_of_getElem? (i := 602) (by decide +kernel), List.mem_of_getElem? (i := 862) (by decide +kernel), List.mem_of_getElem? (i := 863) (by decide +kernel)⟩
theorem lw_p49 : lw_okq (⟨"LineBundlesModel", "isEnd", "(I)Z"⟩, 22) := ⟨⟨by decide +kernel, by decide +kernel⟩, List.mem_of_getElem? (i := 602) (by decide +kernel), List.mem_of_getElem? (i := 866) (by decide +kernel), List.mem_of_getElem? (i := 867) (by decide +kernel)⟩
theorem lw_p50 : lw_okq (⟨"LineBundlesModel", "kindOf", "(I)I"⟩, 22) := ⟨⟨by decide +kernel, by decide +kernel⟩, List.mem_of_getElem? (i := 602) (by decide +kernel), List.mem_of_getElem? (i := 874) (by decide +kernel), List.mem_of_getElem? (i := 875) (by decide +kernel)⟩
theorem lw_p51 : lw_okq (⟨"LineBundlesModel", "sharing", "(I)I"⟩, 22) := ⟨⟨by decide +kernel, by decide +kernel⟩, List.mem_of_getElem? (i := 602) (by decide +kernel), List.mem_of_getElem? (i := 878) (by decide +kernel), List.mem_of_getElem? (i := 879) (by decide +kernel)⟩
theorem lw_p52 : lw_okq (⟨"LineBundlesModel", "sized", "(I)I"⟩, 22) := ⟨⟨by decide +kernel, by decide +kernel⟩, List.mem_of_getElem? (i := 602) (by decide +kernel), List.mem_of_getElem? (i := 890) (by decide +kernel), List.mem_of_getElem? (i := 891) (by decide +kernel)⟩
theorem lw_p53 : lw_okq (⟨"LineBundlesModel", "began", "(I)V"⟩, 22) := ⟨⟨by decide +kernel, by decide +kernel⟩, List.mem_of_getElem? (i := 602) (by decide +kernel), List.mem_of_getElem? (i := 894) (by decide +kernel), List.mem_of_getElem? (i := 895) (by decide +kernel)⟩
theorem lw_p54 : lw_okq (⟨"LineBundlesModel", "marked", "(I)I"⟩, 22) := ⟨⟨by decide +kernel, by decide +kernel⟩, List.mem_of_getElem? (i := 602) (by decide +kernel), List.mem_of_getElem? (i := 898) (by decide +kernel), List.mem_of_getElem? (i := 899) (by decide +kernel)⟩
def lw_privs_4 : List (MethodName × Nat) := [(⟨"LineBundlesModel", "isWide", "(II)Z"⟩, 22), (⟨"LineBundlesModel", "isEnd", "(I)Z"⟩, 22), (⟨"LineBundlesModel", "kindOf", "(I)I"⟩, 22), (⟨"LineBundlesModel", "sharing", "(I)I"⟩, 22), (⟨"LineBundlesModel", "sized", "(I)I"⟩, 22), (⟨"LineBundlesModel", "began", "(I)V"⟩, 22), (⟨"LineBundlesModel", "marked", "(I)I"⟩, 22)]
theorem lw_r4 : ∀ q ∈ lw_privs_4, lw_okq q := List.forall_mem_cons.mpr ⟨lw_p48, List.forall_mem_cons.mpr ⟨lw_p49, List.forall_mem_cons.mpr ⟨lw_p50, List.forall_mem_cons.mpr ⟨lw_p51, List.forall_mem_cons.mpr ⟨lw_p52, List.forall_mem_cons.mpr ⟨lw_p53, List.forall_mem_cons.mpr ⟨lw_p54, fun _ h => absurd h List.not_mem_nil⟩⟩⟩⟩⟩⟩⟩
def lw_privs : List (MethodName × Nat) := lw_privs_1 ++ (lw_privs_2 ++ (lw_privs_3 ++ (lw_privs_4)))
def lw_tbl : List Cond := k2_sels lw_privs ++ tables_1
theorem lw_privs_ok : ∀ q ∈ lw_privs, lw_okq q := by
  show ∀ q ∈ lw_privs_1 ++ (lw_privs_2 ++ (lw_privs_3 ++ (lw_privs_4))), lw_okq q
  exact List.forall_mem_append.mpr ⟨lw_r1, List.forall_mem_append.mpr ⟨lw_r2, List.forall_mem_append.mpr ⟨lw_r3, lw_r4⟩⟩⟩
end
section
def RX0 : String := "LineBundles$Finder"
def TX0 : u_T := fun k => match k with
  | 0 => ("LineBundles$Finder", "left", "[I", true)
  | 1 => ("LineBundles$Finder", "heap", "[I", true)
  | 2 => ("LineBundles$Finder", "steps", "[I", true)
  | 3 => ("LineBundles$Finder", "heaped", "I", false)
  | 4 => ("LineBundles$Finder", "length", "I", false)
  | _ => ("LineBundles$Finder", "cost", "I", false)
def tyX0 : Nat → FieldType := fun k => match k with
  | 0 => .array .int
  | 1 => .array .int
  | 2 => .array .int
  | 3 => .int
  | 4 => .int
  | _ => .int
abbrev wsX00 : List Cond := u_ws RX0 TX0 6
theorem nmX0 : ∀ a, a < 6 → ∀ b, b < 6 → a ≠ b → (TX0 a).2.1 ≠ (TX0 b).2.1 := by decide +kernel
theorem tyX0_ok : ∀ k, k < 6 → parseFieldDescriptor (TX0 k).2.2.1 = some (tyX0 k) := by decide +kernel
abbrev cX0_init : ByteArray := prog_2_method_1_code
def yX0_init : MethodName := ⟨RX0, "<init>", "()V"⟩
abbrev cX0_findWay : ByteArray := prog_2_method_2_code
def yX0_findWay : MethodName := ⟨RX0, "findWay", "(LLineBundles$Net;LLineBundles$Line;)Z"⟩
abbrev cX0_weight : ByteArray := prog_2_method_3_code
def yX0_weight : MethodName := ⟨RX0, "weight", "(LLineBundles$Net;LLineBundles$Line;I)I"⟩
abbrev cX0_leastDirection : ByteArray := prog_2_method_4_code
def yX0_leastDirection : MethodName := ⟨RX0, "leastDirection", "(LLineBundles$Net;LLineBundles$Line;I)I"⟩
abbrev cX0_spread : ByteArray := prog_2_method_5_code
def yX0_spread : MethodName := ⟨RX0, "spread", "(LLineBundles$Net;LLineBundles$Line;)V"⟩
abbrev cX0_reachFrom : ByteArray := prog_2_method_6_code
def yX0_reachFrom : MethodName := ⟨RX0, "reachFrom", "(LLineBundles$Net;LLineBundles$Line;I)V"⟩
abbrev cX0_reach : ByteArray := prog_2_method_7_code
def yX0_reach : MethodName := ⟨RX0, "reach", "(II)V"⟩
abbrev cX0_pull : ByteArray := prog_2_method_8_code
def yX0_pull : MethodName := ⟨RX0, "pull", "()I"⟩
def RX1 : String := "LineBundles$Line"
def TX1 : u_T := fun k => match k with
  | 0 => ("LineBundles$Line", "bit", "I", true)
  | 1 => ("LineBundles$Line", "steps", "[I", true)
  | 2 => ("LineBundles$Line", "start", "I", false)
  | 3 => ("LineBundles$Line", "goal", "I", false)
  | _ => ("LineBundles$Line", "length", "I", false)
def tyX1 : Nat → FieldType := fun k => match k with
  | 0 => .int
  | 1 => .array .int
  | 2 => .int
  | 3 => .int
  | _ => .int
abbrev wsX10 : List Cond := u_ws RX1 TX1 5
theorem nmX1 : ∀ a, a < 5 → ∀ b, b < 5 → a ≠ b → (TX1 a).2.1 ≠ (TX1 b).2.1 := by decide +kernel
theorem tyX1_ok : ∀ k, k < 5 → parseFieldDescriptor (TX1 k).2.2.1 = some (tyX1 k) := by decide +kernel
abbrev cX1_init : ByteArray := prog_3_method_1_code
def yX1_init : MethodName := ⟨RX1, "<init>", "(I)V"⟩
abbrev cX1_join : ByteArray := prog_3_method_2_code
def yX1_join : MethodName := ⟨RX1, "join", "(II)V"⟩
abbrev cX1_hasWay : ByteArray := prog_3_method_3_code
def yX1_hasWay : MethodName := ⟨RX1, "hasWay", "()Z"⟩
abbrev cX1_detourOfWay : ByteArray := prog_3_method_4_code
def yX1_detourOfWay : MethodName := ⟨RX1, "detourOfWay", "()I"⟩
def RX2 : String := "LineBundles$Net"
def TX2 : u_T := fun k => match k with
  | 0 => ("LineBundles$Net", "shutAt", "[Z", true)
  | 1 => ("LineBundles$Net", "pointAt", "[I", true)
  | 2 => ("LineBundles$Net", "linesBy", "[I", true)
  | 3 => ("LineBundles$Net", "goneTo", "[Z", true)
  | 4 => ("LineBundles$Net", "prices", "[I", true)
  | 5 => ("LineBundles$Net", "base", "I", false)
  | _ => ("LineBundles$Net", "save", "I", false)
def tyX2 : Nat → FieldType := fun k => match k with
  | 0 => .array .boolean
  | 1 => .array .int
  | 2 => .array .int
  | 3 => .array .boolean
  | 4 => .array .int
  | 5 => .int
  | _ => .int
abbrev wsX20 : List Cond := u_ws RX2 TX2 7
theorem nmX2 : ∀ a, a < 7 → ∀ b, b < 7 → a ≠ b → (TX2 a).2.1 ≠ (TX2 b).2.1 := by decide +kernel
theorem tyX2_ok : ∀ k, k < 7 → parseFieldDescriptor (TX2 k).2.2.1 = some (tyX2 k) := by decide +kernel
abbrev cX2_init : ByteArray := prog_4_method_1_code
def yX2_init : MethodName := ⟨RX2, "<init>", "()V"⟩
abbrev cX2_putRules : ByteArray := prog_4_method_2_code
def yX2_putRules : MethodName := ⟨RX2, "putRules", "(II)V"⟩
abbrev cX2_linesFrom : ByteArray := prog_4_method_3_code
def yX2_linesFrom : MethodName := ⟨RX2, "linesFrom", "(II)I"⟩
abbrev cX2_widthFrom : ByteArray := prog_4_method_4_code
def yX2_widthFrom : MethodName := ⟨RX2, "widthFrom", "(II)I"⟩
abbrev cX2_shutPlaces : ByteArray := prog_4_method_5_code
def yX2_shutPlaces : MethodName := ⟨RX2, "shutPlaces", "()I"⟩
abbrev cX2_isGoneThrough : ByteArray := prog_4_method_6_code
def yX2_isGoneThrough : MethodName := ⟨RX2, "isGoneThrough", "(I)Z"⟩
abbrev cX2_isWay : ByteArray := prog_4_method_7_code
def yX2_isWay : MethodName := ⟨RX2, "isWay", "(LLineBundles$Line;[III)Z"⟩
abbrev cX2_giveWay : ByteArray := prog_4_method_8_code
def yX2_giveWay : MethodName := ⟨RX2, "giveWay", "(LLineBundles$Line;[III)V"⟩
abbrev cX2_lift : ByteArray := prog_4_method_9_code
def yX2_lift : MethodName := ⟨RX2, "lift", "(LLineBundles$Line;)V"⟩
abbrev cX2_flipAlong : ByteArray := prog_4_method_10_code
def yX2_flipAlong : MethodName := ⟨RX2, "flipAlong", "(LLineBundles$Line;)V"⟩
abbrev cX2_costAmongOthers : ByteArray := prog_4_method_11_code
def yX2_costAmongOthers : MethodName := ⟨RX2, "costAmongOthers", "(LLineBundles$Line;)I"⟩
abbrev cX2_sidesWithAll : ByteArray := prog_4_method_12_code
def yX2_sidesWithAll : MethodName := ⟨RX2, "sidesWithAll", "(I)I"⟩
abbrev cX2_sidesWithOthers : ByteArray := prog_4_method_13_code
def yX2_sidesWithOthers : MethodName := ⟨RX2, "sidesWithOthers", "(LLineBundles$Line;)I"⟩
abbrev cX2_kindOf : ByteArray := prog_4_method_14_code
def yX2_kindOf : MethodName := ⟨RX2, "kindOf", "(LLineBundles$Line;)I"⟩
abbrev cX2_costOfAll : ByteArray := prog_4_method_15_code
def yX2_costOfAll : MethodName := ⟨RX2, "costOfAll", "()I"⟩
abbrev cX2_usedSides : ByteArray := prog_4_method_16_code
def yX2_usedSides : MethodName := ⟨RX2, "usedSides", "()I"⟩
abbrev cX2_greatestWidth : ByteArray := prog_4_method_17_code
def yX2_greatestWidth : MethodName := ⟨RX2, "greatestWidth", "()I"⟩
abbrev cX2_forks : ByteArray := prog_4_method_18_code
def yX2_forks : MethodName := ⟨RX2, "forks", "()I"⟩
abbrev cX2_isFork : ByteArray := prog_4_method_19_code
def yX2_isFork : MethodName := ⟨RX2, "isFork", "(I)Z"⟩
abbrev cX2_crossings : ByteArray := prog_4_method_20_code
def yX2_crossings : MethodName := ⟨RX2, "crossings", "()I"⟩
abbrev cX2_onward : ByteArray := prog_4_method_21_code
def yX2_onward : MethodName := ⟨RX2, "onward", "(II)I"⟩
def RX3 : String := "LineBundles$Sheet"
def TX3 : u_T := fun k => match k with
  | 0 => ("LineBundles$Sheet", "items", "[I", true)
  | 1 => ("LineBundles$Sheet", "lane", "I", false)
  | _ => ("LineBundles$Sheet", "size", "I", false)
def tyX3 : Nat → FieldType := fun k => match k with
  | 0 => .array .int
  | 1 => .int
  | _ => .int
abbrev wsX30 : List Cond := u_ws RX3 TX3 3
theorem nmX3 : ∀ a, a < 3 → ∀ b, b < 3 → a ≠ b → (TX3 a).2.1 ≠ (TX3 b).2.1 := by decide +kernel
theorem tyX3_ok : ∀ k, k < 3 → parseFieldDescriptor (TX3 k).2.2.1 = some (tyX3 k) := by decide +kernel
abbrev cX3_init : ByteArray := prog_5_method_1_code
def yX3_init : MethodName := ⟨RX3, "<init>", "()V"⟩
abbrev cX3_isMissing : ByteArray := prog_5_method_2_code
def yX3_isMissing : MethodName := ⟨RX3, "isMissing", "()Z"⟩
abbrev cX3_begin : ByteArray := prog_5_method_3_code
def yX3_begin : MethodName := ⟨RX3, "begin", "(II)V"⟩
abbrev cX3_end : ByteArray := prog_5_method_4_code
def yX3_end : MethodName := ⟨RX3, "end", "()V"⟩
abbrev cX3_holds : ByteArray := prog_5_method_5_code
def yX3_holds : MethodName := ⟨RX3, "holds", "(II)Z"⟩
abbrev cX3_put : ByteArray := prog_5_method_6_code
def yX3_put : MethodName := ⟨RX3, "put", "(II)I"⟩
def RX4 : String := "LineBundles$Tinter"
def TX4 : u_T := fun k => match k with
  | 0 => ("LineBundles$Tinter", "clashes", "[I", true)
  | 1 => ("LineBundles$Tinter", "tints", "[I", true)
  | 2 => ("LineBundles$Tinter", "members", "[I", true)
  | _ => ("LineBundles$Tinter", "tintCount", "I", false)
def tyX4 : Nat → FieldType := fun k => match k with
  | 0 => .array .int
  | 1 => .array .int
  | 2 => .array .int
  | _ => .int
abbrev wsX40 : List Cond := u_ws RX4 TX4 4
theorem nmX4 : ∀ a, a < 4 → ∀ b, b < 4 → a ≠ b → (TX4 a).2.1 ≠ (TX4 b).2.1 := by decide +kernel
theorem tyX4_ok : ∀ k, k < 4 → parseFieldDescriptor (TX4 k).2.2.1 = some (tyX4 k) := by decide +kernel
abbrev cX4_init : ByteArray := prog_6_method_1_code
def yX4_init : MethodName := ⟨RX4, "<init>", "()V"⟩
abbrev cX4_tintAll : ByteArray := prog_6_method_2_code
def yX4_tintAll : MethodName := ⟨RX4, "tintAll", "(LLineBundles$Net;I)V"⟩
abbrev cX4_gatherClashes : ByteArray := prog_6_method_3_code
def yX4_gatherClashes : MethodName := ⟨RX4, "gatherClashes", "(LLineBundles$Net;)V"⟩
abbrev cX4_tintFrom : ByteArray := prog_6_method_4_code
def yX4_tintFrom : MethodName := ⟨RX4, "tintFrom", "(LLineBundles$Tinter;III)Z"⟩
def RX5 : String := "LineBundles"
def TX5 : u_T := fun k => match k with
  | 0 => ("LineBundles", "sheets", "[LLineBundles$Sheet;", true)
  | 1 => ("LineBundles", "pointPlaces", "[I", true)
  | 2 => ("LineBundles", "lines", "[LLineBundles$Line;", true)
  | 3 => ("LineBundles", "net", "LLineBundles$Net;", true)
  | 4 => ("LineBundles", "finder", "LLineBundles$Finder;", true)
  | 5 => ("LineBundles", "tinter", "LLineBundles$Tinter;", true)
  | 6 => ("LineBundles", "traced", "[I", true)
  | 7 => ("LineBundles", "pointCount", "I", false)
  | 8 => ("LineBundles", "lineCount", "I", false)
  | 9 => ("LineBundles", "traceCount", "I", false)
  | _ => ("LineBundles", "latestFinding", "I", false)
def tyX5 : Nat → FieldType := fun k => match k with
  | 0 => .array (.object "LineBundles$Sheet")
  | 1 => .array .int
  | 2 => .array (.object "LineBundles$Line")
  | 3 => .object "LineBundles$Net"
  | 4 => .object "LineBundles$Finder"
  | 5 => .object "LineBundles$Tinter"
  | 6 => .array .int
  | 7 => .int
  | 8 => .int
  | 9 => .int
  | _ => .int
abbrev wsX50 : List Cond := u_ws RX5 TX5 11
theorem nmX5 : ∀ a, a < 11 → ∀ b, b < 11 → a ≠ b → (TX5 a).2.1 ≠ (TX5 b).2.1 := by decide +kernel
theorem tyX5_ok : ∀ k, k < 11 → parseFieldDescriptor (TX5 k).2.2.1 = some (tyX5 k) := by decide +kernel
abbrev cX5_init : ByteArray := prog_1_method_1_code
def yX5_init : MethodName := ⟨RX5, "<init>", "()V"⟩
abbrev cX5_sheet : ByteArray := prog_1_method_2_code
def yX5_sheet : MethodName := ⟨RX5, "sheet", "(III)I"⟩
abbrev cX5_set : ByteArray := prog_1_method_3_code
def yX5_set : MethodName := ⟨RX5, "set", "(III)I"⟩
abbrev cX5_copy : ByteArray := prog_1_method_4_code
def yX5_copy : MethodName := ⟨RX5, "copy", "(IIIII)I"⟩
abbrev cX5_drop : ByteArray := prog_1_method_5_code
def yX5_drop : MethodName := ⟨RX5, "drop", "(I)I"⟩
abbrev cX5_point : ByteArray := prog_1_method_6_code
def yX5_point : MethodName := ⟨RX5, "point", "(II)I"⟩
abbrev cX5_shut : ByteArray := prog_1_method_7_code
def yX5_shut : MethodName := ⟨RX5, "shut", "(II)I"⟩
abbrev cX5_open : ByteArray := prog_1_method_8_code
def yX5_open : MethodName := ⟨RX5, "open", "(II)I"⟩
abbrev cX5_line : ByteArray := prog_1_method_9_code
def yX5_line : MethodName := ⟨RX5, "line", "(II)I"⟩
abbrev cX5_rule : ByteArray := prog_1_method_10_code
def yX5_rule : MethodName := ⟨RX5, "rule", "(II)I"⟩
abbrev cX5_lead : ByteArray := prog_1_method_11_code
def yX5_lead : MethodName := ⟨RX5, "lead", "(I)I"⟩
abbrev cX5_lay : ByteArray := prog_1_method_12_code
def yX5_lay : MethodName := ⟨RX5, "lay", "(IIII)I"⟩
abbrev cX5_take : ByteArray := prog_1_method_13_code
def yX5_take : MethodName := ⟨RX5, "take", "(I)I"⟩
abbrev cX5_pass : ByteArray := prog_1_method_14_code
def yX5_pass : MethodName := ⟨RX5, "pass", "()I"⟩
abbrev cX5_rest : ByteArray := prog_1_method_15_code
def yX5_rest : MethodName := ⟨RX5, "rest", "()I"⟩
abbrev cX5_way : ByteArray := prog_1_method_16_code
def yX5_way : MethodName := ⟨RX5, "way", "(II)I"⟩
abbrev cX5_width : ByteArray := prog_1_method_17_code
def yX5_width : MethodName := ⟨RX5, "width", "(III)I"⟩
abbrev cX5_all : ByteArray := prog_1_method_18_code
def yX5_all : MethodName := ⟨RX5, "all", "(I)I"⟩
abbrev cX5_detour : ByteArray := prog_1_method_19_code
def yX5_detour : MethodName := ⟨RX5, "detour", "(I)I"⟩
abbrev cX5_shared : ByteArray := prog_1_method_20_code
def yX5_shared : MethodName := ⟨RX5, "shared", "(II)I"⟩
abbrev cX5_tint : ByteArray := prog_1_method_21_code
def yX5_tint : MethodName := ⟨RX5, "tint", "(I)I"⟩
abbrev cX5_reads : ByteArray := prog_1_method_22_code
def yX5_reads : MethodName := ⟨RX5, "reads", "(II)I"⟩
abbrev cX5_kind : ByteArray := prog_1_method_23_code
def yX5_kind : MethodName := ⟨RX5, "kind", "(I)I"⟩
abbrev cX5_as : ByteArray := prog_1_method_24_code
def yX5_as : MethodName := ⟨RX5, "as", "(II)I"⟩
abbrev cX5_ask : ByteArray := prog_1_method_25_code
def yX5_ask : MethodName := ⟨RX5, "ask", "(II)I"⟩
abbrev cX5_trace : ByteArray := prog_1_method_26_code
def yX5_trace : MethodName := ⟨RX5, "trace", "(I)I"⟩
abbrev cX5_count : ByteArray := prog_1_method_27_code
def yX5_count : MethodName := ⟨RX5, "count", "(I)I"⟩
abbrev cX5_status : ByteArray := prog_1_method_28_code
def yX5_status : MethodName := ⟨RX5, "status", "()I"⟩
abbrev cX5_found : ByteArray := prog_1_method_29_code
def yX5_found : MethodName := ⟨RX5, "found", "(I)I"⟩
abbrev cX5_unfound : ByteArray := prog_1_method_30_code
def yX5_unfound : MethodName := ⟨RX5, "unfound", "(I)I"⟩
abbrev cX5_isSheet : ByteArray := prog_1_method_31_code
def yX5_isSheet : MethodName := ⟨RX5, "isSheet", "(I)Z"⟩
abbrev cX5_isPlace : ByteArray := prog_1_method_32_code
def yX5_isPlace : MethodName := ⟨RX5, "isPlace", "(II)Z"⟩
abbrev cX5_isDirection : ByteArray := prog_1_method_33_code
def yX5_isDirection : MethodName := ⟨RX5, "isDirection", "(I)Z"⟩
abbrev cX5_isPoint : ByteArray := prog_1_method_34_code
def yX5_isPoint : MethodName := ⟨RX5, "isPoint", "(I)Z"⟩
abbrev cX5_isLine : ByteArray := prog_1_method_35_code
def yX5_isLine : MethodName := ⟨RX5, "isLine", "(I)Z"⟩
abbrev cX5_placeAt : ByteArray := prog_1_method_36_code
def yX5_placeAt : MethodName := ⟨RX5, "placeAt", "(II)I"⟩
abbrev cX5_beside : ByteArray := prog_1_method_37_code
def yX5_beside : MethodName := ⟨RX5, "beside", "(II)I"⟩
abbrev cX5_sideBetween : ByteArray := prog_1_method_38_code
def yX5_sideBetween : MethodName := ⟨RX5, "sideBetween", "(III)I"⟩
abbrev cX5_turn : ByteArray := prog_1_method_39_code
def yX5_turn : MethodName := ⟨RX5, "turn", "(IZ)I"⟩
abbrev cX5_goThroughLines : ByteArray := prog_1_method_40_code
def yX5_goThroughLines : MethodName := ⟨RX5, "goThroughLines", "()I"⟩
abbrev cX5_leadIfBetter : ByteArray := prog_1_method_41_code
def yX5_leadIfBetter : MethodName := ⟨RX5, "leadIfBetter", "(LLineBundles$Line;)Z"⟩
abbrev cX5_sidesOfWays : ByteArray := prog_1_method_42_code
def yX5_sidesOfWays : MethodName := ⟨RX5, "sidesOfWays", "()I"⟩
abbrev cX5_waysMask : ByteArray := prog_1_method_43_code
def yX5_waysMask : MethodName := ⟨RX5, "waysMask", "()I"⟩
abbrev cX5_isEndOfWay : ByteArray := prog_1_method_44_code
def yX5_isEndOfWay : MethodName := ⟨RX5, "isEndOfWay", "(I)Z"⟩
abbrev cX5_sheetsThere : ByteArray := prog_1_method_45_code
def yX5_sheetsThere : MethodName := ⟨RX5, "sheetsThere", "()I"⟩
abbrev cX5_linesOfKind : ByteArray := prog_1_method_46_code
def yX5_linesOfKind : MethodName := ⟨RX5, "linesOfKind", "(I)I"⟩
abbrev cX5_leave : ByteArray := prog_1_method_47_code
def yX5_leave : MethodName := ⟨RX5, "leave", "(I)V"⟩
abbrev cX5_sizeAsked : ByteArray := prog_1_method_48_code
def yX5_sizeAsked : MethodName := ⟨RX5, "sizeAsked", "(LLineBundles$Line;)I"⟩
abbrev cX5_markAsked : ByteArray := prog_1_method_49_code
def yX5_markAsked : MethodName := ⟨RX5, "markAsked", "(LLineBundles$Line;)I"⟩
abbrev cX5_sizeLent : ByteArray := prog_1_method_50_code
def yX5_sizeLent : MethodName := ⟨RX5, "sizeLent", "(LLineBundles$Line;)I"⟩
abbrev cX5_sizeOfAlone : ByteArray := prog_1_method_51_code
def yX5_sizeOfAlone : MethodName := ⟨RX5, "sizeOfAlone", "(LLineBundles$Line;)I"⟩
abbrev cX5_sizeOfBound : ByteArray := prog_1_method_52_code
def yX5_sizeOfBound : MethodName := ⟨RX5, "sizeOfBound", "(LLineBundles$Line;)I"⟩
abbrev cX5_sizeOfForked : ByteArray := prog_1_method_53_code
def yX5_sizeOfForked : MethodName := ⟨RX5, "sizeOfForked", "(LLineBundles$Line;)I"⟩
abbrev cX5_markLent : ByteArray := prog_1_method_54_code
def yX5_markLent : MethodName := ⟨RX5, "markLent", "(LLineBundles$Line;)I"⟩
abbrev cX5_markOfBound : ByteArray := prog_1_method_55_code
def yX5_markOfBound : MethodName := ⟨RX5, "markOfBound", "(LLineBundles$Line;)I"⟩
abbrev cX5_markOfForked : ByteArray := prog_1_method_56_code
def yX5_markOfForked : MethodName := ⟨RX5, "markOfForked", "(LLineBundles$Line;)I"⟩
def RX6 : String := "LineBundlesModel"
def TX6 : u_T := fun k => match k with
  | 0 => ("LineBundlesModel", "thrown", "I", false)
  | 1 => ("LineBundlesModel", "status", "I", false)
  | 2 => ("LineBundlesModel", "lane", "[I", true)
  | 3 => ("LineBundlesModel", "many", "[I", true)
  | 4 => ("LineBundlesModel", "item", "[I", true)
  | 5 => ("LineBundlesModel", "isShut", "[Z", true)
  | 6 => ("LineBundlesModel", "points", "I", false)
  | 7 => ("LineBundlesModel", "pointAt", "[I", true)
  | 8 => ("LineBundlesModel", "lines", "I", false)
  | 9 => ("LineBundlesModel", "from", "[I", true)
  | 10 => ("LineBundlesModel", "to", "[I", true)
  | 11 => ("LineBundlesModel", "sides", "[I", true)
  | 12 => ("LineBundlesModel", "way", "[I", true)
  | 13 => ("LineBundlesModel", "uses", "[Z", true)
  | 14 => ("LineBundlesModel", "rule", "[I", true)
  | 15 => ("LineBundlesModel", "cost", "[I", true)
  | 16 => ("LineBundlesModel", "far", "[I", true)
  | 17 => ("LineBundlesModel", "price", "[I", true)
  | 18 => ("LineBundlesModel", "kept", "[I", true)
  | 19 => ("LineBundlesModel", "tint", "[I", true)
  | 20 => ("LineBundlesModel", "trace", "[I", true)
  | _ => ("LineBundlesModel", "traced", "I", false)
def tyX6 : Nat → FieldType := fun k => match k with
  | 0 => .int
  | 1 => .int
  | 2 => .array .int
  | 3 => .array .int
  | 4 => .array .int
  | 5 => .array .boolean
  | 6 => .int
  | 7 => .array .int
  | 8 => .int
  | 9 => .array .int
  | 10 => .array .int
  | 11 => .array .int
  | 12 => .array .int
  | 13 => .array .boolean
  | 14 => .array .int
  | 15 => .array .int
  | 16 => .array .int
  | 17 => .array .int
  | 18 => .array .int
  | 19 => .array .int
  | 20 => .array .int
  | _ => .int
abbrev wsX60 : List Cond := u_ws RX6 TX6 22
theorem nmX6 : ∀ a, a < 22 → ∀ b, b < 22 → a ≠ b → (TX6 a).2.1 ≠ (TX6 b).2.1 := by decide +kernel
theorem tyX6_ok : ∀ k, k < 22 → parseFieldDescriptor (TX6 k).2.2.1 = some (tyX6 k) := by decide +kernel
abbrev cX6_init : ByteArray := prog_8_method_1_code
def yX6_init : MethodName := ⟨RX6, "<init>", "()V"⟩
abbrev cX6_in : ByteArray := prog_8_method_3_code
def yX6_in : MethodName := ⟨RX6, "in", "(JJJ)Z"⟩
abbrev cX6_found : ByteArray := prog_8_method_4_code
def yX6_found : MethodName := ⟨RX6, "found", "(I)I"⟩
abbrev cX6_isSheet : ByteArray := prog_8_method_5_code
def yX6_isSheet : MethodName := ⟨RX6, "isSheet", "(I)Z"⟩
abbrev cX6_sheet : ByteArray := prog_8_method_6_code
def yX6_sheet : MethodName := ⟨RX6, "sheet", "(III)I"⟩
abbrev cX6_set : ByteArray := prog_8_method_7_code
def yX6_set : MethodName := ⟨RX6, "set", "(III)I"⟩
abbrev cX6_copy : ByteArray := prog_8_method_8_code
def yX6_copy : MethodName := ⟨RX6, "copy", "(IIIII)I"⟩
abbrev cX6_drop : ByteArray := prog_8_method_9_code
def yX6_drop : MethodName := ⟨RX6, "drop", "(I)I"⟩
abbrev cX6_isOn : ByteArray := prog_8_method_10_code
def yX6_isOn : MethodName := ⟨RX6, "isOn", "(II)Z"⟩
abbrev cX6_go : ByteArray := prog_8_method_11_code
def yX6_go : MethodName := ⟨RX6, "go", "(II)I"⟩
abbrev cX6_side : ByteArray := prog_8_method_12_code
def yX6_side : MethodName := ⟨RX6, "side", "(II)I"⟩
abbrev cX6_pointOn : ByteArray := prog_8_method_13_code
def yX6_pointOn : MethodName := ⟨RX6, "pointOn", "(I)I"⟩
abbrev cX6_point : ByteArray := prog_8_method_14_code
def yX6_point : MethodName := ⟨RX6, "point", "(II)I"⟩
abbrev cX6_widthOf : ByteArray := prog_8_method_15_code
def yX6_widthOf : MethodName := ⟨RX6, "widthOf", "(I)I"⟩
abbrev cX6_isOfWay : ByteArray := prog_8_method_16_code
def yX6_isOfWay : MethodName := ⟨RX6, "isOfWay", "(I)Z"⟩
abbrev cX6_shut : ByteArray := prog_8_method_17_code
def yX6_shut : MethodName := ⟨RX6, "shut", "(II)I"⟩
abbrev cX6_open : ByteArray := prog_8_method_18_code
def yX6_open : MethodName := ⟨RX6, "open", "(II)I"⟩
abbrev cX6_isPoint : ByteArray := prog_8_method_19_code
def yX6_isPoint : MethodName := ⟨RX6, "isPoint", "(I)Z"⟩
abbrev cX6_isLine : ByteArray := prog_8_method_20_code
def yX6_isLine : MethodName := ⟨RX6, "isLine", "(I)Z"⟩
abbrev cX6_line : ByteArray := prog_8_method_21_code
def yX6_line : MethodName := ⟨RX6, "line", "(II)I"⟩
abbrev cX6_rule : ByteArray := prog_8_method_22_code
def yX6_rule : MethodName := ⟨RX6, "rule", "(II)I"⟩
abbrev cX6_costOf : ByteArray := prog_8_method_23_code
def yX6_costOf : MethodName := ⟨RX6, "costOf", "(I)I"⟩
abbrev cX6_wipe : ByteArray := prog_8_method_24_code
def yX6_wipe : MethodName := ⟨RX6, "wipe", "(I)V"⟩
abbrev cX6_ownCost : ByteArray := prog_8_method_25_code
def yX6_ownCost : MethodName := ⟨RX6, "ownCost", "(I)I"⟩
abbrev cX6_find : ByteArray := prog_8_method_26_code
def yX6_find : MethodName := ⟨RX6, "find", "(I)Z"⟩
abbrev cX6_follow : ByteArray := prog_8_method_27_code
def yX6_follow : MethodName := ⟨RX6, "follow", "(I)V"⟩
abbrev cX6_lead : ByteArray := prog_8_method_28_code
def yX6_lead : MethodName := ⟨RX6, "lead", "(I)I"⟩
abbrev cX6_lay : ByteArray := prog_8_method_29_code
def yX6_lay : MethodName := ⟨RX6, "lay", "(IIII)I"⟩
abbrev cX6_take : ByteArray := prog_8_method_30_code
def yX6_take : MethodName := ⟨RX6, "take", "(I)I"⟩
abbrev cX6_passed : ByteArray := prog_8_method_31_code
def yX6_passed : MethodName := ⟨RX6, "passed", "()I"⟩
abbrev cX6_pass : ByteArray := prog_8_method_32_code
def yX6_pass : MethodName := ⟨RX6, "pass", "()I"⟩
abbrev cX6_rest : ByteArray := prog_8_method_33_code
def yX6_rest : MethodName := ⟨RX6, "rest", "()I"⟩
abbrev cX6_way : ByteArray := prog_8_method_34_code
def yX6_way : MethodName := ⟨RX6, "way", "(II)I"⟩
abbrev cX6_width : ByteArray := prog_8_method_35_code
def yX6_width : MethodName := ⟨RX6, "width", "(III)I"⟩
abbrev cX6_at : ByteArray := prog_8_method_36_code
def yX6_at : MethodName := ⟨RX6, "at", "(II)I"⟩
abbrev cX6_all : ByteArray := prog_8_method_37_code
def yX6_all : MethodName := ⟨RX6, "all", "(I)I"⟩
abbrev cX6_size : ByteArray := prog_8_method_38_code
def yX6_size : MethodName := ⟨RX6, "size", "(I)I"⟩
abbrev cX6_detourOf : ByteArray := prog_8_method_39_code
def yX6_detourOf : MethodName := ⟨RX6, "detourOf", "(I)I"⟩
abbrev cX6_detour : ByteArray := prog_8_method_40_code
def yX6_detour : MethodName := ⟨RX6, "detour", "(I)I"⟩
abbrev cX6_sharedBy : ByteArray := prog_8_method_41_code
def yX6_sharedBy : MethodName := ⟨RX6, "sharedBy", "(II)I"⟩
abbrev cX6_shared : ByteArray := prog_8_method_42_code
def yX6_shared : MethodName := ⟨RX6, "shared", "(II)I"⟩
abbrev cX6_fits : ByteArray := prog_8_method_43_code
def yX6_fits : MethodName := ⟨RX6, "fits", "(I)Z"⟩
abbrev cX6_tints : ByteArray := prog_8_method_44_code
def yX6_tints : MethodName := ⟨RX6, "tints", "(I)Z"⟩
abbrev cX6_ways : ByteArray := prog_8_method_45_code
def yX6_ways : MethodName := ⟨RX6, "ways", "()I"⟩
abbrev cX6_tint : ByteArray := prog_8_method_46_code
def yX6_tint : MethodName := ⟨RX6, "tint", "(I)I"⟩
abbrev cX6_isEnd : ByteArray := prog_8_method_47_code
def yX6_isEnd : MethodName := ⟨RX6, "isEnd", "(I)Z"⟩
abbrev cX6_isWide : ByteArray := prog_8_method_48_code
def yX6_isWide : MethodName := ⟨RX6, "isWide", "(II)Z"⟩
abbrev cX6_reads : ByteArray := prog_8_method_49_code
def yX6_reads : MethodName := ⟨RX6, "reads", "(II)I"⟩
abbrev cX6_sharing : ByteArray := prog_8_method_50_code
def yX6_sharing : MethodName := ⟨RX6, "sharing", "(I)I"⟩
abbrev cX6_kindOf : ByteArray := prog_8_method_51_code
def yX6_kindOf : MethodName := ⟨RX6, "kindOf", "(I)I"⟩
abbrev cX6_kind : ByteArray := prog_8_method_52_code
def yX6_kind : MethodName := ⟨RX6, "kind", "(I)I"⟩
abbrev cX6_as : ByteArray := prog_8_method_53_code
def yX6_as : MethodName := ⟨RX6, "as", "(II)I"⟩
abbrev cX6_began : ByteArray := prog_8_method_54_code
def yX6_began : MethodName := ⟨RX6, "began", "(I)V"⟩
abbrev cX6_sized : ByteArray := prog_8_method_55_code
def yX6_sized : MethodName := ⟨RX6, "sized", "(I)I"⟩
abbrev cX6_marked : ByteArray := prog_8_method_56_code
def yX6_marked : MethodName := ⟨RX6, "marked", "(I)I"⟩
abbrev cX6_ask : ByteArray := prog_8_method_57_code
def yX6_ask : MethodName := ⟨RX6, "ask", "(II)I"⟩
abbrev cX6_trace : ByteArray := prog_8_method_58_code
def yX6_trace : MethodName := ⟨RX6, "trace", "(I)I"⟩
abbrev cX6_count : ByteArray := prog_8_method_59_code
def yX6_count : MethodName := ⟨RX6, "count", "(I)I"⟩
abbrev cX6_status : ByteArray := prog_8_method_60_code
def yX6_status : MethodName := ⟨RX6, "status", "()I"⟩
def RJ6 : String := "java/lang/Integer"
def TJ6 : u_T := fun k => match k with
  | _ => ("", "", "", false)
def tyJ6 : Nat → FieldType := fun k => match k with
  | _ => .int
abbrev wsJ60 : List Cond := u_ws RJ6 TJ6 0
theorem nmJ6 : ∀ a, a < 0 → ∀ b, b < 0 → a ≠ b → (TJ6 a).2.1 ≠ (TJ6 b).2.1 := by decide +kernel
theorem tyJ6_ok : ∀ k, k < 0 → parseFieldDescriptor (TJ6 k).2.2.1 = some (tyJ6 k) := by decide +kernel
abbrev cJ6_bitCount_0f7a4 : ByteArray := prog_9_method_49_code
def yJ6_bitCount_0f7a4 : MethodName := ⟨RJ6, "bitCount", "(I)I"⟩
def RJ9 : String := "java/lang/Math"
def TJ9 : u_T := fun k => match k with
  | _ => ("", "", "", false)
def tyJ9 : Nat → FieldType := fun k => match k with
  | _ => .int
abbrev wsJ90 : List Cond := u_ws RJ9 TJ9 0
theorem nmJ9 : ∀ a, a < 0 → ∀ b, b < 0 → a ≠ b → (TJ9 a).2.1 ≠ (TJ9 b).2.1 := by decide +kernel
theorem tyJ9_ok : ∀ k, k < 0 → parseFieldDescriptor (TJ9 k).2.2.1 = some (tyJ9 k) := by decide +kernel
abbrev cJ9_abs_0f7a4 : ByteArray := prog_10_method_59_code
def yJ9_abs_0f7a4 : MethodName := ⟨RJ9, "abs", "(I)I"⟩
abbrev cJ9_max_7cf53 : ByteArray := prog_10_method_65_code
def yJ9_max_7cf53 : MethodName := ⟨RJ9, "max", "(II)I"⟩
abbrev cJ9_min_7cf53 : ByteArray := prog_10_method_69_code
def yJ9_min_7cf53 : MethodName := ⟨RJ9, "min", "(II)I"⟩
def RJ10 : String := "java/lang/System"
def TJ10 : u_T := fun k => match k with
  | _ => ("", "", "", false)
def tyJ10 : Nat → FieldType := fun k => match k with
  | _ => .int
abbrev wsJ100 : List Cond := u_ws RJ10 TJ10 0
theorem nmJ10 : ∀ a, a < 0 → ∀ b, b < 0 → a ≠ b → (TJ10 a).2.1 ≠ (TJ10 b).2.1 := by decide +kernel
theorem tyJ10_ok : ∀ k, k < 0 → parseFieldDescriptor (TJ10 k).2.2.1 = some (tyJ10 k) := by decide +kernel
def RL : String := "LineBundlesLaw"
abbrev cL_law : ByteArray := code
def yL_law : MethodName := ⟨RL, "law", "([I)Z"⟩
abbrev vwCl : List vw_C := [(RX0, TX0, 6), (RX1, TX1, 5), (RX2, TX2, 7), (RX3, TX3, 3), (RX4, TX4, 4), (RX5, TX5, 11), (RX6, TX6, 22)]
end
section
theorem dX0_init_0 : decode cX0_init 0 = .ok (.aload_n 0, 1) := by decide +kernel
theorem dX0_init_1 : decode cX0_init 1 = .ok (.invokespecial 3, 3) := by decide +kernel
theorem dX0_init_4 : decode cX0_init 4 = .ok (.aload_n 0, 1) := by decide +kernel
theorem dX0_init_5 : decode cX0_init 5 = .ok (.bipush 100, 2) := by decide +kernel
theorem dX0_init_7 : decode cX0_init 7 = .ok (.newarray .int, 2) := by decide +kernel
theorem dX0_init_9 : decode cX0_init 9 = .ok (.putfield 9, 3) := by decide +kernel
theorem dX0_init_12 : decode cX0_init 12 = .ok (.aload_n 0, 1) := by decide +kernel
theorem dX0_init_13 : decode cX0_init 13 = .ok (.sipush 400, 3) := by decide +kernel
theorem dX0_init_16 : decode cX0_init 16 = .ok (.newarray .int, 2) := by decide +kernel
theorem dX0_init_18 : decode cX0_init 18 = .ok (.putfield 15, 3) := by decide +kernel
theorem dX0_init_21 : decode cX0_init 21 = .ok (.aload_n 0, 1) := by decide +kernel
theorem dX0_init_22 : decode cX0_init 22 = .ok (.bipush 100, 2) := by decide +kernel
theorem dX0_init_24 : decode cX0_init 24 = .ok (.newarray .int, 2) := by decide +kernel
theorem dX0_init_26 : decode cX0_init 26 = .ok (.putfield 18, 3) := by decide +kernel
theorem dX0_init_29 : decode cX0_init 29 = .ok (.return_, 1) := by decide +kernel
theorem dX0_findWay_0 : decode cX0_findWay 0 = .ok (.aload_n 0, 1) := by decide +kernel
theorem dX0_findWay_1 : decode cX0_findWay 1 = .ok (.aload_n 1, 1) := by decide +kernel
theorem dX0_findWay_2 : decode cX0_findWay 2 = .ok (.aload_n 2, 1) := by decide +kernel
theorem dX0_findWay_3 : decode cX0_findWay 3 = .ok (.invokevirtual 21, 3) := by decide +kernel
theorem dX0_findWay_6 : decode cX0_findWay 6 = .ok (.aload_n 0, 1) := by decide +kernel
theorem dX0_findWay_7 : decode cX0_findWay 7 = .ok (.iconst 0, 1) := by decide +kernel
theorem dX0_findWay_8 : decode cX0_findWay 8 = .ok (.putfield 25, 3) := by decide +kernel
theorem dX0_findWay_11 : decode cX0_findWay 11 = .ok (.aload_n 0, 1) := by decide +kernel
theorem dX0_findWay_12 : decode cX0_findWay 12 = .ok (.getfield 9, 3) := by decide +kernel
theorem dX0_findWay_15 : decode cX0_findWay 15 = .ok (.aload_n 2, 1) := by decide +kernel
theorem dX0_findWay_16 : decode cX0_findWay 16 = .ok (.getfield 29, 3) := by decide +kernel
theorem dX0_findWay_19 : decode cX0_findWay 19 = .ok (.iaload, 1) := by decide +kernel
theorem dX0_findWay_20 : decode cX0_findWay 20 = .ok (.ldc 34, 2) := by decide +kernel
theorem dX0_findWay_22 : decode cX0_findWay 22 = .ok (.if_icmp .lt 5, 3) := by decide +kernel
theorem dX0_findWay_25 : decode cX0_findWay 25 = .ok (.iconst 0, 1) := by decide +kernel
theorem dX0_findWay_26 : decode cX0_findWay 26 = .ok (.ireturn, 1) := by decide +kernel
theorem dX0_findWay_27 : decode cX0_findWay 27 = .ok (.aload_n 0, 1) := by decide +kernel
theorem dX0_findWay_28 : decode cX0_findWay 28 = .ok (.aload_n 0, 1) := by decide +kernel
theorem dX0_findWay_29 : decode cX0_findWay 29 = .ok (.getfield 9, 3) := by decide +kernel
theorem dX0_findWay_32 : decode cX0_findWay 32 = .ok (.aload_n 2, 1) := by decide +kernel
theorem dX0_findWay_33 : decode cX0_findWay 33 = .ok (.getfield 29, 3) := by decide +kernel
theorem dX0_findWay_36 : decode cX0_findWay 36 = .ok (.iaload, 1) := by decide +kernel
theorem dX0_findWay_37 : decode cX0_findWay 37 = .ok (.sipush 128, 3) := by decide +kernel
theorem dX0_findWay_40 : decode cX0_findWay 40 = .ok (.idiv, 1) := by decide +kernel
theorem dX0_findWay_41 : decode cX0_findWay 41 = .ok (.putfield 35, 3) := by decide +kernel
theorem dX0_findWay_44 : decode cX0_findWay 44 = .ok (.aload_n 2, 1) := by decide +kernel
theorem dX0_findWay_45 : decode cX0_findWay 45 = .ok (.getfield 29, 3) := by decide +kernel
theorem dX0_findWay_48 : decode cX0_findWay 48 = .ok (.istore_n 3, 1) := by decide +kernel
theorem dX0_findWay_49 : decode cX0_findWay 49 = .ok (.iconst 0, 1) := by decide +kernel
theorem dX0_findWay_50 : decode cX0_findWay 50 = .ok (.istore 4, 2) := by decide +kernel
theorem dX0_findWay_52 : decode cX0_findWay 52 = .ok (.iload 4, 2) := by decide +kernel
theorem dX0_findWay_54 : decode cX0_findWay 54 = .ok (.bipush 100, 2) := by decide +kernel
theorem dX0_findWay_56 : decode cX0_findWay 56 = .ok (.if_icmp .ge 57, 3) := by decide +kernel
theorem dX0_findWay_59 : decode cX0_findWay 59 = .ok (.iload_n 3, 1) := by decide +kernel
theorem dX0_findWay_60 : decode cX0_findWay 60 = .ok (.aload_n 2, 1) := by decide +kernel
theorem dX0_findWay_61 : decode cX0_findWay 61 = .ok (.getfield 38, 3) := by decide +kernel
theorem dX0_findWay_64 : decode cX0_findWay 64 = .ok (.if_icmp .eq 49, 3) := by decide +kernel
theorem dX0_findWay_67 : decode cX0_findWay 67 = .ok (.aload_n 0, 1) := by decide +kernel
theorem dX0_findWay_68 : decode cX0_findWay 68 = .ok (.aload_n 1, 1) := by decide +kernel
theorem dX0_findWay_69 : decode cX0_findWay 69 = .ok (.aload_n 2, 1) := by decide +kernel
theorem dX0_findWay_70 : decode cX0_findWay 70 = .ok (.iload_n 3, 1) := by decide +kernel
theorem dX0_findWay_71 : decode cX0_findWay 71 = .ok (.invokevirtual 41, 3) := by decide +kernel
theorem dX0_findWay_74 : decode cX0_findWay 74 = .ok (.istore 5, 2) := by decide +kernel
theorem dX0_findWay_76 : decode cX0_findWay 76 = .ok (.iload 5, 2) := by decide +kernel
theorem dX0_findWay_78 : decode cX0_findWay 78 = .ok (.ifCond .ge 5, 3) := by decide +kernel
theorem dX0_findWay_81 : decode cX0_findWay 81 = .ok (.iconst 0, 1) := by decide +kernel
theorem dX0_findWay_82 : decode cX0_findWay 82 = .ok (.ireturn, 1) := by decide +kernel
theorem dX0_findWay_83 : decode cX0_findWay 83 = .ok (.aload_n 0, 1) := by decide +kernel
theorem dX0_findWay_84 : decode cX0_findWay 84 = .ok (.getfield 18, 3) := by decide +kernel
theorem dX0_findWay_87 : decode cX0_findWay 87 = .ok (.iload 4, 2) := by decide +kernel
theorem dX0_findWay_89 : decode cX0_findWay 89 = .ok (.iload 5, 2) := by decide +kernel
theorem dX0_findWay_91 : decode cX0_findWay 91 = .ok (.iastore, 1) := by decide +kernel
theorem dX0_findWay_92 : decode cX0_findWay 92 = .ok (.aload_n 0, 1) := by decide +kernel
theorem dX0_findWay_93 : decode cX0_findWay 93 = .ok (.iload 4, 2) := by decide +kernel
theorem dX0_findWay_95 : decode cX0_findWay 95 = .ok (.iconst 1, 1) := by decide +kernel
theorem dX0_findWay_96 : decode cX0_findWay 96 = .ok (.iadd, 1) := by decide +kernel
theorem dX0_findWay_97 : decode cX0_findWay 97 = .ok (.putfield 25, 3) := by decide +kernel
theorem dX0_findWay_100 : decode cX0_findWay 100 = .ok (.iload_n 3, 1) := by decide +kernel
theorem dX0_findWay_101 : decode cX0_findWay 101 = .ok (.iload 5, 2) := by decide +kernel
theorem dX0_findWay_103 : decode cX0_findWay 103 = .ok (.invokestatic 45, 3) := by decide +kernel
theorem dX0_findWay_106 : decode cX0_findWay 106 = .ok (.istore_n 3, 1) := by decide +kernel
theorem dX0_findWay_107 : decode cX0_findWay 107 = .ok (.iinc 4 1, 3) := by decide +kernel
theorem dX0_findWay_110 : decode cX0_findWay 110 = .ok (.goto (-58), 3) := by decide +kernel
theorem dX0_findWay_113 : decode cX0_findWay 113 = .ok (.iconst 1, 1) := by decide +kernel
theorem dX0_findWay_114 : decode cX0_findWay 114 = .ok (.ireturn, 1) := by decide +kernel
theorem dX0_weight_0 : decode cX0_weight 0 = .ok (.aload_n 0, 1) := by decide +kernel
theorem dX0_weight_1 : decode cX0_weight 1 = .ok (.getfield 49, 3) := by decide +kernel
theorem dX0_weight_4 : decode cX0_weight 4 = .ok (.aload_n 0, 1) := by decide +kernel
theorem dX0_weight_5 : decode cX0_weight 5 = .ok (.getfield 54, 3) := by decide +kernel
theorem dX0_weight_8 : decode cX0_weight 8 = .ok (.iload_n 2, 1) := by decide +kernel
theorem dX0_weight_9 : decode cX0_weight 9 = .ok (.iaload, 1) := by decide +kernel
theorem dX0_weight_10 : decode cX0_weight 10 = .ok (.aload_n 1, 1) := by decide +kernel
theorem dX0_weight_11 : decode cX0_weight 11 = .ok (.getfield 57, 3) := by decide +kernel
theorem dX0_weight_14 : decode cX0_weight 14 = .ok (.iconst (-1), 1) := by decide +kernel
theorem dX0_weight_15 : decode cX0_weight 15 = .ok (.ixor, 1) := by decide +kernel
theorem dX0_weight_16 : decode cX0_weight 16 = .ok (.iand, 1) := by decide +kernel
theorem dX0_weight_17 : decode cX0_weight 17 = .ok (.invokestatic 60, 3) := by decide +kernel
theorem dX0_weight_20 : decode cX0_weight 20 = .ok (.iaload, 1) := by decide +kernel
theorem dX0_weight_21 : decode cX0_weight 21 = .ok (.sipush 128, 3) := by decide +kernel
theorem dX0_weight_24 : decode cX0_weight 24 = .ok (.imul, 1) := by decide +kernel
theorem dX0_weight_25 : decode cX0_weight 25 = .ok (.iconst 1, 1) := by decide +kernel
theorem dX0_weight_26 : decode cX0_weight 26 = .ok (.iadd, 1) := by decide +kernel
theorem dX0_weight_27 : decode cX0_weight 27 = .ok (.ireturn, 1) := by decide +kernel
theorem dX0_leastDirection_0 : decode cX0_leastDirection 0 = .ok (.iconst 0, 1) := by decide +kernel
theorem dX0_leastDirection_1 : decode cX0_leastDirection 1 = .ok (.istore 4, 2) := by decide +kernel
theorem dX0_leastDirection_3 : decode cX0_leastDirection 3 = .ok (.iload 4, 2) := by decide +kernel
theorem dX0_leastDirection_5 : decode cX0_leastDirection 5 = .ok (.iconst 4, 1) := by decide +kernel
theorem dX0_leastDirection_6 : decode cX0_leastDirection 6 = .ok (.if_icmp .ge 55, 3) := by decide +kernel
theorem dX0_leastDirection_9 : decode cX0_leastDirection 9 = .ok (.iload_n 3, 1) := by decide +kernel
theorem dX0_leastDirection_10 : decode cX0_leastDirection 10 = .ok (.iload 4, 2) := by decide +kernel
theorem dX0_leastDirection_12 : decode cX0_leastDirection 12 = .ok (.invokestatic 45, 3) := by decide +kernel
theorem dX0_leastDirection_15 : decode cX0_leastDirection 15 = .ok (.istore 5, 2) := by decide +kernel
theorem dX0_leastDirection_17 : decode cX0_leastDirection 17 = .ok (.iload 5, 2) := by decide +kernel
theorem dX0_leastDirection_19 : decode cX0_leastDirection 19 = .ok (.ifCond .lt 36, 3) := by decide +kernel
theorem dX0_leastDirection_22 : decode cX0_leastDirection 22 = .ok (.aload_n 0, 1) := by decide +kernel
theorem dX0_leastDirection_23 : decode cX0_leastDirection 23 = .ok (.getfield 9, 3) := by decide +kernel
theorem dX0_leastDirection_26 : decode cX0_leastDirection 26 = .ok (.iload_n 3, 1) := by decide +kernel
theorem dX0_leastDirection_27 : decode cX0_leastDirection 27 = .ok (.iaload, 1) := by decide +kernel
theorem dX0_leastDirection_28 : decode cX0_leastDirection 28 = .ok (.aload_n 0, 1) := by decide +kernel
theorem dX0_leastDirection_29 : decode cX0_leastDirection 29 = .ok (.getfield 9, 3) := by decide +kernel
theorem dX0_leastDirection_32 : decode cX0_leastDirection 32 = .ok (.iload 5, 2) := by decide +kernel
theorem dX0_leastDirection_34 : decode cX0_leastDirection 34 = .ok (.iaload, 1) := by decide +kernel
theorem dX0_leastDirection_35 : decode cX0_leastDirection 35 = .ok (.isub, 1) := by decide +kernel
theorem dX0_leastDirection_36 : decode cX0_leastDirection 36 = .ok (.aload_n 1, 1) := by decide +kernel
theorem dX0_leastDirection_37 : decode cX0_leastDirection 37 = .ok (.aload_n 2, 1) := by decide +kernel
theorem dX0_leastDirection_38 : decode cX0_leastDirection 38 = .ok (.iload_n 3, 1) := by decide +kernel
theorem dX0_leastDirection_39 : decode cX0_leastDirection 39 = .ok (.iload 5, 2) := by decide +kernel
theorem dX0_leastDirection_41 : decode cX0_leastDirection 41 = .ok (.iload 4, 2) := by decide +kernel
theorem dX0_leastDirection_43 : decode cX0_leastDirection 43 = .ok (.invokestatic 66, 3) := by decide +kernel
theorem dX0_leastDirection_46 : decode cX0_leastDirection 46 = .ok (.invokestatic 70, 3) := by decide +kernel
theorem dX0_leastDirection_49 : decode cX0_leastDirection 49 = .ok (.if_icmp .ne 6, 3) := by decide +kernel
theorem dX0_leastDirection_52 : decode cX0_leastDirection 52 = .ok (.iload 4, 2) := by decide +kernel
theorem dX0_leastDirection_54 : decode cX0_leastDirection 54 = .ok (.ireturn, 1) := by decide +kernel
theorem dX0_leastDirection_55 : decode cX0_leastDirection 55 = .ok (.iinc 4 1, 3) := by decide +kernel
theorem dX0_leastDirection_58 : decode cX0_leastDirection 58 = .ok (.goto (-55), 3) := by decide +kernel
theorem dX0_leastDirection_61 : decode cX0_leastDirection 61 = .ok (.iconst (-1), 1) := by decide +kernel
theorem dX0_leastDirection_62 : decode cX0_leastDirection 62 = .ok (.ireturn, 1) := by decide +kernel
theorem dX0_spread_0 : decode cX0_spread 0 = .ok (.iconst 0, 1) := by decide +kernel
theorem dX0_spread_1 : decode cX0_spread 1 = .ok (.istore_n 3, 1) := by decide +kernel
theorem dX0_spread_2 : decode cX0_spread 2 = .ok (.iload_n 3, 1) := by decide +kernel
theorem dX0_spread_3 : decode cX0_spread 3 = .ok (.bipush 100, 2) := by decide +kernel
theorem dX0_spread_5 : decode cX0_spread 5 = .ok (.if_icmp .ge 17, 3) := by decide +kernel
theorem dX0_spread_8 : decode cX0_spread 8 = .ok (.aload_n 0, 1) := by decide +kernel
theorem dX0_spread_9 : decode cX0_spread 9 = .ok (.getfield 9, 3) := by decide +kernel
theorem dX0_spread_12 : decode cX0_spread 12 = .ok (.iload_n 3, 1) := by decide +kernel
theorem dX0_spread_13 : decode cX0_spread 13 = .ok (.ldc 34, 2) := by decide +kernel
theorem dX0_spread_15 : decode cX0_spread 15 = .ok (.iastore, 1) := by decide +kernel
theorem dX0_spread_16 : decode cX0_spread 16 = .ok (.iinc 3 1, 3) := by decide +kernel
theorem dX0_spread_19 : decode cX0_spread 19 = .ok (.goto (-17), 3) := by decide +kernel
theorem dX0_spread_22 : decode cX0_spread 22 = .ok (.aload_n 0, 1) := by decide +kernel
theorem dX0_spread_23 : decode cX0_spread 23 = .ok (.iconst 0, 1) := by decide +kernel
theorem dX0_spread_24 : decode cX0_spread 24 = .ok (.putfield 73, 3) := by decide +kernel
theorem dX0_spread_27 : decode cX0_spread 27 = .ok (.aload_n 0, 1) := by decide +kernel
theorem dX0_spread_28 : decode cX0_spread 28 = .ok (.aload_n 2, 1) := by decide +kernel
theorem dX0_spread_29 : decode cX0_spread 29 = .ok (.getfield 38, 3) := by decide +kernel
theorem dX0_spread_32 : decode cX0_spread 32 = .ok (.iconst 0, 1) := by decide +kernel
theorem dX0_spread_33 : decode cX0_spread 33 = .ok (.invokevirtual 76, 3) := by decide +kernel
theorem dX0_spread_36 : decode cX0_spread 36 = .ok (.iconst 0, 1) := by decide +kernel
theorem dX0_spread_37 : decode cX0_spread 37 = .ok (.istore_n 3, 1) := by decide +kernel
theorem dX0_spread_38 : decode cX0_spread 38 = .ok (.iload_n 3, 1) := by decide +kernel
theorem dX0_spread_39 : decode cX0_spread 39 = .ok (.sipush 400, 3) := by decide +kernel
theorem dX0_spread_42 : decode cX0_spread 42 = .ok (.if_icmp .ge 64, 3) := by decide +kernel
theorem dX0_spread_45 : decode cX0_spread 45 = .ok (.aload_n 0, 1) := by decide +kernel
theorem dX0_spread_46 : decode cX0_spread 46 = .ok (.getfield 73, 3) := by decide +kernel
theorem dX0_spread_49 : decode cX0_spread 49 = .ok (.ifCond .le 57, 3) := by decide +kernel
theorem dX0_spread_52 : decode cX0_spread 52 = .ok (.aload_n 0, 1) := by decide +kernel
theorem dX0_spread_53 : decode cX0_spread 53 = .ok (.invokevirtual 80, 3) := by decide +kernel
theorem dX0_spread_56 : decode cX0_spread 56 = .ok (.istore 4, 2) := by decide +kernel
theorem dX0_spread_58 : decode cX0_spread 58 = .ok (.iload 4, 2) := by decide +kernel
theorem dX0_spread_60 : decode cX0_spread 60 = .ok (.sipush 128, 3) := by decide +kernel
theorem dX0_spread_63 : decode cX0_spread 63 = .ok (.irem, 1) := by decide +kernel
theorem dX0_spread_64 : decode cX0_spread 64 = .ok (.istore 5, 2) := by decide +kernel
theorem dX0_spread_66 : decode cX0_spread 66 = .ok (.iload 5, 2) := by decide +kernel
theorem dX0_spread_68 : decode cX0_spread 68 = .ok (.aload_n 2, 1) := by decide +kernel
theorem dX0_spread_69 : decode cX0_spread 69 = .ok (.getfield 29, 3) := by decide +kernel
theorem dX0_spread_72 : decode cX0_spread 72 = .ok (.if_icmp .ne 4, 3) := by decide +kernel
theorem dX0_spread_75 : decode cX0_spread 75 = .ok (.return_, 1) := by decide +kernel
theorem dX0_spread_76 : decode cX0_spread 76 = .ok (.iload 4, 2) := by decide +kernel
theorem dX0_spread_78 : decode cX0_spread 78 = .ok (.sipush 128, 3) := by decide +kernel
theorem dX0_spread_81 : decode cX0_spread 81 = .ok (.idiv, 1) := by decide +kernel
theorem dX0_spread_82 : decode cX0_spread 82 = .ok (.aload_n 0, 1) := by decide +kernel
theorem dX0_spread_83 : decode cX0_spread 83 = .ok (.getfield 9, 3) := by decide +kernel
theorem dX0_spread_86 : decode cX0_spread 86 = .ok (.iload 5, 2) := by decide +kernel
theorem dX0_spread_88 : decode cX0_spread 88 = .ok (.iaload, 1) := by decide +kernel
theorem dX0_spread_89 : decode cX0_spread 89 = .ok (.if_icmp .ne 11, 3) := by decide +kernel
theorem dX0_spread_92 : decode cX0_spread 92 = .ok (.aload_n 0, 1) := by decide +kernel
theorem dX0_spread_93 : decode cX0_spread 93 = .ok (.aload_n 1, 1) := by decide +kernel
theorem dX0_spread_94 : decode cX0_spread 94 = .ok (.aload_n 2, 1) := by decide +kernel
theorem dX0_spread_95 : decode cX0_spread 95 = .ok (.iload 5, 2) := by decide +kernel
theorem dX0_spread_97 : decode cX0_spread 97 = .ok (.invokevirtual 84, 3) := by decide +kernel
theorem dX0_spread_100 : decode cX0_spread 100 = .ok (.iinc 3 1, 3) := by decide +kernel
theorem dX0_spread_103 : decode cX0_spread 103 = .ok (.goto (-65), 3) := by decide +kernel
theorem dX0_spread_106 : decode cX0_spread 106 = .ok (.return_, 1) := by decide +kernel
theorem dX0_reachFrom_0 : decode cX0_reachFrom 0 = .ok (.iconst 0, 1) := by decide +kernel
theorem dX0_reachFrom_1 : decode cX0_reachFrom 1 = .ok (.istore 4, 2) := by decide +kernel
theorem dX0_reachFrom_3 : decode cX0_reachFrom 3 = .ok (.iload 4, 2) := by decide +kernel
theorem dX0_reachFrom_5 : decode cX0_reachFrom 5 = .ok (.iconst 4, 1) := by decide +kernel
theorem dX0_reachFrom_6 : decode cX0_reachFrom 6 = .ok (.if_icmp .ge 74, 3) := by decide +kernel
theorem dX0_reachFrom_9 : decode cX0_reachFrom 9 = .ok (.iload_n 3, 1) := by decide +kernel
theorem dX0_reachFrom_10 : decode cX0_reachFrom 10 = .ok (.iload 4, 2) := by decide +kernel
theorem dX0_reachFrom_12 : decode cX0_reachFrom 12 = .ok (.invokestatic 45, 3) := by decide +kernel
theorem dX0_reachFrom_15 : decode cX0_reachFrom 15 = .ok (.istore 5, 2) := by decide +kernel
theorem dX0_reachFrom_17 : decode cX0_reachFrom 17 = .ok (.iload 5, 2) := by decide +kernel
theorem dX0_reachFrom_19 : decode cX0_reachFrom 19 = .ok (.ifCond .lt 55, 3) := by decide +kernel
theorem dX0_reachFrom_22 : decode cX0_reachFrom 22 = .ok (.aload_n 1, 1) := by decide +kernel
theorem dX0_reachFrom_23 : decode cX0_reachFrom 23 = .ok (.getfield 88, 3) := by decide +kernel
theorem dX0_reachFrom_26 : decode cX0_reachFrom 26 = .ok (.iload 5, 2) := by decide +kernel
theorem dX0_reachFrom_28 : decode cX0_reachFrom 28 = .ok (.baload, 1) := by decide +kernel
theorem dX0_reachFrom_29 : decode cX0_reachFrom 29 = .ok (.ifCond .ne 45, 3) := by decide +kernel
theorem dX0_reachFrom_32 : decode cX0_reachFrom 32 = .ok (.aload_n 0, 1) := by decide +kernel
theorem dX0_reachFrom_33 : decode cX0_reachFrom 33 = .ok (.getfield 9, 3) := by decide +kernel
theorem dX0_reachFrom_36 : decode cX0_reachFrom 36 = .ok (.iload_n 3, 1) := by decide +kernel
theorem dX0_reachFrom_37 : decode cX0_reachFrom 37 = .ok (.iaload, 1) := by decide +kernel
theorem dX0_reachFrom_38 : decode cX0_reachFrom 38 = .ok (.aload_n 1, 1) := by decide +kernel
theorem dX0_reachFrom_39 : decode cX0_reachFrom 39 = .ok (.aload_n 2, 1) := by decide +kernel
theorem dX0_reachFrom_40 : decode cX0_reachFrom 40 = .ok (.iload_n 3, 1) := by decide +kernel
theorem dX0_reachFrom_41 : decode cX0_reachFrom 41 = .ok (.iload 5, 2) := by decide +kernel
theorem dX0_reachFrom_43 : decode cX0_reachFrom 43 = .ok (.iload 4, 2) := by decide +kernel
theorem dX0_reachFrom_45 : decode cX0_reachFrom 45 = .ok (.invokestatic 66, 3) := by decide +kernel
theorem dX0_reachFrom_48 : decode cX0_reachFrom 48 = .ok (.invokestatic 70, 3) := by decide +kernel
theorem dX0_reachFrom_51 : decode cX0_reachFrom 51 = .ok (.iadd, 1) := by decide +kernel
theorem dX0_reachFrom_52 : decode cX0_reachFrom 52 = .ok (.istore 6, 2) := by decide +kernel
theorem dX0_reachFrom_54 : decode cX0_reachFrom 54 = .ok (.iload 6, 2) := by decide +kernel
theorem dX0_reachFrom_56 : decode cX0_reachFrom 56 = .ok (.aload_n 0, 1) := by decide +kernel
theorem dX0_reachFrom_57 : decode cX0_reachFrom 57 = .ok (.getfield 9, 3) := by decide +kernel
theorem dX0_reachFrom_60 : decode cX0_reachFrom 60 = .ok (.iload 5, 2) := by decide +kernel
theorem dX0_reachFrom_62 : decode cX0_reachFrom 62 = .ok (.iaload, 1) := by decide +kernel
theorem dX0_reachFrom_63 : decode cX0_reachFrom 63 = .ok (.if_icmp .ge 11, 3) := by decide +kernel
theorem dX0_reachFrom_66 : decode cX0_reachFrom 66 = .ok (.aload_n 0, 1) := by decide +kernel
theorem dX0_reachFrom_67 : decode cX0_reachFrom 67 = .ok (.iload 5, 2) := by decide +kernel
theorem dX0_reachFrom_69 : decode cX0_reachFrom 69 = .ok (.iload 6, 2) := by decide +kernel
theorem dX0_reachFrom_71 : decode cX0_reachFrom 71 = .ok (.invokevirtual 76, 3) := by decide +kernel
theorem dX0_reachFrom_74 : decode cX0_reachFrom 74 = .ok (.iinc 4 1, 3) := by decide +kernel
theorem dX0_reachFrom_77 : decode cX0_reachFrom 77 = .ok (.goto (-74), 3) := by decide +kernel
theorem dX0_reachFrom_80 : decode cX0_reachFrom 80 = .ok (.return_, 1) := by decide +kernel
theorem dX0_reach_0 : decode cX0_reach 0 = .ok (.aload_n 0, 1) := by decide +kernel
theorem dX0_reach_1 : decode cX0_reach 1 = .ok (.getfield 73, 3) := by decide +kernel
theorem dX0_reach_4 : decode cX0_reach 4 = .ok (.sipush 400, 3) := by decide +kernel
theorem dX0_reach_7 : decode cX0_reach 7 = .ok (.if_icmp .lt 4, 3) := by decide +kernel
theorem dX0_reach_10 : decode cX0_reach 10 = .ok (.return_, 1) := by decide +kernel
theorem dX0_reach_11 : decode cX0_reach 11 = .ok (.aload_n 0, 1) := by decide +kernel
theorem dX0_reach_12 : decode cX0_reach 12 = .ok (.getfield 9, 3) := by decide +kernel
theorem dX0_reach_15 : decode cX0_reach 15 = .ok (.iload_n 1, 1) := by decide +kernel
theorem dX0_reach_16 : decode cX0_reach 16 = .ok (.iload_n 2, 1) := by decide +kernel
theorem dX0_reach_17 : decode cX0_reach 17 = .ok (.iastore, 1) := by decide +kernel
theorem dX0_reach_18 : decode cX0_reach 18 = .ok (.iload_n 2, 1) := by decide +kernel
theorem dX0_reach_19 : decode cX0_reach 19 = .ok (.sipush 128, 3) := by decide +kernel
theorem dX0_reach_22 : decode cX0_reach 22 = .ok (.imul, 1) := by decide +kernel
theorem dX0_reach_23 : decode cX0_reach 23 = .ok (.iload_n 1, 1) := by decide +kernel
theorem dX0_reach_24 : decode cX0_reach 24 = .ok (.iadd, 1) := by decide +kernel
theorem dX0_reach_25 : decode cX0_reach 25 = .ok (.istore_n 3, 1) := by decide +kernel
theorem dX0_reach_26 : decode cX0_reach 26 = .ok (.aload_n 0, 1) := by decide +kernel
theorem dX0_reach_27 : decode cX0_reach 27 = .ok (.getfield 73, 3) := by decide +kernel
theorem dX0_reach_30 : decode cX0_reach 30 = .ok (.istore 4, 2) := by decide +kernel
theorem dX0_reach_32 : decode cX0_reach 32 = .ok (.aload_n 0, 1) := by decide +kernel
theorem dX0_reach_33 : decode cX0_reach 33 = .ok (.dup, 1) := by decide +kernel
theorem dX0_reach_34 : decode cX0_reach 34 = .ok (.getfield 73, 3) := by decide +kernel
theorem dX0_reach_37 : decode cX0_reach 37 = .ok (.iconst 1, 1) := by decide +kernel
theorem dX0_reach_38 : decode cX0_reach 38 = .ok (.iadd, 1) := by decide +kernel
theorem dX0_reach_39 : decode cX0_reach 39 = .ok (.putfield 73, 3) := by decide +kernel
theorem dX0_reach_42 : decode cX0_reach 42 = .ok (.iload 4, 2) := by decide +kernel
theorem dX0_reach_44 : decode cX0_reach 44 = .ok (.ifCond .le 47, 3) := by decide +kernel
theorem dX0_reach_47 : decode cX0_reach 47 = .ok (.aload_n 0, 1) := by decide +kernel
theorem dX0_reach_48 : decode cX0_reach 48 = .ok (.getfield 15, 3) := by decide +kernel
theorem dX0_reach_51 : decode cX0_reach 51 = .ok (.iload 4, 2) := by decide +kernel
theorem dX0_reach_53 : decode cX0_reach 53 = .ok (.iconst 1, 1) := by decide +kernel
theorem dX0_reach_54 : decode cX0_reach 54 = .ok (.isub, 1) := by decide +kernel
theorem dX0_reach_55 : decode cX0_reach 55 = .ok (.iconst 2, 1) := by decide +kernel
theorem dX0_reach_56 : decode cX0_reach 56 = .ok (.idiv, 1) := by decide +kernel
theorem dX0_reach_57 : decode cX0_reach 57 = .ok (.iaload, 1) := by decide +kernel
theorem dX0_reach_58 : decode cX0_reach 58 = .ok (.iload_n 3, 1) := by decide +kernel
theorem dX0_reach_59 : decode cX0_reach 59 = .ok (.if_icmp .le 32, 3) := by decide +kernel
theorem dX0_reach_62 : decode cX0_reach 62 = .ok (.aload_n 0, 1) := by decide +kernel
theorem dX0_reach_63 : decode cX0_reach 63 = .ok (.getfield 15, 3) := by decide +kernel
theorem dX0_reach_66 : decode cX0_reach 66 = .ok (.iload 4, 2) := by decide +kernel
theorem dX0_reach_68 : decode cX0_reach 68 = .ok (.aload_n 0, 1) := by decide +kernel
theorem dX0_reach_69 : decode cX0_reach 69 = .ok (.getfield 15, 3) := by decide +kernel
theorem dX0_reach_72 : decode cX0_reach 72 = .ok (.iload 4, 2) := by decide +kernel
theorem dX0_reach_74 : decode cX0_reach 74 = .ok (.iconst 1, 1) := by decide +kernel
theorem dX0_reach_75 : decode cX0_reach 75 = .ok (.isub, 1) := by decide +kernel
theorem dX0_reach_76 : decode cX0_reach 76 = .ok (.iconst 2, 1) := by decide +kernel
theorem dX0_reach_77 : decode cX0_reach 77 = .ok (.idiv, 1) := by decide +kernel
theorem dX0_reach_78 : decode cX0_reach 78 = .ok (.iaload, 1) := by decide +kernel
theorem dX0_reach_79 : decode cX0_reach 79 = .ok (.iastore, 1) := by decide +kernel
theorem dX0_reach_80 : decode cX0_reach 80 = .ok (.iload 4, 2) := by decide +kernel
theorem dX0_reach_82 : decode cX0_reach 82 = .ok (.iconst 1, 1) := by decide +kernel
theorem dX0_reach_83 : decode cX0_reach 83 = .ok (.isub, 1) := by decide +kernel
theorem dX0_reach_84 : decode cX0_reach 84 = .ok (.iconst 2, 1) := by decide +kernel
theorem dX0_reach_85 : decode cX0_reach 85 = .ok (.idiv, 1) := by decide +kernel
theorem dX0_reach_86 : decode cX0_reach 86 = .ok (.istore 4, 2) := by decide +kernel
theorem dX0_reach_88 : decode cX0_reach 88 = .ok (.goto (-46), 3) := by decide +kernel
theorem dX0_reach_91 : decode cX0_reach 91 = .ok (.aload_n 0, 1) := by decide +kernel
theorem dX0_reach_92 : decode cX0_reach 92 = .ok (.getfield 15, 3) := by decide +kernel
theorem dX0_reach_95 : decode cX0_reach 95 = .ok (.iload 4, 2) := by decide +kernel
theorem dX0_reach_97 : decode cX0_reach 97 = .ok (.iload_n 3, 1) := by decide +kernel
theorem dX0_reach_98 : decode cX0_reach 98 = .ok (.iastore, 1) := by decide +kernel
theorem dX0_reach_99 : decode cX0_reach 99 = .ok (.return_, 1) := by decide +kernel
theorem dX0_pull_0 : decode cX0_pull 0 = .ok (.aload_n 0, 1) := by decide +kernel
theorem dX0_pull_1 : decode cX0_pull 1 = .ok (.getfield 15, 3) := by decide +kernel
theorem dX0_pull_4 : decode cX0_pull 4 = .ok (.iconst 0, 1) := by decide +kernel
theorem dX0_pull_5 : decode cX0_pull 5 = .ok (.iaload, 1) := by decide +kernel
theorem dX0_pull_6 : decode cX0_pull 6 = .ok (.istore_n 1, 1) := by decide +kernel
theorem dX0_pull_7 : decode cX0_pull 7 = .ok (.aload_n 0, 1) := by decide +kernel
theorem dX0_pull_8 : decode cX0_pull 8 = .ok (.dup, 1) := by decide +kernel
theorem dX0_pull_9 : decode cX0_pull 9 = .ok (.getfield 73, 3) := by decide +kernel
theorem dX0_pull_12 : decode cX0_pull 12 = .ok (.iconst 1, 1) := by decide +kernel
theorem dX0_pull_13 : decode cX0_pull 13 = .ok (.isub, 1) := by decide +kernel
theorem dX0_pull_14 : decode cX0_pull 14 = .ok (.putfield 73, 3) := by decide +kernel
theorem dX0_pull_17 : decode cX0_pull 17 = .ok (.aload_n 0, 1) := by decide +kernel
theorem dX0_pull_18 : decode cX0_pull 18 = .ok (.getfield 15, 3) := by decide +kernel
theorem dX0_pull_21 : decode cX0_pull 21 = .ok (.aload_n 0, 1) := by decide +kernel
theorem dX0_pull_22 : decode cX0_pull 22 = .ok (.getfield 73, 3) := by decide +kernel
theorem dX0_pull_25 : decode cX0_pull 25 = .ok (.iaload, 1) := by decide +kernel
theorem dX0_pull_26 : decode cX0_pull 26 = .ok (.istore_n 2, 1) := by decide +kernel
theorem dX0_pull_27 : decode cX0_pull 27 = .ok (.iconst 0, 1) := by decide +kernel
theorem dX0_pull_28 : decode cX0_pull 28 = .ok (.istore_n 3, 1) := by decide +kernel
theorem dX0_pull_29 : decode cX0_pull 29 = .ok (.iconst 1, 1) := by decide +kernel
theorem dX0_pull_30 : decode cX0_pull 30 = .ok (.istore 4, 2) := by decide +kernel
theorem dX0_pull_32 : decode cX0_pull 32 = .ok (.iload 4, 2) := by decide +kernel
theorem dX0_pull_34 : decode cX0_pull 34 = .ok (.aload_n 0, 1) := by decide +kernel
theorem dX0_pull_35 : decode cX0_pull 35 = .ok (.getfield 73, 3) := by decide +kernel
theorem dX0_pull_38 : decode cX0_pull 38 = .ok (.if_icmp .ge 76, 3) := by decide +kernel
theorem dX0_pull_41 : decode cX0_pull 41 = .ok (.iload 4, 2) := by decide +kernel
theorem dX0_pull_43 : decode cX0_pull 43 = .ok (.iconst 1, 1) := by decide +kernel
theorem dX0_pull_44 : decode cX0_pull 44 = .ok (.iadd, 1) := by decide +kernel
theorem dX0_pull_45 : decode cX0_pull 45 = .ok (.aload_n 0, 1) := by decide +kernel
theorem dX0_pull_46 : decode cX0_pull 46 = .ok (.getfield 73, 3) := by decide +kernel
theorem dX0_pull_49 : decode cX0_pull 49 = .ok (.if_icmp .ge 25, 3) := by decide +kernel
theorem dX0_pull_52 : decode cX0_pull 52 = .ok (.aload_n 0, 1) := by decide +kernel
theorem dX0_pull_53 : decode cX0_pull 53 = .ok (.getfield 15, 3) := by decide +kernel
theorem dX0_pull_56 : decode cX0_pull 56 = .ok (.iload 4, 2) := by decide +kernel
theorem dX0_pull_58 : decode cX0_pull 58 = .ok (.iconst 1, 1) := by decide +kernel
theorem dX0_pull_59 : decode cX0_pull 59 = .ok (.iadd, 1) := by decide +kernel
theorem dX0_pull_60 : decode cX0_pull 60 = .ok (.iaload, 1) := by decide +kernel
theorem dX0_pull_61 : decode cX0_pull 61 = .ok (.aload_n 0, 1) := by decide +kernel
theorem dX0_pull_62 : decode cX0_pull 62 = .ok (.getfield 15, 3) := by decide +kernel
theorem dX0_pull_65 : decode cX0_pull 65 = .ok (.iload 4, 2) := by decide +kernel
theorem dX0_pull_67 : decode cX0_pull 67 = .ok (.iaload, 1) := by decide +kernel
theorem dX0_pull_68 : decode cX0_pull 68 = .ok (.if_icmp .ge 6, 3) := by decide +kernel
theorem dX0_pull_71 : decode cX0_pull 71 = .ok (.iinc 4 1, 3) := by decide +kernel
theorem dX0_pull_74 : decode cX0_pull 74 = .ok (.aload_n 0, 1) := by decide +kernel
theorem dX0_pull_75 : decode cX0_pull 75 = .ok (.getfield 15, 3) := by decide +kernel
theorem dX0_pull_78 : decode cX0_pull 78 = .ok (.iload 4, 2) := by decide +kernel
theorem dX0_pull_80 : decode cX0_pull 80 = .ok (.iaload, 1) := by decide +kernel
theorem dX0_pull_81 : decode cX0_pull 81 = .ok (.iload_n 2, 1) := by decide +kernel
theorem dX0_pull_82 : decode cX0_pull 82 = .ok (.if_icmp .lt 6, 3) := by decide +kernel
theorem dX0_pull_85 : decode cX0_pull 85 = .ok (.goto 29, 3) := by decide +kernel
theorem dX0_pull_88 : decode cX0_pull 88 = .ok (.aload_n 0, 1) := by decide +kernel
theorem dX0_pull_89 : decode cX0_pull 89 = .ok (.getfield 15, 3) := by decide +kernel
theorem dX0_pull_92 : decode cX0_pull 92 = .ok (.iload_n 3, 1) := by decide +kernel
theorem dX0_pull_93 : decode cX0_pull 93 = .ok (.aload_n 0, 1) := by decide +kernel
theorem dX0_pull_94 : decode cX0_pull 94 = .ok (.getfield 15, 3) := by decide +kernel
theorem dX0_pull_97 : decode cX0_pull 97 = .ok (.iload 4, 2) := by decide +kernel
theorem dX0_pull_99 : decode cX0_pull 99 = .ok (.iaload, 1) := by decide +kernel
theorem dX0_pull_100 : decode cX0_pull 100 = .ok (.iastore, 1) := by decide +kernel
theorem dX0_pull_101 : decode cX0_pull 101 = .ok (.iload 4, 2) := by decide +kernel
theorem dX0_pull_103 : decode cX0_pull 103 = .ok (.istore_n 3, 1) := by decide +kernel
theorem dX0_pull_104 : decode cX0_pull 104 = .ok (.iconst 2, 1) := by decide +kernel
theorem dX0_pull_105 : decode cX0_pull 105 = .ok (.iload_n 3, 1) := by decide +kernel
theorem dX0_pull_106 : decode cX0_pull 106 = .ok (.imul, 1) := by decide +kernel
theorem dX0_pull_107 : decode cX0_pull 107 = .ok (.iconst 1, 1) := by decide +kernel
theorem dX0_pull_108 : decode cX0_pull 108 = .ok (.iadd, 1) := by decide +kernel
theorem dX0_pull_109 : decode cX0_pull 109 = .ok (.istore 4, 2) := by decide +kernel
theorem dX0_pull_111 : decode cX0_pull 111 = .ok (.goto (-79), 3) := by decide +kernel
theorem dX0_pull_114 : decode cX0_pull 114 = .ok (.aload_n 0, 1) := by decide +kernel
theorem dX0_pull_115 : decode cX0_pull 115 = .ok (.getfield 15, 3) := by decide +kernel
theorem dX0_pull_118 : decode cX0_pull 118 = .ok (.iload_n 3, 1) := by decide +kernel
theorem dX0_pull_119 : decode cX0_pull 119 = .ok (.iload_n 2, 1) := by decide +kernel
theorem dX0_pull_120 : decode cX0_pull 120 = .ok (.iastore, 1) := by decide +kernel
theorem dX0_pull_121 : decode cX0_pull 121 = .ok (.iload_n 1, 1) := by decide +kernel
theorem dX0_pull_122 : decode cX0_pull 122 = .ok (.ireturn, 1) := by decide +kernel
theorem dX1_init_0 : decode cX1_init 0 = .ok (.aload_n 0, 1) := by decide +kernel
theorem dX1_init_1 : decode cX1_init 1 = .ok (.invokespecial 3, 3) := by decide +kernel
theorem dX1_init_4 : decode cX1_init 4 = .ok (.aload_n 0, 1) := by decide +kernel
theorem dX1_init_5 : decode cX1_init 5 = .ok (.bipush 100, 2) := by decide +kernel
theorem dX1_init_7 : decode cX1_init 7 = .ok (.newarray .int, 2) := by decide +kernel
theorem dX1_init_9 : decode cX1_init 9 = .ok (.putfield 9, 3) := by decide +kernel
theorem dX1_init_12 : decode cX1_init 12 = .ok (.aload_n 0, 1) := by decide +kernel
theorem dX1_init_13 : decode cX1_init 13 = .ok (.iload_n 1, 1) := by decide +kernel
theorem dX1_init_14 : decode cX1_init 14 = .ok (.putfield 15, 3) := by decide +kernel
theorem dX1_init_17 : decode cX1_init 17 = .ok (.return_, 1) := by decide +kernel
theorem dX1_join_0 : decode cX1_join 0 = .ok (.aload_n 0, 1) := by decide +kernel
theorem dX1_join_1 : decode cX1_join 1 = .ok (.iload_n 1, 1) := by decide +kernel
theorem dX1_join_2 : decode cX1_join 2 = .ok (.putfield 19, 3) := by decide +kernel
theorem dX1_join_5 : decode cX1_join 5 = .ok (.aload_n 0, 1) := by decide +kernel
theorem dX1_join_6 : decode cX1_join 6 = .ok (.iload_n 2, 1) := by decide +kernel
theorem dX1_join_7 : decode cX1_join 7 = .ok (.putfield 22, 3) := by decide +kernel
theorem dX1_join_10 : decode cX1_join 10 = .ok (.aload_n 0, 1) := by decide +kernel
theorem dX1_join_11 : decode cX1_join 11 = .ok (.iconst 0, 1) := by decide +kernel
theorem dX1_join_12 : decode cX1_join 12 = .ok (.putfield 25, 3) := by decide +kernel
theorem dX1_join_15 : decode cX1_join 15 = .ok (.return_, 1) := by decide +kernel
theorem dX1_hasWay_0 : decode cX1_hasWay 0 = .ok (.aload_n 0, 1) := by decide +kernel
theorem dX1_hasWay_1 : decode cX1_hasWay 1 = .ok (.getfield 25, 3) := by decide +kernel
theorem dX1_hasWay_4 : decode cX1_hasWay 4 = .ok (.ifCond .le 7, 3) := by decide +kernel
theorem dX1_hasWay_7 : decode cX1_hasWay 7 = .ok (.iconst 1, 1) := by decide +kernel
theorem dX1_hasWay_8 : decode cX1_hasWay 8 = .ok (.goto 4, 3) := by decide +kernel
theorem dX1_hasWay_11 : decode cX1_hasWay 11 = .ok (.iconst 0, 1) := by decide +kernel
theorem dX1_hasWay_12 : decode cX1_hasWay 12 = .ok (.ireturn, 1) := by decide +kernel
theorem dX1_detourOfWay_0 : decode cX1_detourOfWay 0 = .ok (.aload_n 0, 1) := by decide +kernel
theorem dX1_detourOfWay_1 : decode cX1_detourOfWay 1 = .ok (.getfield 19, 3) := by decide +kernel
theorem dX1_detourOfWay_4 : decode cX1_detourOfWay 4 = .ok (.bipush 10, 2) := by decide +kernel
theorem dX1_detourOfWay_6 : decode cX1_detourOfWay 6 = .ok (.irem, 1) := by decide +kernel
theorem dX1_detourOfWay_7 : decode cX1_detourOfWay 7 = .ok (.aload_n 0, 1) := by decide +kernel
theorem dX1_detourOfWay_8 : decode cX1_detourOfWay 8 = .ok (.getfield 22, 3) := by decide +kernel
theorem dX1_detourOfWay_11 : decode cX1_detourOfWay 11 = .ok (.bipush 10, 2) := by decide +kernel
theorem dX1_detourOfWay_13 : decode cX1_detourOfWay 13 = .ok (.irem, 1) := by decide +kernel
theorem dX1_detourOfWay_14 : decode cX1_detourOfWay 14 = .ok (.isub, 1) := by decide +kernel
theorem dX1_detourOfWay_15 : decode cX1_detourOfWay 15 = .ok (.invokestatic 28, 3) := by decide +kernel
theorem dX1_detourOfWay_18 : decode cX1_detourOfWay 18 = .ok (.aload_n 0, 1) := by decide +kernel
theorem dX1_detourOfWay_19 : decode cX1_detourOfWay 19 = .ok (.getfield 19, 3) := by decide +kernel
theorem dX1_detourOfWay_22 : decode cX1_detourOfWay 22 = .ok (.bipush 10, 2) := by decide +kernel
theorem dX1_detourOfWay_24 : decode cX1_detourOfWay 24 = .ok (.idiv, 1) := by decide +kernel
theorem dX1_detourOfWay_25 : decode cX1_detourOfWay 25 = .ok (.aload_n 0, 1) := by decide +kernel
theorem dX1_detourOfWay_26 : decode cX1_detourOfWay 26 = .ok (.getfield 22, 3) := by decide +kernel
theorem dX1_detourOfWay_29 : decode cX1_detourOfWay 29 = .ok (.bipush 10, 2) := by decide +kernel
theorem dX1_detourOfWay_31 : decode cX1_detourOfWay 31 = .ok (.idiv, 1) := by decide +kernel
theorem dX1_detourOfWay_32 : decode cX1_detourOfWay 32 = .ok (.isub, 1) := by decide +kernel
theorem dX1_detourOfWay_33 : decode cX1_detourOfWay 33 = .ok (.invokestatic 28, 3) := by decide +kernel
theorem dX1_detourOfWay_36 : decode cX1_detourOfWay 36 = .ok (.iadd, 1) := by decide +kernel
theorem dX1_detourOfWay_37 : decode cX1_detourOfWay 37 = .ok (.istore_n 1, 1) := by decide +kernel
theorem dX1_detourOfWay_38 : decode cX1_detourOfWay 38 = .ok (.iload_n 1, 1) := by decide +kernel
theorem dX1_detourOfWay_39 : decode cX1_detourOfWay 39 = .ok (.ifCond .le 15, 3) := by decide +kernel
theorem dX1_detourOfWay_42 : decode cX1_detourOfWay 42 = .ok (.aload_n 0, 1) := by decide +kernel
theorem dX1_detourOfWay_43 : decode cX1_detourOfWay 43 = .ok (.getfield 25, 3) := by decide +kernel
theorem dX1_detourOfWay_46 : decode cX1_detourOfWay 46 = .ok (.bipush 100, 2) := by decide +kernel
theorem dX1_detourOfWay_48 : decode cX1_detourOfWay 48 = .ok (.imul, 1) := by decide +kernel
theorem dX1_detourOfWay_49 : decode cX1_detourOfWay 49 = .ok (.iload_n 1, 1) := by decide +kernel
theorem dX1_detourOfWay_50 : decode cX1_detourOfWay 50 = .ok (.idiv, 1) := by decide +kernel
theorem dX1_detourOfWay_51 : decode cX1_detourOfWay 51 = .ok (.goto 5, 3) := by decide +kernel
theorem dX1_detourOfWay_54 : decode cX1_detourOfWay 54 = .ok (.ldc 34, 2) := by decide +kernel
theorem dX1_detourOfWay_56 : decode cX1_detourOfWay 56 = .ok (.ireturn, 1) := by decide +kernel
theorem dX2_init_0 : decode cX2_init 0 = .ok (.aload_n 0, 1) := by decide +kernel
theorem dX2_init_1 : decode cX2_init 1 = .ok (.invokespecial 3, 3) := by decide +kernel
theorem dX2_init_4 : decode cX2_init 4 = .ok (.aload_n 0, 1) := by decide +kernel
theorem dX2_init_5 : decode cX2_init 5 = .ok (.bipush 100, 2) := by decide +kernel
theorem dX2_init_7 : decode cX2_init 7 = .ok (.newarray .boolean, 2) := by decide +kernel
theorem dX2_init_9 : decode cX2_init 9 = .ok (.putfield 9, 3) := by decide +kernel
theorem dX2_init_12 : decode cX2_init 12 = .ok (.aload_n 0, 1) := by decide +kernel
theorem dX2_init_13 : decode cX2_init 13 = .ok (.bipush 100, 2) := by decide +kernel
theorem dX2_init_15 : decode cX2_init 15 = .ok (.newarray .int, 2) := by decide +kernel
theorem dX2_init_17 : decode cX2_init 17 = .ok (.putfield 15, 3) := by decide +kernel
theorem dX2_init_20 : decode cX2_init 20 = .ok (.aload_n 0, 1) := by decide +kernel
theorem dX2_init_21 : decode cX2_init 21 = .ok (.sipush 200, 3) := by decide +kernel
theorem dX2_init_24 : decode cX2_init 24 = .ok (.newarray .int, 2) := by decide +kernel
theorem dX2_init_26 : decode cX2_init 26 = .ok (.putfield 19, 3) := by decide +kernel
theorem dX2_init_29 : decode cX2_init 29 = .ok (.aload_n 0, 1) := by decide +kernel
theorem dX2_init_30 : decode cX2_init 30 = .ok (.bipush 100, 2) := by decide +kernel
theorem dX2_init_32 : decode cX2_init 32 = .ok (.newarray .boolean, 2) := by decide +kernel
theorem dX2_init_34 : decode cX2_init 34 = .ok (.putfield 22, 3) := by decide +kernel
theorem dX2_init_37 : decode cX2_init 37 = .ok (.aload_n 0, 1) := by decide +kernel
theorem dX2_init_38 : decode cX2_init 38 = .ok (.bipush 12, 2) := by decide +kernel
theorem dX2_init_40 : decode cX2_init 40 = .ok (.newarray .int, 2) := by decide +kernel
theorem dX2_init_42 : decode cX2_init 42 = .ok (.putfield 25, 3) := by decide +kernel
theorem dX2_init_45 : decode cX2_init 45 = .ok (.iconst 0, 1) := by decide +kernel
theorem dX2_init_46 : decode cX2_init 46 = .ok (.istore_n 1, 1) := by decide +kernel
theorem dX2_init_47 : decode cX2_init 47 = .ok (.iload_n 1, 1) := by decide +kernel
theorem dX2_init_48 : decode cX2_init 48 = .ok (.bipush 100, 2) := by decide +kernel
theorem dX2_init_50 : decode cX2_init 50 = .ok (.if_icmp .ge 17, 3) := by decide +kernel
theorem dX2_init_53 : decode cX2_init 53 = .ok (.aload_n 0, 1) := by decide +kernel
theorem dX2_init_54 : decode cX2_init 54 = .ok (.getfield 15, 3) := by decide +kernel
theorem dX2_init_57 : decode cX2_init 57 = .ok (.iload_n 1, 1) := by decide +kernel
theorem dX2_init_58 : decode cX2_init 58 = .ok (.ldc 28, 2) := by decide +kernel
theorem dX2_init_60 : decode cX2_init 60 = .ok (.iastore, 1) := by decide +kernel
theorem dX2_init_61 : decode cX2_init 61 = .ok (.iinc 1 1, 3) := by decide +kernel
theorem dX2_init_64 : decode cX2_init 64 = .ok (.goto (-17), 3) := by decide +kernel
theorem dX2_init_67 : decode cX2_init 67 = .ok (.aload_n 0, 1) := by decide +kernel
theorem dX2_init_68 : decode cX2_init 68 = .ok (.bipush 10, 2) := by decide +kernel
theorem dX2_init_70 : decode cX2_init 70 = .ok (.iconst 3, 1) := by decide +kernel
theorem dX2_init_71 : decode cX2_init 71 = .ok (.invokevirtual 29, 3) := by decide +kernel
theorem dX2_init_74 : decode cX2_init 74 = .ok (.return_, 1) := by decide +kernel
theorem dX2_putRules_0 : decode cX2_putRules 0 = .ok (.aload_n 0, 1) := by decide +kernel
theorem dX2_putRules_1 : decode cX2_putRules 1 = .ok (.iload_n 1, 1) := by decide +kernel
theorem dX2_putRules_2 : decode cX2_putRules 2 = .ok (.putfield 33, 3) := by decide +kernel
theorem dX2_putRules_5 : decode cX2_putRules 5 = .ok (.aload_n 0, 1) := by decide +kernel
theorem dX2_putRules_6 : decode cX2_putRules 6 = .ok (.iload_n 2, 1) := by decide +kernel
theorem dX2_putRules_7 : decode cX2_putRules 7 = .ok (.putfield 37, 3) := by decide +kernel
theorem dX2_putRules_10 : decode cX2_putRules 10 = .ok (.iconst 0, 1) := by decide +kernel
theorem dX2_putRules_11 : decode cX2_putRules 11 = .ok (.istore_n 3, 1) := by decide +kernel
theorem dX2_putRules_12 : decode cX2_putRules 12 = .ok (.iload_n 3, 1) := by decide +kernel
theorem dX2_putRules_13 : decode cX2_putRules 13 = .ok (.bipush 12, 2) := by decide +kernel
theorem dX2_putRules_15 : decode cX2_putRules 15 = .ok (.if_icmp .ge 30, 3) := by decide +kernel
theorem dX2_putRules_18 : decode cX2_putRules 18 = .ok (.aload_n 0, 1) := by decide +kernel
theorem dX2_putRules_19 : decode cX2_putRules 19 = .ok (.getfield 25, 3) := by decide +kernel
theorem dX2_putRules_22 : decode cX2_putRules 22 = .ok (.iload_n 3, 1) := by decide +kernel
theorem dX2_putRules_23 : decode cX2_putRules 23 = .ok (.iconst 1, 1) := by decide +kernel
theorem dX2_putRules_24 : decode cX2_putRules 24 = .ok (.aload_n 0, 1) := by decide +kernel
theorem dX2_putRules_25 : decode cX2_putRules 25 = .ok (.getfield 33, 3) := by decide +kernel
theorem dX2_putRules_28 : decode cX2_putRules 28 = .ok (.iload_n 3, 1) := by decide +kernel
theorem dX2_putRules_29 : decode cX2_putRules 29 = .ok (.aload_n 0, 1) := by decide +kernel
theorem dX2_putRules_30 : decode cX2_putRules 30 = .ok (.getfield 37, 3) := by decide +kernel
theorem dX2_putRules_33 : decode cX2_putRules 33 = .ok (.imul, 1) := by decide +kernel
theorem dX2_putRules_34 : decode cX2_putRules 34 = .ok (.isub, 1) := by decide +kernel
theorem dX2_putRules_35 : decode cX2_putRules 35 = .ok (.invokestatic 40, 3) := by decide +kernel
theorem dX2_putRules_38 : decode cX2_putRules 38 = .ok (.iastore, 1) := by decide +kernel
theorem dX2_putRules_39 : decode cX2_putRules 39 = .ok (.iinc 3 1, 3) := by decide +kernel
theorem dX2_putRules_42 : decode cX2_putRules 42 = .ok (.goto (-30), 3) := by decide +kernel
theorem dX2_putRules_45 : decode cX2_putRules 45 = .ok (.return_, 1) := by decide +kernel
theorem dX2_linesFrom_0 : decode cX2_linesFrom 0 = .ok (.iload_n 1, 1) := by decide +kernel
theorem dX2_linesFrom_1 : decode cX2_linesFrom 1 = .ok (.iload_n 2, 1) := by decide +kernel
theorem dX2_linesFrom_2 : decode cX2_linesFrom 2 = .ok (.invokestatic 46, 3) := by decide +kernel
theorem dX2_linesFrom_5 : decode cX2_linesFrom 5 = .ok (.istore_n 3, 1) := by decide +kernel
theorem dX2_linesFrom_6 : decode cX2_linesFrom 6 = .ok (.iload_n 3, 1) := by decide +kernel
theorem dX2_linesFrom_7 : decode cX2_linesFrom 7 = .ok (.ifCond .ge 7, 3) := by decide +kernel
theorem dX2_linesFrom_10 : decode cX2_linesFrom 10 = .ok (.iconst 0, 1) := by decide +kernel
theorem dX2_linesFrom_11 : decode cX2_linesFrom 11 = .ok (.goto 14, 3) := by decide +kernel
theorem dX2_linesFrom_14 : decode cX2_linesFrom 14 = .ok (.aload_n 0, 1) := by decide +kernel
theorem dX2_linesFrom_15 : decode cX2_linesFrom 15 = .ok (.getfield 19, 3) := by decide +kernel
theorem dX2_linesFrom_18 : decode cX2_linesFrom 18 = .ok (.iload_n 1, 1) := by decide +kernel
theorem dX2_linesFrom_19 : decode cX2_linesFrom 19 = .ok (.iload_n 3, 1) := by decide +kernel
theorem dX2_linesFrom_20 : decode cX2_linesFrom 20 = .ok (.iload_n 2, 1) := by decide +kernel
theorem dX2_linesFrom_21 : decode cX2_linesFrom 21 = .ok (.invokestatic 49, 3) := by decide +kernel
theorem dX2_linesFrom_24 : decode cX2_linesFrom 24 = .ok (.iaload, 1) := by decide +kernel
theorem dX2_linesFrom_25 : decode cX2_linesFrom 25 = .ok (.ireturn, 1) := by decide +kernel
theorem dX2_widthFrom_0 : decode cX2_widthFrom 0 = .ok (.aload_n 0, 1) := by decide +kernel
theorem dX2_widthFrom_1 : decode cX2_widthFrom 1 = .ok (.iload_n 1, 1) := by decide +kernel
theorem dX2_widthFrom_2 : decode cX2_widthFrom 2 = .ok (.iload_n 2, 1) := by decide +kernel
theorem dX2_widthFrom_3 : decode cX2_widthFrom 3 = .ok (.invokevirtual 53, 3) := by decide +kernel
theorem dX2_widthFrom_6 : decode cX2_widthFrom 6 = .ok (.invokestatic 56, 3) := by decide +kernel
theorem dX2_widthFrom_9 : decode cX2_widthFrom 9 = .ok (.ireturn, 1) := by decide +kernel
theorem dX2_shutPlaces_0 : decode cX2_shutPlaces 0 = .ok (.iconst 0, 1) := by decide +kernel
theorem dX2_shutPlaces_1 : decode cX2_shutPlaces 1 = .ok (.istore_n 1, 1) := by decide +kernel
theorem dX2_shutPlaces_2 : decode cX2_shutPlaces 2 = .ok (.iconst 0, 1) := by decide +kernel
theorem dX2_shutPlaces_3 : decode cX2_shutPlaces 3 = .ok (.istore_n 2, 1) := by decide +kernel
theorem dX2_shutPlaces_4 : decode cX2_shutPlaces 4 = .ok (.iload_n 2, 1) := by decide +kernel
theorem dX2_shutPlaces_5 : decode cX2_shutPlaces 5 = .ok (.bipush 100, 2) := by decide +kernel
theorem dX2_shutPlaces_7 : decode cX2_shutPlaces 7 = .ok (.if_icmp .ge 21, 3) := by decide +kernel
theorem dX2_shutPlaces_10 : decode cX2_shutPlaces 10 = .ok (.aload_n 0, 1) := by decide +kernel
theorem dX2_shutPlaces_11 : decode cX2_shutPlaces 11 = .ok (.getfield 9, 3) := by decide +kernel
theorem dX2_shutPlaces_14 : decode cX2_shutPlaces 14 = .ok (.iload_n 2, 1) := by decide +kernel
theorem dX2_shutPlaces_15 : decode cX2_shutPlaces 15 = .ok (.baload, 1) := by decide +kernel
theorem dX2_shutPlaces_16 : decode cX2_shutPlaces 16 = .ok (.ifCond .eq 6, 3) := by decide +kernel
theorem dX2_shutPlaces_19 : decode cX2_shutPlaces 19 = .ok (.iinc 1 1, 3) := by decide +kernel
theorem dX2_shutPlaces_22 : decode cX2_shutPlaces 22 = .ok (.iinc 2 1, 3) := by decide +kernel
theorem dX2_shutPlaces_25 : decode cX2_shutPlaces 25 = .ok (.goto (-21), 3) := by decide +kernel
theorem dX2_shutPlaces_28 : decode cX2_shutPlaces 28 = .ok (.iload_n 1, 1) := by decide +kernel
theorem dX2_shutPlaces_29 : decode cX2_shutPlaces 29 = .ok (.ireturn, 1) := by decide +kernel
theorem dX2_isGoneThrough_0 : decode cX2_isGoneThrough 0 = .ok (.iconst 0, 1) := by decide +kernel
theorem dX2_isGoneThrough_1 : decode cX2_isGoneThrough 1 = .ok (.istore_n 2, 1) := by decide +kernel
theorem dX2_isGoneThrough_2 : decode cX2_isGoneThrough 2 = .ok (.iconst 0, 1) := by decide +kernel
theorem dX2_isGoneThrough_3 : decode cX2_isGoneThrough 3 = .ok (.istore_n 3, 1) := by decide +kernel
theorem dX2_isGoneThrough_4 : decode cX2_isGoneThrough 4 = .ok (.iload_n 3, 1) := by decide +kernel
theorem dX2_isGoneThrough_5 : decode cX2_isGoneThrough 5 = .ok (.iconst 4, 1) := by decide +kernel
theorem dX2_isGoneThrough_6 : decode cX2_isGoneThrough 6 = .ok (.if_icmp .ge 18, 3) := by decide +kernel
theorem dX2_isGoneThrough_9 : decode cX2_isGoneThrough 9 = .ok (.iload_n 2, 1) := by decide +kernel
theorem dX2_isGoneThrough_10 : decode cX2_isGoneThrough 10 = .ok (.aload_n 0, 1) := by decide +kernel
theorem dX2_isGoneThrough_11 : decode cX2_isGoneThrough 11 = .ok (.iload_n 1, 1) := by decide +kernel
theorem dX2_isGoneThrough_12 : decode cX2_isGoneThrough 12 = .ok (.iload_n 3, 1) := by decide +kernel
theorem dX2_isGoneThrough_13 : decode cX2_isGoneThrough 13 = .ok (.invokevirtual 53, 3) := by decide +kernel
theorem dX2_isGoneThrough_16 : decode cX2_isGoneThrough 16 = .ok (.ior, 1) := by decide +kernel
theorem dX2_isGoneThrough_17 : decode cX2_isGoneThrough 17 = .ok (.istore_n 2, 1) := by decide +kernel
theorem dX2_isGoneThrough_18 : decode cX2_isGoneThrough 18 = .ok (.iinc 3 1, 3) := by decide +kernel
theorem dX2_isGoneThrough_21 : decode cX2_isGoneThrough 21 = .ok (.goto (-17), 3) := by decide +kernel
theorem dX2_isGoneThrough_24 : decode cX2_isGoneThrough 24 = .ok (.iload_n 2, 1) := by decide +kernel
theorem dX2_isGoneThrough_25 : decode cX2_isGoneThrough 25 = .ok (.ifCond .eq 7, 3) := by decide +kernel
theorem dX2_isGoneThrough_28 : decode cX2_isGoneThrough 28 = .ok (.iconst 1, 1) := by decide +kernel
theorem dX2_isGoneThrough_29 : decode cX2_isGoneThrough 29 = .ok (.goto 4, 3) := by decide +kernel
theorem dX2_isGoneThrough_32 : decode cX2_isGoneThrough 32 = .ok (.iconst 0, 1) := by decide +kernel
theorem dX2_isGoneThrough_33 : decode cX2_isGoneThrough 33 = .ok (.ireturn, 1) := by decide +kernel
theorem dX2_isWay_0 : decode cX2_isWay 0 = .ok (.iconst 0, 1) := by decide +kernel
theorem dX2_isWay_1 : decode cX2_isWay 1 = .ok (.istore 5, 2) := by decide +kernel
theorem dX2_isWay_3 : decode cX2_isWay 3 = .ok (.iload 5, 2) := by decide +kernel
theorem dX2_isWay_5 : decode cX2_isWay 5 = .ok (.bipush 100, 2) := by decide +kernel
theorem dX2_isWay_7 : decode cX2_isWay 7 = .ok (.if_icmp .ge 23, 3) := by decide +kernel
theorem dX2_isWay_10 : decode cX2_isWay 10 = .ok (.aload_n 0, 1) := by decide +kernel
theorem dX2_isWay_11 : decode cX2_isWay 11 = .ok (.getfield 22, 3) := by decide +kernel
theorem dX2_isWay_14 : decode cX2_isWay 14 = .ok (.iload 5, 2) := by decide +kernel
theorem dX2_isWay_16 : decode cX2_isWay 16 = .ok (.aload_n 0, 1) := by decide +kernel
theorem dX2_isWay_17 : decode cX2_isWay 17 = .ok (.getfield 9, 3) := by decide +kernel
theorem dX2_isWay_20 : decode cX2_isWay 20 = .ok (.iload 5, 2) := by decide +kernel
theorem dX2_isWay_22 : decode cX2_isWay 22 = .ok (.baload, 1) := by decide +kernel
theorem dX2_isWay_23 : decode cX2_isWay 23 = .ok (.bastore, 1) := by decide +kernel
theorem dX2_isWay_24 : decode cX2_isWay 24 = .ok (.iinc 5 1, 3) := by decide +kernel
theorem dX2_isWay_27 : decode cX2_isWay 27 = .ok (.goto (-24), 3) := by decide +kernel
theorem dX2_isWay_30 : decode cX2_isWay 30 = .ok (.aload_n 1, 1) := by decide +kernel
theorem dX2_isWay_31 : decode cX2_isWay 31 = .ok (.getfield 62, 3) := by decide +kernel
theorem dX2_isWay_34 : decode cX2_isWay 34 = .ok (.istore 5, 2) := by decide +kernel
theorem dX2_isWay_36 : decode cX2_isWay 36 = .ok (.aload_n 0, 1) := by decide +kernel
theorem dX2_isWay_37 : decode cX2_isWay 37 = .ok (.getfield 22, 3) := by decide +kernel
theorem dX2_isWay_40 : decode cX2_isWay 40 = .ok (.iload 5, 2) := by decide +kernel
theorem dX2_isWay_42 : decode cX2_isWay 42 = .ok (.iconst 1, 1) := by decide +kernel
theorem dX2_isWay_43 : decode cX2_isWay 43 = .ok (.bastore, 1) := by decide +kernel
theorem dX2_isWay_44 : decode cX2_isWay 44 = .ok (.iload_n 3, 1) := by decide +kernel
theorem dX2_isWay_45 : decode cX2_isWay 45 = .ok (.istore 6, 2) := by decide +kernel
theorem dX2_isWay_47 : decode cX2_isWay 47 = .ok (.iload 6, 2) := by decide +kernel
theorem dX2_isWay_49 : decode cX2_isWay 49 = .ok (.iload_n 3, 1) := by decide +kernel
theorem dX2_isWay_50 : decode cX2_isWay 50 = .ok (.iload 4, 2) := by decide +kernel
theorem dX2_isWay_52 : decode cX2_isWay 52 = .ok (.iadd, 1) := by decide +kernel
theorem dX2_isWay_53 : decode cX2_isWay 53 = .ok (.if_icmp .ge 59, 3) := by decide +kernel
theorem dX2_isWay_56 : decode cX2_isWay 56 = .ok (.aload_n 2, 1) := by decide +kernel
theorem dX2_isWay_57 : decode cX2_isWay 57 = .ok (.iload 6, 2) := by decide +kernel
theorem dX2_isWay_59 : decode cX2_isWay 59 = .ok (.iaload, 1) := by decide +kernel
theorem dX2_isWay_60 : decode cX2_isWay 60 = .ok (.invokestatic 67, 3) := by decide +kernel
theorem dX2_isWay_63 : decode cX2_isWay 63 = .ok (.ifCond .eq 15, 3) := by decide +kernel
theorem dX2_isWay_66 : decode cX2_isWay 66 = .ok (.iload 5, 2) := by decide +kernel
theorem dX2_isWay_68 : decode cX2_isWay 68 = .ok (.aload_n 2, 1) := by decide +kernel
theorem dX2_isWay_69 : decode cX2_isWay 69 = .ok (.iload 6, 2) := by decide +kernel
theorem dX2_isWay_71 : decode cX2_isWay 71 = .ok (.iaload, 1) := by decide +kernel
theorem dX2_isWay_72 : decode cX2_isWay 72 = .ok (.invokestatic 46, 3) := by decide +kernel
theorem dX2_isWay_75 : decode cX2_isWay 75 = .ok (.goto 4, 3) := by decide +kernel
theorem dX2_isWay_78 : decode cX2_isWay 78 = .ok (.iconst (-1), 1) := by decide +kernel
theorem dX2_isWay_79 : decode cX2_isWay 79 = .ok (.istore 5, 2) := by decide +kernel
theorem dX2_isWay_81 : decode cX2_isWay 81 = .ok (.iload 5, 2) := by decide +kernel
theorem dX2_isWay_83 : decode cX2_isWay 83 = .ok (.ifCond .lt 13, 3) := by decide +kernel
theorem dX2_isWay_86 : decode cX2_isWay 86 = .ok (.aload_n 0, 1) := by decide +kernel
theorem dX2_isWay_87 : decode cX2_isWay 87 = .ok (.getfield 22, 3) := by decide +kernel
theorem dX2_isWay_90 : decode cX2_isWay 90 = .ok (.iload 5, 2) := by decide +kernel
theorem dX2_isWay_92 : decode cX2_isWay 92 = .ok (.baload, 1) := by decide +kernel
theorem dX2_isWay_93 : decode cX2_isWay 93 = .ok (.ifCond .eq 5, 3) := by decide +kernel
theorem dX2_isWay_96 : decode cX2_isWay 96 = .ok (.iconst 0, 1) := by decide +kernel
theorem dX2_isWay_97 : decode cX2_isWay 97 = .ok (.ireturn, 1) := by decide +kernel
theorem dX2_isWay_98 : decode cX2_isWay 98 = .ok (.aload_n 0, 1) := by decide +kernel
theorem dX2_isWay_99 : decode cX2_isWay 99 = .ok (.getfield 22, 3) := by decide +kernel
theorem dX2_isWay_102 : decode cX2_isWay 102 = .ok (.iload 5, 2) := by decide +kernel
theorem dX2_isWay_104 : decode cX2_isWay 104 = .ok (.iconst 1, 1) := by decide +kernel
theorem dX2_isWay_105 : decode cX2_isWay 105 = .ok (.bastore, 1) := by decide +kernel
theorem dX2_isWay_106 : decode cX2_isWay 106 = .ok (.iinc 6 1, 3) := by decide +kernel
theorem dX2_isWay_109 : decode cX2_isWay 109 = .ok (.goto (-62), 3) := by decide +kernel
theorem dX2_isWay_112 : decode cX2_isWay 112 = .ok (.iload 5, 2) := by decide +kernel
theorem dX2_isWay_114 : decode cX2_isWay 114 = .ok (.aload_n 1, 1) := by decide +kernel
theorem dX2_isWay_115 : decode cX2_isWay 115 = .ok (.getfield 71, 3) := by decide +kernel
theorem dX2_isWay_118 : decode cX2_isWay 118 = .ok (.if_icmp .ne 7, 3) := by decide +kernel
theorem dX2_isWay_121 : decode cX2_isWay 121 = .ok (.iconst 1, 1) := by decide +kernel
theorem dX2_isWay_122 : decode cX2_isWay 122 = .ok (.goto 4, 3) := by decide +kernel
theorem dX2_isWay_125 : decode cX2_isWay 125 = .ok (.iconst 0, 1) := by decide +kernel
theorem dX2_isWay_126 : decode cX2_isWay 126 = .ok (.ireturn, 1) := by decide +kernel
theorem dX2_giveWay_0 : decode cX2_giveWay 0 = .ok (.aload_n 0, 1) := by decide +kernel
theorem dX2_giveWay_1 : decode cX2_giveWay 1 = .ok (.aload_n 1, 1) := by decide +kernel
theorem dX2_giveWay_2 : decode cX2_giveWay 2 = .ok (.invokevirtual 74, 3) := by decide +kernel
theorem dX2_giveWay_5 : decode cX2_giveWay 5 = .ok (.aload_n 2, 1) := by decide +kernel
theorem dX2_giveWay_6 : decode cX2_giveWay 6 = .ok (.iload_n 3, 1) := by decide +kernel
theorem dX2_giveWay_7 : decode cX2_giveWay 7 = .ok (.aload_n 1, 1) := by decide +kernel
theorem dX2_giveWay_8 : decode cX2_giveWay 8 = .ok (.getfield 78, 3) := by decide +kernel
theorem dX2_giveWay_11 : decode cX2_giveWay 11 = .ok (.iconst 0, 1) := by decide +kernel
theorem dX2_giveWay_12 : decode cX2_giveWay 12 = .ok (.iload 4, 2) := by decide +kernel
theorem dX2_giveWay_14 : decode cX2_giveWay 14 = .ok (.invokestatic 81, 3) := by decide +kernel
theorem dX2_giveWay_17 : decode cX2_giveWay 17 = .ok (.aload_n 1, 1) := by decide +kernel
theorem dX2_giveWay_18 : decode cX2_giveWay 18 = .ok (.iload 4, 2) := by decide +kernel
theorem dX2_giveWay_20 : decode cX2_giveWay 20 = .ok (.putfield 87, 3) := by decide +kernel
theorem dX2_giveWay_23 : decode cX2_giveWay 23 = .ok (.aload_n 0, 1) := by decide +kernel
theorem dX2_giveWay_24 : decode cX2_giveWay 24 = .ok (.aload_n 1, 1) := by decide +kernel
theorem dX2_giveWay_25 : decode cX2_giveWay 25 = .ok (.invokevirtual 90, 3) := by decide +kernel
theorem dX2_giveWay_28 : decode cX2_giveWay 28 = .ok (.return_, 1) := by decide +kernel
theorem dX2_lift_0 : decode cX2_lift 0 = .ok (.aload_n 0, 1) := by decide +kernel
theorem dX2_lift_1 : decode cX2_lift 1 = .ok (.aload_n 1, 1) := by decide +kernel
theorem dX2_lift_2 : decode cX2_lift 2 = .ok (.invokevirtual 90, 3) := by decide +kernel
theorem dX2_lift_5 : decode cX2_lift 5 = .ok (.aload_n 1, 1) := by decide +kernel
theorem dX2_lift_6 : decode cX2_lift 6 = .ok (.iconst 0, 1) := by decide +kernel
theorem dX2_lift_7 : decode cX2_lift 7 = .ok (.putfield 87, 3) := by decide +kernel
theorem dX2_lift_10 : decode cX2_lift 10 = .ok (.return_, 1) := by decide +kernel
theorem dX2_flipAlong_0 : decode cX2_flipAlong 0 = .ok (.aload_n 1, 1) := by decide +kernel
theorem dX2_flipAlong_1 : decode cX2_flipAlong 1 = .ok (.getfield 62, 3) := by decide +kernel
theorem dX2_flipAlong_4 : decode cX2_flipAlong 4 = .ok (.istore_n 2, 1) := by decide +kernel
theorem dX2_flipAlong_5 : decode cX2_flipAlong 5 = .ok (.iconst 0, 1) := by decide +kernel
theorem dX2_flipAlong_6 : decode cX2_flipAlong 6 = .ok (.istore_n 3, 1) := by decide +kernel
theorem dX2_flipAlong_7 : decode cX2_flipAlong 7 = .ok (.iload_n 3, 1) := by decide +kernel
theorem dX2_flipAlong_8 : decode cX2_flipAlong 8 = .ok (.aload_n 1, 1) := by decide +kernel
theorem dX2_flipAlong_9 : decode cX2_flipAlong 9 = .ok (.getfield 87, 3) := by decide +kernel
theorem dX2_flipAlong_12 : decode cX2_flipAlong 12 = .ok (.if_icmp .ge 48, 3) := by decide +kernel
theorem dX2_flipAlong_15 : decode cX2_flipAlong 15 = .ok (.iload_n 2, 1) := by decide +kernel
theorem dX2_flipAlong_16 : decode cX2_flipAlong 16 = .ok (.aload_n 1, 1) := by decide +kernel
theorem dX2_flipAlong_17 : decode cX2_flipAlong 17 = .ok (.getfield 78, 3) := by decide +kernel
theorem dX2_flipAlong_20 : decode cX2_flipAlong 20 = .ok (.iload_n 3, 1) := by decide +kernel
theorem dX2_flipAlong_21 : decode cX2_flipAlong 21 = .ok (.iaload, 1) := by decide +kernel
theorem dX2_flipAlong_22 : decode cX2_flipAlong 22 = .ok (.invokestatic 46, 3) := by decide +kernel
theorem dX2_flipAlong_25 : decode cX2_flipAlong 25 = .ok (.istore 4, 2) := by decide +kernel
theorem dX2_flipAlong_27 : decode cX2_flipAlong 27 = .ok (.aload_n 0, 1) := by decide +kernel
theorem dX2_flipAlong_28 : decode cX2_flipAlong 28 = .ok (.getfield 19, 3) := by decide +kernel
theorem dX2_flipAlong_31 : decode cX2_flipAlong 31 = .ok (.iload_n 2, 1) := by decide +kernel
theorem dX2_flipAlong_32 : decode cX2_flipAlong 32 = .ok (.iload 4, 2) := by decide +kernel
theorem dX2_flipAlong_34 : decode cX2_flipAlong 34 = .ok (.aload_n 1, 1) := by decide +kernel
theorem dX2_flipAlong_35 : decode cX2_flipAlong 35 = .ok (.getfield 78, 3) := by decide +kernel
theorem dX2_flipAlong_38 : decode cX2_flipAlong 38 = .ok (.iload_n 3, 1) := by decide +kernel
theorem dX2_flipAlong_39 : decode cX2_flipAlong 39 = .ok (.iaload, 1) := by decide +kernel
theorem dX2_flipAlong_40 : decode cX2_flipAlong 40 = .ok (.invokestatic 49, 3) := by decide +kernel
theorem dX2_flipAlong_43 : decode cX2_flipAlong 43 = .ok (.dup2, 1) := by decide +kernel
theorem dX2_flipAlong_44 : decode cX2_flipAlong 44 = .ok (.iaload, 1) := by decide +kernel
theorem dX2_flipAlong_45 : decode cX2_flipAlong 45 = .ok (.aload_n 1, 1) := by decide +kernel
theorem dX2_flipAlong_46 : decode cX2_flipAlong 46 = .ok (.getfield 93, 3) := by decide +kernel
theorem dX2_flipAlong_49 : decode cX2_flipAlong 49 = .ok (.ixor, 1) := by decide +kernel
theorem dX2_flipAlong_50 : decode cX2_flipAlong 50 = .ok (.iastore, 1) := by decide +kernel
theorem dX2_flipAlong_51 : decode cX2_flipAlong 51 = .ok (.iload 4, 2) := by decide +kernel
theorem dX2_flipAlong_53 : decode cX2_flipAlong 53 = .ok (.istore_n 2, 1) := by decide +kernel
theorem dX2_flipAlong_54 : decode cX2_flipAlong 54 = .ok (.iinc 3 1, 3) := by decide +kernel
theorem dX2_flipAlong_57 : decode cX2_flipAlong 57 = .ok (.goto (-50), 3) := by decide +kernel
theorem dX2_flipAlong_60 : decode cX2_flipAlong 60 = .ok (.return_, 1) := by decide +kernel
theorem dX2_costAmongOthers_0 : decode cX2_costAmongOthers 0 = .ok (.iconst 0, 1) := by decide +kernel
theorem dX2_costAmongOthers_1 : decode cX2_costAmongOthers 1 = .ok (.istore_n 2, 1) := by decide +kernel
theorem dX2_costAmongOthers_2 : decode cX2_costAmongOthers 2 = .ok (.iconst 0, 1) := by decide +kernel
theorem dX2_costAmongOthers_3 : decode cX2_costAmongOthers 3 = .ok (.istore_n 3, 1) := by decide +kernel
theorem dX2_costAmongOthers_4 : decode cX2_costAmongOthers 4 = .ok (.iload_n 3, 1) := by decide +kernel
theorem dX2_costAmongOthers_5 : decode cX2_costAmongOthers 5 = .ok (.sipush 200, 3) := by decide +kernel
theorem dX2_costAmongOthers_8 : decode cX2_costAmongOthers 8 = .ok (.if_icmp .ge 42, 3) := by decide +kernel
theorem dX2_costAmongOthers_11 : decode cX2_costAmongOthers 11 = .ok (.aload_n 0, 1) := by decide +kernel
theorem dX2_costAmongOthers_12 : decode cX2_costAmongOthers 12 = .ok (.getfield 19, 3) := by decide +kernel
theorem dX2_costAmongOthers_15 : decode cX2_costAmongOthers 15 = .ok (.iload_n 3, 1) := by decide +kernel
theorem dX2_costAmongOthers_16 : decode cX2_costAmongOthers 16 = .ok (.iaload, 1) := by decide +kernel
theorem dX2_costAmongOthers_17 : decode cX2_costAmongOthers 17 = .ok (.aload_n 1, 1) := by decide +kernel
theorem dX2_costAmongOthers_18 : decode cX2_costAmongOthers 18 = .ok (.getfield 93, 3) := by decide +kernel
theorem dX2_costAmongOthers_21 : decode cX2_costAmongOthers 21 = .ok (.iand, 1) := by decide +kernel
theorem dX2_costAmongOthers_22 : decode cX2_costAmongOthers 22 = .ok (.ifCond .eq 22, 3) := by decide +kernel
theorem dX2_costAmongOthers_25 : decode cX2_costAmongOthers 25 = .ok (.iload_n 2, 1) := by decide +kernel
theorem dX2_costAmongOthers_26 : decode cX2_costAmongOthers 26 = .ok (.aload_n 0, 1) := by decide +kernel
theorem dX2_costAmongOthers_27 : decode cX2_costAmongOthers 27 = .ok (.getfield 25, 3) := by decide +kernel
theorem dX2_costAmongOthers_30 : decode cX2_costAmongOthers 30 = .ok (.aload_n 0, 1) := by decide +kernel
theorem dX2_costAmongOthers_31 : decode cX2_costAmongOthers 31 = .ok (.getfield 19, 3) := by decide +kernel
theorem dX2_costAmongOthers_34 : decode cX2_costAmongOthers 34 = .ok (.iload_n 3, 1) := by decide +kernel
theorem dX2_costAmongOthers_35 : decode cX2_costAmongOthers 35 = .ok (.iaload, 1) := by decide +kernel
theorem dX2_costAmongOthers_36 : decode cX2_costAmongOthers 36 = .ok (.invokestatic 56, 3) := by decide +kernel
theorem dX2_costAmongOthers_39 : decode cX2_costAmongOthers 39 = .ok (.iconst 1, 1) := by decide +kernel
theorem dX2_costAmongOthers_40 : decode cX2_costAmongOthers 40 = .ok (.isub, 1) := by decide +kernel
theorem dX2_costAmongOthers_41 : decode cX2_costAmongOthers 41 = .ok (.iaload, 1) := by decide +kernel
theorem dX2_costAmongOthers_42 : decode cX2_costAmongOthers 42 = .ok (.iadd, 1) := by decide +kernel
theorem dX2_costAmongOthers_43 : decode cX2_costAmongOthers 43 = .ok (.istore_n 2, 1) := by decide +kernel
theorem dX2_costAmongOthers_44 : decode cX2_costAmongOthers 44 = .ok (.iinc 3 1, 3) := by decide +kernel
theorem dX2_costAmongOthers_47 : decode cX2_costAmongOthers 47 = .ok (.goto (-43), 3) := by decide +kernel
theorem dX2_costAmongOthers_50 : decode cX2_costAmongOthers 50 = .ok (.iload_n 2, 1) := by decide +kernel
theorem dX2_costAmongOthers_51 : decode cX2_costAmongOthers 51 = .ok (.ireturn, 1) := by decide +kernel
theorem dX2_sidesWithAll_0 : decode cX2_sidesWithAll 0 = .ok (.iconst 0, 1) := by decide +kernel
theorem dX2_sidesWithAll_1 : decode cX2_sidesWithAll 1 = .ok (.istore_n 2, 1) := by decide +kernel
theorem dX2_sidesWithAll_2 : decode cX2_sidesWithAll 2 = .ok (.iconst 0, 1) := by decide +kernel
theorem dX2_sidesWithAll_3 : decode cX2_sidesWithAll 3 = .ok (.istore_n 3, 1) := by decide +kernel
theorem dX2_sidesWithAll_4 : decode cX2_sidesWithAll 4 = .ok (.iload_n 3, 1) := by decide +kernel
theorem dX2_sidesWithAll_5 : decode cX2_sidesWithAll 5 = .ok (.sipush 200, 3) := by decide +kernel
theorem dX2_sidesWithAll_8 : decode cX2_sidesWithAll 8 = .ok (.if_icmp .ge 24, 3) := by decide +kernel
theorem dX2_sidesWithAll_11 : decode cX2_sidesWithAll 11 = .ok (.aload_n 0, 1) := by decide +kernel
theorem dX2_sidesWithAll_12 : decode cX2_sidesWithAll 12 = .ok (.getfield 19, 3) := by decide +kernel
theorem dX2_sidesWithAll_15 : decode cX2_sidesWithAll 15 = .ok (.iload_n 3, 1) := by decide +kernel
theorem dX2_sidesWithAll_16 : decode cX2_sidesWithAll 16 = .ok (.iaload, 1) := by decide +kernel
theorem dX2_sidesWithAll_17 : decode cX2_sidesWithAll 17 = .ok (.iload_n 1, 1) := by decide +kernel
theorem dX2_sidesWithAll_18 : decode cX2_sidesWithAll 18 = .ok (.iand, 1) := by decide +kernel
theorem dX2_sidesWithAll_19 : decode cX2_sidesWithAll 19 = .ok (.iload_n 1, 1) := by decide +kernel
theorem dX2_sidesWithAll_20 : decode cX2_sidesWithAll 20 = .ok (.if_icmp .ne 6, 3) := by decide +kernel
theorem dX2_sidesWithAll_23 : decode cX2_sidesWithAll 23 = .ok (.iinc 2 1, 3) := by decide +kernel
theorem dX2_sidesWithAll_26 : decode cX2_sidesWithAll 26 = .ok (.iinc 3 1, 3) := by decide +kernel
theorem dX2_sidesWithAll_29 : decode cX2_sidesWithAll 29 = .ok (.goto (-25), 3) := by decide +kernel
theorem dX2_sidesWithAll_32 : decode cX2_sidesWithAll 32 = .ok (.iload_n 2, 1) := by decide +kernel
theorem dX2_sidesWithAll_33 : decode cX2_sidesWithAll 33 = .ok (.ireturn, 1) := by decide +kernel
theorem dX2_sidesWithOthers_0 : decode cX2_sidesWithOthers 0 = .ok (.iconst 0, 1) := by decide +kernel
theorem dX2_sidesWithOthers_1 : decode cX2_sidesWithOthers 1 = .ok (.istore_n 2, 1) := by decide +kernel
theorem dX2_sidesWithOthers_2 : decode cX2_sidesWithOthers 2 = .ok (.iconst 0, 1) := by decide +kernel
theorem dX2_sidesWithOthers_3 : decode cX2_sidesWithOthers 3 = .ok (.istore_n 3, 1) := by decide +kernel
theorem dX2_sidesWithOthers_4 : decode cX2_sidesWithOthers 4 = .ok (.iload_n 3, 1) := by decide +kernel
theorem dX2_sidesWithOthers_5 : decode cX2_sidesWithOthers 5 = .ok (.sipush 200, 3) := by decide +kernel
theorem dX2_sidesWithOthers_8 : decode cX2_sidesWithOthers 8 = .ok (.if_icmp .ge 39, 3) := by decide +kernel
theorem dX2_sidesWithOthers_11 : decode cX2_sidesWithOthers 11 = .ok (.aload_n 0, 1) := by decide +kernel
theorem dX2_sidesWithOthers_12 : decode cX2_sidesWithOthers 12 = .ok (.getfield 19, 3) := by decide +kernel
theorem dX2_sidesWithOthers_15 : decode cX2_sidesWithOthers 15 = .ok (.iload_n 3, 1) := by decide +kernel
theorem dX2_sidesWithOthers_16 : decode cX2_sidesWithOthers 16 = .ok (.iaload, 1) := by decide +kernel
theorem dX2_sidesWithOthers_17 : decode cX2_sidesWithOthers 17 = .ok (.aload_n 1, 1) := by decide +kernel
theorem dX2_sidesWithOthers_18 : decode cX2_sidesWithOthers 18 = .ok (.getfield 93, 3) := by decide +kernel
theorem dX2_sidesWithOthers_21 : decode cX2_sidesWithOthers 21 = .ok (.iand, 1) := by decide +kernel
theorem dX2_sidesWithOthers_22 : decode cX2_sidesWithOthers 22 = .ok (.ifCond .eq 19, 3) := by decide +kernel
theorem dX2_sidesWithOthers_25 : decode cX2_sidesWithOthers 25 = .ok (.aload_n 0, 1) := by decide +kernel
theorem dX2_sidesWithOthers_26 : decode cX2_sidesWithOthers 26 = .ok (.getfield 19, 3) := by decide +kernel
theorem dX2_sidesWithOthers_29 : decode cX2_sidesWithOthers 29 = .ok (.iload_n 3, 1) := by decide +kernel
theorem dX2_sidesWithOthers_30 : decode cX2_sidesWithOthers 30 = .ok (.iaload, 1) := by decide +kernel
theorem dX2_sidesWithOthers_31 : decode cX2_sidesWithOthers 31 = .ok (.aload_n 1, 1) := by decide +kernel
theorem dX2_sidesWithOthers_32 : decode cX2_sidesWithOthers 32 = .ok (.getfield 93, 3) := by decide +kernel
theorem dX2_sidesWithOthers_35 : decode cX2_sidesWithOthers 35 = .ok (.if_icmp .eq 6, 3) := by decide +kernel
theorem dX2_sidesWithOthers_38 : decode cX2_sidesWithOthers 38 = .ok (.iinc 2 1, 3) := by decide +kernel
theorem dX2_sidesWithOthers_41 : decode cX2_sidesWithOthers 41 = .ok (.iinc 3 1, 3) := by decide +kernel
theorem dX2_sidesWithOthers_44 : decode cX2_sidesWithOthers 44 = .ok (.goto (-40), 3) := by decide +kernel
theorem dX2_sidesWithOthers_47 : decode cX2_sidesWithOthers 47 = .ok (.iload_n 2, 1) := by decide +kernel
theorem dX2_sidesWithOthers_48 : decode cX2_sidesWithOthers 48 = .ok (.ireturn, 1) := by decide +kernel
theorem dX2_kindOf_0 : decode cX2_kindOf 0 = .ok (.aload_n 1, 1) := by decide +kernel
theorem dX2_kindOf_1 : decode cX2_kindOf 1 = .ok (.invokevirtual 96, 3) := by decide +kernel
theorem dX2_kindOf_4 : decode cX2_kindOf 4 = .ok (.ifCond .ne 6, 3) := by decide +kernel
theorem dX2_kindOf_7 : decode cX2_kindOf 7 = .ok (.ldc 28, 2) := by decide +kernel
theorem dX2_kindOf_9 : decode cX2_kindOf 9 = .ok (.ireturn, 1) := by decide +kernel
theorem dX2_kindOf_10 : decode cX2_kindOf 10 = .ok (.aload_n 0, 1) := by decide +kernel
theorem dX2_kindOf_11 : decode cX2_kindOf 11 = .ok (.aload_n 1, 1) := by decide +kernel
theorem dX2_kindOf_12 : decode cX2_kindOf 12 = .ok (.invokevirtual 100, 3) := by decide +kernel
theorem dX2_kindOf_15 : decode cX2_kindOf 15 = .ok (.istore_n 2, 1) := by decide +kernel
theorem dX2_kindOf_16 : decode cX2_kindOf 16 = .ok (.iload_n 2, 1) := by decide +kernel
theorem dX2_kindOf_17 : decode cX2_kindOf 17 = .ok (.ifCond .ne 5, 3) := by decide +kernel
theorem dX2_kindOf_20 : decode cX2_kindOf 20 = .ok (.iconst 1, 1) := by decide +kernel
theorem dX2_kindOf_21 : decode cX2_kindOf 21 = .ok (.ireturn, 1) := by decide +kernel
theorem dX2_kindOf_22 : decode cX2_kindOf 22 = .ok (.iload_n 2, 1) := by decide +kernel
theorem dX2_kindOf_23 : decode cX2_kindOf 23 = .ok (.aload_n 1, 1) := by decide +kernel
theorem dX2_kindOf_24 : decode cX2_kindOf 24 = .ok (.getfield 87, 3) := by decide +kernel
theorem dX2_kindOf_27 : decode cX2_kindOf 27 = .ok (.if_icmp .ne 7, 3) := by decide +kernel
theorem dX2_kindOf_30 : decode cX2_kindOf 30 = .ok (.iconst 2, 1) := by decide +kernel
theorem dX2_kindOf_31 : decode cX2_kindOf 31 = .ok (.goto 4, 3) := by decide +kernel
theorem dX2_kindOf_34 : decode cX2_kindOf 34 = .ok (.iconst 3, 1) := by decide +kernel
theorem dX2_kindOf_35 : decode cX2_kindOf 35 = .ok (.ireturn, 1) := by decide +kernel
theorem dX2_costOfAll_0 : decode cX2_costOfAll 0 = .ok (.iconst 0, 1) := by decide +kernel
theorem dX2_costOfAll_1 : decode cX2_costOfAll 1 = .ok (.istore_n 1, 1) := by decide +kernel
theorem dX2_costOfAll_2 : decode cX2_costOfAll 2 = .ok (.iconst 0, 1) := by decide +kernel
theorem dX2_costOfAll_3 : decode cX2_costOfAll 3 = .ok (.istore_n 2, 1) := by decide +kernel
theorem dX2_costOfAll_4 : decode cX2_costOfAll 4 = .ok (.iload_n 2, 1) := by decide +kernel
theorem dX2_costOfAll_5 : decode cX2_costOfAll 5 = .ok (.sipush 200, 3) := by decide +kernel
theorem dX2_costOfAll_8 : decode cX2_costOfAll 8 = .ok (.if_icmp .ge 44, 3) := by decide +kernel
theorem dX2_costOfAll_11 : decode cX2_costOfAll 11 = .ok (.aload_n 0, 1) := by decide +kernel
theorem dX2_costOfAll_12 : decode cX2_costOfAll 12 = .ok (.getfield 19, 3) := by decide +kernel
theorem dX2_costOfAll_15 : decode cX2_costOfAll 15 = .ok (.iload_n 2, 1) := by decide +kernel
theorem dX2_costOfAll_16 : decode cX2_costOfAll 16 = .ok (.iaload, 1) := by decide +kernel
theorem dX2_costOfAll_17 : decode cX2_costOfAll 17 = .ok (.invokestatic 56, 3) := by decide +kernel
theorem dX2_costOfAll_20 : decode cX2_costOfAll 20 = .ok (.istore_n 3, 1) := by decide +kernel
theorem dX2_costOfAll_21 : decode cX2_costOfAll 21 = .ok (.iconst 0, 1) := by decide +kernel
theorem dX2_costOfAll_22 : decode cX2_costOfAll 22 = .ok (.istore 4, 2) := by decide +kernel
theorem dX2_costOfAll_24 : decode cX2_costOfAll 24 = .ok (.iload 4, 2) := by decide +kernel
theorem dX2_costOfAll_26 : decode cX2_costOfAll 26 = .ok (.iload_n 3, 1) := by decide +kernel
theorem dX2_costOfAll_27 : decode cX2_costOfAll 27 = .ok (.if_icmp .ge 19, 3) := by decide +kernel
theorem dX2_costOfAll_30 : decode cX2_costOfAll 30 = .ok (.iload_n 1, 1) := by decide +kernel
theorem dX2_costOfAll_31 : decode cX2_costOfAll 31 = .ok (.aload_n 0, 1) := by decide +kernel
theorem dX2_costOfAll_32 : decode cX2_costOfAll 32 = .ok (.getfield 25, 3) := by decide +kernel
theorem dX2_costOfAll_35 : decode cX2_costOfAll 35 = .ok (.iload 4, 2) := by decide +kernel
theorem dX2_costOfAll_37 : decode cX2_costOfAll 37 = .ok (.iaload, 1) := by decide +kernel
theorem dX2_costOfAll_38 : decode cX2_costOfAll 38 = .ok (.iadd, 1) := by decide +kernel
theorem dX2_costOfAll_39 : decode cX2_costOfAll 39 = .ok (.istore_n 1, 1) := by decide +kernel
theorem dX2_costOfAll_40 : decode cX2_costOfAll 40 = .ok (.iinc 4 1, 3) := by decide +kernel
theorem dX2_costOfAll_43 : decode cX2_costOfAll 43 = .ok (.goto (-19), 3) := by decide +kernel
theorem dX2_costOfAll_46 : decode cX2_costOfAll 46 = .ok (.iinc 2 1, 3) := by decide +kernel
theorem dX2_costOfAll_49 : decode cX2_costOfAll 49 = .ok (.goto (-45), 3) := by decide +kernel
theorem dX2_costOfAll_52 : decode cX2_costOfAll 52 = .ok (.iload_n 1, 1) := by decide +kernel
theorem dX2_costOfAll_53 : decode cX2_costOfAll 53 = .ok (.ireturn, 1) := by decide +kernel
theorem dX2_usedSides_0 : decode cX2_usedSides 0 = .ok (.iconst 0, 1) := by decide +kernel
theorem dX2_usedSides_1 : decode cX2_usedSides 1 = .ok (.istore_n 1, 1) := by decide +kernel
theorem dX2_usedSides_2 : decode cX2_usedSides 2 = .ok (.iconst 0, 1) := by decide +kernel
theorem dX2_usedSides_3 : decode cX2_usedSides 3 = .ok (.istore_n 2, 1) := by decide +kernel
theorem dX2_usedSides_4 : decode cX2_usedSides 4 = .ok (.iload_n 2, 1) := by decide +kernel
theorem dX2_usedSides_5 : decode cX2_usedSides 5 = .ok (.sipush 200, 3) := by decide +kernel
theorem dX2_usedSides_8 : decode cX2_usedSides 8 = .ok (.if_icmp .ge 21, 3) := by decide +kernel
theorem dX2_usedSides_11 : decode cX2_usedSides 11 = .ok (.aload_n 0, 1) := by decide +kernel
theorem dX2_usedSides_12 : decode cX2_usedSides 12 = .ok (.getfield 19, 3) := by decide +kernel
theorem dX2_usedSides_15 : decode cX2_usedSides 15 = .ok (.iload_n 2, 1) := by decide +kernel
theorem dX2_usedSides_16 : decode cX2_usedSides 16 = .ok (.iaload, 1) := by decide +kernel
theorem dX2_usedSides_17 : decode cX2_usedSides 17 = .ok (.ifCond .eq 6, 3) := by decide +kernel
theorem dX2_usedSides_20 : decode cX2_usedSides 20 = .ok (.iinc 1 1, 3) := by decide +kernel
theorem dX2_usedSides_23 : decode cX2_usedSides 23 = .ok (.iinc 2 1, 3) := by decide +kernel
theorem dX2_usedSides_26 : decode cX2_usedSides 26 = .ok (.goto (-22), 3) := by decide +kernel
theorem dX2_usedSides_29 : decode cX2_usedSides 29 = .ok (.iload_n 1, 1) := by decide +kernel
theorem dX2_usedSides_30 : decode cX2_usedSides 30 = .ok (.ireturn, 1) := by decide +kernel
theorem dX2_greatestWidth_0 : decode cX2_greatestWidth 0 = .ok (.iconst 0, 1) := by decide +kernel
theorem dX2_greatestWidth_1 : decode cX2_greatestWidth 1 = .ok (.istore_n 1, 1) := by decide +kernel
theorem dX2_greatestWidth_2 : decode cX2_greatestWidth 2 = .ok (.iconst 0, 1) := by decide +kernel
theorem dX2_greatestWidth_3 : decode cX2_greatestWidth 3 = .ok (.istore_n 2, 1) := by decide +kernel
theorem dX2_greatestWidth_4 : decode cX2_greatestWidth 4 = .ok (.iload_n 2, 1) := by decide +kernel
theorem dX2_greatestWidth_5 : decode cX2_greatestWidth 5 = .ok (.sipush 200, 3) := by decide +kernel
theorem dX2_greatestWidth_8 : decode cX2_greatestWidth 8 = .ok (.if_icmp .ge 23, 3) := by decide +kernel
theorem dX2_greatestWidth_11 : decode cX2_greatestWidth 11 = .ok (.iload_n 1, 1) := by decide +kernel
theorem dX2_greatestWidth_12 : decode cX2_greatestWidth 12 = .ok (.aload_n 0, 1) := by decide +kernel
theorem dX2_greatestWidth_13 : decode cX2_greatestWidth 13 = .ok (.getfield 19, 3) := by decide +kernel
theorem dX2_greatestWidth_16 : decode cX2_greatestWidth 16 = .ok (.iload_n 2, 1) := by decide +kernel
theorem dX2_greatestWidth_17 : decode cX2_greatestWidth 17 = .ok (.iaload, 1) := by decide +kernel
theorem dX2_greatestWidth_18 : decode cX2_greatestWidth 18 = .ok (.invokestatic 56, 3) := by decide +kernel
theorem dX2_greatestWidth_21 : decode cX2_greatestWidth 21 = .ok (.invokestatic 40, 3) := by decide +kernel
theorem dX2_greatestWidth_24 : decode cX2_greatestWidth 24 = .ok (.istore_n 1, 1) := by decide +kernel
theorem dX2_greatestWidth_25 : decode cX2_greatestWidth 25 = .ok (.iinc 2 1, 3) := by decide +kernel
theorem dX2_greatestWidth_28 : decode cX2_greatestWidth 28 = .ok (.goto (-24), 3) := by decide +kernel
theorem dX2_greatestWidth_31 : decode cX2_greatestWidth 31 = .ok (.iload_n 1, 1) := by decide +kernel
theorem dX2_greatestWidth_32 : decode cX2_greatestWidth 32 = .ok (.ireturn, 1) := by decide +kernel
theorem dX2_forks_0 : decode cX2_forks 0 = .ok (.iconst 0, 1) := by decide +kernel
theorem dX2_forks_1 : decode cX2_forks 1 = .ok (.istore_n 1, 1) := by decide +kernel
theorem dX2_forks_2 : decode cX2_forks 2 = .ok (.iconst 0, 1) := by decide +kernel
theorem dX2_forks_3 : decode cX2_forks 3 = .ok (.istore_n 2, 1) := by decide +kernel
theorem dX2_forks_4 : decode cX2_forks 4 = .ok (.iload_n 2, 1) := by decide +kernel
theorem dX2_forks_5 : decode cX2_forks 5 = .ok (.bipush 100, 2) := by decide +kernel
theorem dX2_forks_7 : decode cX2_forks 7 = .ok (.if_icmp .ge 20, 3) := by decide +kernel
theorem dX2_forks_10 : decode cX2_forks 10 = .ok (.aload_n 0, 1) := by decide +kernel
theorem dX2_forks_11 : decode cX2_forks 11 = .ok (.iload_n 2, 1) := by decide +kernel
theorem dX2_forks_12 : decode cX2_forks 12 = .ok (.invokevirtual 104, 3) := by decide +kernel
theorem dX2_forks_15 : decode cX2_forks 15 = .ok (.ifCond .eq 6, 3) := by decide +kernel
theorem dX2_forks_18 : decode cX2_forks 18 = .ok (.iinc 1 1, 3) := by decide +kernel
theorem dX2_forks_21 : decode cX2_forks 21 = .ok (.iinc 2 1, 3) := by decide +kernel
theorem dX2_forks_24 : decode cX2_forks 24 = .ok (.goto (-20), 3) := by decide +kernel
theorem dX2_forks_27 : decode cX2_forks 27 = .ok (.iload_n 1, 1) := by decide +kernel
theorem dX2_forks_28 : decode cX2_forks 28 = .ok (.ireturn, 1) := by decide +kernel
theorem dX2_isFork_0 : decode cX2_isFork 0 = .ok (.iconst 0, 1) := by decide +kernel
theorem dX2_isFork_1 : decode cX2_isFork 1 = .ok (.istore_n 2, 1) := by decide +kernel
theorem dX2_isFork_2 : decode cX2_isFork 2 = .ok (.iload_n 2, 1) := by decide +kernel
theorem dX2_isFork_3 : decode cX2_isFork 3 = .ok (.iconst 4, 1) := by decide +kernel
theorem dX2_isFork_4 : decode cX2_isFork 4 = .ok (.if_icmp .ge 55, 3) := by decide +kernel
theorem dX2_isFork_7 : decode cX2_isFork 7 = .ok (.aload_n 0, 1) := by decide +kernel
theorem dX2_isFork_8 : decode cX2_isFork 8 = .ok (.iload_n 1, 1) := by decide +kernel
theorem dX2_isFork_9 : decode cX2_isFork 9 = .ok (.iload_n 2, 1) := by decide +kernel
theorem dX2_isFork_10 : decode cX2_isFork 10 = .ok (.invokevirtual 53, 3) := by decide +kernel
theorem dX2_isFork_13 : decode cX2_isFork 13 = .ok (.istore_n 3, 1) := by decide +kernel
theorem dX2_isFork_14 : decode cX2_isFork 14 = .ok (.iconst 0, 1) := by decide +kernel
theorem dX2_isFork_15 : decode cX2_isFork 15 = .ok (.istore 4, 2) := by decide +kernel
theorem dX2_isFork_17 : decode cX2_isFork 17 = .ok (.iload 4, 2) := by decide +kernel
theorem dX2_isFork_19 : decode cX2_isFork 19 = .ok (.iconst 4, 1) := by decide +kernel
theorem dX2_isFork_20 : decode cX2_isFork 20 = .ok (.if_icmp .ge 33, 3) := by decide +kernel
theorem dX2_isFork_23 : decode cX2_isFork 23 = .ok (.iload_n 3, 1) := by decide +kernel
theorem dX2_isFork_24 : decode cX2_isFork 24 = .ok (.aload_n 0, 1) := by decide +kernel
theorem dX2_isFork_25 : decode cX2_isFork 25 = .ok (.iload_n 1, 1) := by decide +kernel
theorem dX2_isFork_26 : decode cX2_isFork 26 = .ok (.iload 4, 2) := by decide +kernel
theorem dX2_isFork_28 : decode cX2_isFork 28 = .ok (.invokevirtual 53, 3) := by decide +kernel
theorem dX2_isFork_31 : decode cX2_isFork 31 = .ok (.iand, 1) := by decide +kernel
theorem dX2_isFork_32 : decode cX2_isFork 32 = .ok (.istore 5, 2) := by decide +kernel
theorem dX2_isFork_34 : decode cX2_isFork 34 = .ok (.iload 5, 2) := by decide +kernel
theorem dX2_isFork_36 : decode cX2_isFork 36 = .ok (.ifCond .eq 11, 3) := by decide +kernel
theorem dX2_isFork_39 : decode cX2_isFork 39 = .ok (.iload 5, 2) := by decide +kernel
theorem dX2_isFork_41 : decode cX2_isFork 41 = .ok (.iload_n 3, 1) := by decide +kernel
theorem dX2_isFork_42 : decode cX2_isFork 42 = .ok (.if_icmp .eq 5, 3) := by decide +kernel
theorem dX2_isFork_45 : decode cX2_isFork 45 = .ok (.iconst 1, 1) := by decide +kernel
theorem dX2_isFork_46 : decode cX2_isFork 46 = .ok (.ireturn, 1) := by decide +kernel
theorem dX2_isFork_47 : decode cX2_isFork 47 = .ok (.iinc 4 1, 3) := by decide +kernel
theorem dX2_isFork_50 : decode cX2_isFork 50 = .ok (.goto (-33), 3) := by decide +kernel
theorem dX2_isFork_53 : decode cX2_isFork 53 = .ok (.iinc 2 1, 3) := by decide +kernel
theorem dX2_isFork_56 : decode cX2_isFork 56 = .ok (.goto (-54), 3) := by decide +kernel
theorem dX2_isFork_59 : decode cX2_isFork 59 = .ok (.iconst 0, 1) := by decide +kernel
theorem dX2_isFork_60 : decode cX2_isFork 60 = .ok (.ireturn, 1) := by decide +kernel
theorem dX2_crossings_0 : decode cX2_crossings 0 = .ok (.iconst 0, 1) := by decide +kernel
theorem dX2_crossings_1 : decode cX2_crossings 1 = .ok (.istore_n 1, 1) := by decide +kernel
theorem dX2_crossings_2 : decode cX2_crossings 2 = .ok (.iconst 0, 1) := by decide +kernel
theorem dX2_crossings_3 : decode cX2_crossings 3 = .ok (.istore_n 2, 1) := by decide +kernel
theorem dX2_crossings_4 : decode cX2_crossings 4 = .ok (.iload_n 2, 1) := by decide +kernel
theorem dX2_crossings_5 : decode cX2_crossings 5 = .ok (.bipush 100, 2) := by decide +kernel
theorem dX2_crossings_7 : decode cX2_crossings 7 = .ok (.if_icmp .ge 51, 3) := by decide +kernel
theorem dX2_crossings_10 : decode cX2_crossings 10 = .ok (.aload_n 0, 1) := by decide +kernel
theorem dX2_crossings_11 : decode cX2_crossings 11 = .ok (.iload_n 2, 1) := by decide +kernel
theorem dX2_crossings_12 : decode cX2_crossings 12 = .ok (.iconst 0, 1) := by decide +kernel
theorem dX2_crossings_13 : decode cX2_crossings 13 = .ok (.invokevirtual 53, 3) := by decide +kernel
theorem dX2_crossings_16 : decode cX2_crossings 16 = .ok (.aload_n 0, 1) := by decide +kernel
theorem dX2_crossings_17 : decode cX2_crossings 17 = .ok (.iload_n 2, 1) := by decide +kernel
theorem dX2_crossings_18 : decode cX2_crossings 18 = .ok (.iconst 2, 1) := by decide +kernel
theorem dX2_crossings_19 : decode cX2_crossings 19 = .ok (.invokevirtual 53, 3) := by decide +kernel
theorem dX2_crossings_22 : decode cX2_crossings 22 = .ok (.iand, 1) := by decide +kernel
theorem dX2_crossings_23 : decode cX2_crossings 23 = .ok (.istore_n 3, 1) := by decide +kernel
theorem dX2_crossings_24 : decode cX2_crossings 24 = .ok (.aload_n 0, 1) := by decide +kernel
theorem dX2_crossings_25 : decode cX2_crossings 25 = .ok (.iload_n 2, 1) := by decide +kernel
theorem dX2_crossings_26 : decode cX2_crossings 26 = .ok (.iconst 1, 1) := by decide +kernel
theorem dX2_crossings_27 : decode cX2_crossings 27 = .ok (.invokevirtual 53, 3) := by decide +kernel
theorem dX2_crossings_30 : decode cX2_crossings 30 = .ok (.aload_n 0, 1) := by decide +kernel
theorem dX2_crossings_31 : decode cX2_crossings 31 = .ok (.iload_n 2, 1) := by decide +kernel
theorem dX2_crossings_32 : decode cX2_crossings 32 = .ok (.iconst 3, 1) := by decide +kernel
theorem dX2_crossings_33 : decode cX2_crossings 33 = .ok (.invokevirtual 53, 3) := by decide +kernel
theorem dX2_crossings_36 : decode cX2_crossings 36 = .ok (.iand, 1) := by decide +kernel
theorem dX2_crossings_37 : decode cX2_crossings 37 = .ok (.istore 4, 2) := by decide +kernel
theorem dX2_crossings_39 : decode cX2_crossings 39 = .ok (.iload_n 1, 1) := by decide +kernel
theorem dX2_crossings_40 : decode cX2_crossings 40 = .ok (.iload_n 3, 1) := by decide +kernel
theorem dX2_crossings_41 : decode cX2_crossings 41 = .ok (.invokestatic 56, 3) := by decide +kernel
theorem dX2_crossings_44 : decode cX2_crossings 44 = .ok (.iload 4, 2) := by decide +kernel
theorem dX2_crossings_46 : decode cX2_crossings 46 = .ok (.invokestatic 56, 3) := by decide +kernel
theorem dX2_crossings_49 : decode cX2_crossings 49 = .ok (.imul, 1) := by decide +kernel
theorem dX2_crossings_50 : decode cX2_crossings 50 = .ok (.iadd, 1) := by decide +kernel
theorem dX2_crossings_51 : decode cX2_crossings 51 = .ok (.istore_n 1, 1) := by decide +kernel
theorem dX2_crossings_52 : decode cX2_crossings 52 = .ok (.iinc 2 1, 3) := by decide +kernel
theorem dX2_crossings_55 : decode cX2_crossings 55 = .ok (.goto (-51), 3) := by decide +kernel
theorem dX2_crossings_58 : decode cX2_crossings 58 = .ok (.iload_n 1, 1) := by decide +kernel
theorem dX2_crossings_59 : decode cX2_crossings 59 = .ok (.ireturn, 1) := by decide +kernel
theorem dX2_onward_0 : decode cX2_onward 0 = .ok (.iload_n 2, 1) := by decide +kernel
theorem dX2_onward_1 : decode cX2_onward 1 = .ok (.iconst 1, 1) := by decide +kernel
theorem dX2_onward_2 : decode cX2_onward 2 = .ok (.iadd, 1) := by decide +kernel
theorem dX2_onward_3 : decode cX2_onward 3 = .ok (.iconst 4, 1) := by decide +kernel
theorem dX2_onward_4 : decode cX2_onward 4 = .ok (.irem, 1) := by decide +kernel
theorem dX2_onward_5 : decode cX2_onward 5 = .ok (.istore_n 3, 1) := by decide +kernel
theorem dX2_onward_6 : decode cX2_onward 6 = .ok (.iload_n 2, 1) := by decide +kernel
theorem dX2_onward_7 : decode cX2_onward 7 = .ok (.iconst 3, 1) := by decide +kernel
theorem dX2_onward_8 : decode cX2_onward 8 = .ok (.iadd, 1) := by decide +kernel
theorem dX2_onward_9 : decode cX2_onward 9 = .ok (.iconst 4, 1) := by decide +kernel
theorem dX2_onward_10 : decode cX2_onward 10 = .ok (.irem, 1) := by decide +kernel
theorem dX2_onward_11 : decode cX2_onward 11 = .ok (.istore 4, 2) := by decide +kernel
theorem dX2_onward_13 : decode cX2_onward 13 = .ok (.aload_n 0, 1) := by decide +kernel
end
section
theorem dX2_onward_14 : decode cX2_onward 14 = .ok (.iload_n 1, 1) := by decide +kernel
theorem dX2_onward_15 : decode cX2_onward 15 = .ok (.iload_n 2, 1) := by decide +kernel
theorem dX2_onward_16 : decode cX2_onward 16 = .ok (.invokevirtual 53, 3) := by decide +kernel
theorem dX2_onward_19 : decode cX2_onward 19 = .ok (.ifCond .eq 5, 3) := by decide +kernel
theorem dX2_onward_22 : decode cX2_onward 22 = .ok (.iload_n 2, 1) := by decide +kernel
theorem dX2_onward_23 : decode cX2_onward 23 = .ok (.ireturn, 1) := by decide +kernel
theorem dX2_onward_24 : decode cX2_onward 24 = .ok (.aload_n 0, 1) := by decide +kernel
theorem dX2_onward_25 : decode cX2_onward 25 = .ok (.iload_n 1, 1) := by decide +kernel
theorem dX2_onward_26 : decode cX2_onward 26 = .ok (.iload_n 3, 1) := by decide +kernel
theorem dX2_onward_27 : decode cX2_onward 27 = .ok (.invokevirtual 53, 3) := by decide +kernel
theorem dX2_onward_30 : decode cX2_onward 30 = .ok (.ifCond .eq 5, 3) := by decide +kernel
theorem dX2_onward_33 : decode cX2_onward 33 = .ok (.iload_n 3, 1) := by decide +kernel
theorem dX2_onward_34 : decode cX2_onward 34 = .ok (.ireturn, 1) := by decide +kernel
theorem dX2_onward_35 : decode cX2_onward 35 = .ok (.aload_n 0, 1) := by decide +kernel
theorem dX2_onward_36 : decode cX2_onward 36 = .ok (.iload_n 1, 1) := by decide +kernel
theorem dX2_onward_37 : decode cX2_onward 37 = .ok (.iload 4, 2) := by decide +kernel
theorem dX2_onward_39 : decode cX2_onward 39 = .ok (.invokevirtual 53, 3) := by decide +kernel
theorem dX2_onward_42 : decode cX2_onward 42 = .ok (.ifCond .eq 8, 3) := by decide +kernel
theorem dX2_onward_45 : decode cX2_onward 45 = .ok (.iload 4, 2) := by decide +kernel
theorem dX2_onward_47 : decode cX2_onward 47 = .ok (.goto 4, 3) := by decide +kernel
theorem dX2_onward_50 : decode cX2_onward 50 = .ok (.iconst (-1), 1) := by decide +kernel
theorem dX2_onward_51 : decode cX2_onward 51 = .ok (.ireturn, 1) := by decide +kernel
theorem dX3_init_0 : decode cX3_init 0 = .ok (.aload_n 0, 1) := by decide +kernel
theorem dX3_init_1 : decode cX3_init 1 = .ok (.invokespecial 3, 3) := by decide +kernel
theorem dX3_init_4 : decode cX3_init 4 = .ok (.aload_n 0, 1) := by decide +kernel
theorem dX3_init_5 : decode cX3_init 5 = .ok (.bipush 60, 2) := by decide +kernel
theorem dX3_init_7 : decode cX3_init 7 = .ok (.newarray .int, 2) := by decide +kernel
theorem dX3_init_9 : decode cX3_init 9 = .ok (.putfield 9, 3) := by decide +kernel
theorem dX3_init_12 : decode cX3_init 12 = .ok (.aload_n 0, 1) := by decide +kernel
theorem dX3_init_13 : decode cX3_init 13 = .ok (.iconst (-1), 1) := by decide +kernel
theorem dX3_init_14 : decode cX3_init 14 = .ok (.putfield 15, 3) := by decide +kernel
theorem dX3_init_17 : decode cX3_init 17 = .ok (.return_, 1) := by decide +kernel
theorem dX3_isMissing_0 : decode cX3_isMissing 0 = .ok (.aload_n 0, 1) := by decide +kernel
theorem dX3_isMissing_1 : decode cX3_isMissing 1 = .ok (.getfield 15, 3) := by decide +kernel
theorem dX3_isMissing_4 : decode cX3_isMissing 4 = .ok (.iconst (-1), 1) := by decide +kernel
theorem dX3_isMissing_5 : decode cX3_isMissing 5 = .ok (.if_icmp .ne 7, 3) := by decide +kernel
theorem dX3_isMissing_8 : decode cX3_isMissing 8 = .ok (.iconst 1, 1) := by decide +kernel
theorem dX3_isMissing_9 : decode cX3_isMissing 9 = .ok (.goto 4, 3) := by decide +kernel
theorem dX3_isMissing_12 : decode cX3_isMissing 12 = .ok (.iconst 0, 1) := by decide +kernel
theorem dX3_isMissing_13 : decode cX3_isMissing 13 = .ok (.ireturn, 1) := by decide +kernel
theorem dX3_begin_0 : decode cX3_begin 0 = .ok (.aload_n 0, 1) := by decide +kernel
theorem dX3_begin_1 : decode cX3_begin 1 = .ok (.iload_n 1, 1) := by decide +kernel
theorem dX3_begin_2 : decode cX3_begin 2 = .ok (.putfield 19, 3) := by decide +kernel
theorem dX3_begin_5 : decode cX3_begin 5 = .ok (.aload_n 0, 1) := by decide +kernel
theorem dX3_begin_6 : decode cX3_begin 6 = .ok (.iload_n 2, 1) := by decide +kernel
theorem dX3_begin_7 : decode cX3_begin 7 = .ok (.putfield 15, 3) := by decide +kernel
theorem dX3_begin_10 : decode cX3_begin 10 = .ok (.iconst 0, 1) := by decide +kernel
theorem dX3_begin_11 : decode cX3_begin 11 = .ok (.istore_n 3, 1) := by decide +kernel
theorem dX3_begin_12 : decode cX3_begin 12 = .ok (.iload_n 3, 1) := by decide +kernel
theorem dX3_begin_13 : decode cX3_begin 13 = .ok (.iload_n 2, 1) := by decide +kernel
theorem dX3_begin_14 : decode cX3_begin 14 = .ok (.if_icmp .ge 16, 3) := by decide +kernel
theorem dX3_begin_17 : decode cX3_begin 17 = .ok (.aload_n 0, 1) := by decide +kernel
theorem dX3_begin_18 : decode cX3_begin 18 = .ok (.getfield 9, 3) := by decide +kernel
theorem dX3_begin_21 : decode cX3_begin 21 = .ok (.iload_n 3, 1) := by decide +kernel
theorem dX3_begin_22 : decode cX3_begin 22 = .ok (.iconst 0, 1) := by decide +kernel
theorem dX3_begin_23 : decode cX3_begin 23 = .ok (.iastore, 1) := by decide +kernel
theorem dX3_begin_24 : decode cX3_begin 24 = .ok (.iinc 3 1, 3) := by decide +kernel
theorem dX3_begin_27 : decode cX3_begin 27 = .ok (.goto (-15), 3) := by decide +kernel
theorem dX3_begin_30 : decode cX3_begin 30 = .ok (.return_, 1) := by decide +kernel
theorem dX3_end_0 : decode cX3_end 0 = .ok (.aload_n 0, 1) := by decide +kernel
theorem dX3_end_1 : decode cX3_end 1 = .ok (.iconst (-1), 1) := by decide +kernel
theorem dX3_end_2 : decode cX3_end 2 = .ok (.putfield 15, 3) := by decide +kernel
theorem dX3_end_5 : decode cX3_end 5 = .ok (.return_, 1) := by decide +kernel
theorem dX3_holds_0 : decode cX3_holds 0 = .ok (.iload_n 1, 1) := by decide +kernel
theorem dX3_holds_1 : decode cX3_holds 1 = .ok (.ifCond .lt 21, 3) := by decide +kernel
theorem dX3_holds_4 : decode cX3_holds 4 = .ok (.iload_n 2, 1) := by decide +kernel
theorem dX3_holds_5 : decode cX3_holds 5 = .ok (.ifCond .lt 17, 3) := by decide +kernel
theorem dX3_holds_8 : decode cX3_holds 8 = .ok (.iload_n 1, 1) := by decide +kernel
theorem dX3_holds_9 : decode cX3_holds 9 = .ok (.aload_n 0, 1) := by decide +kernel
theorem dX3_holds_10 : decode cX3_holds 10 = .ok (.getfield 15, 3) := by decide +kernel
theorem dX3_holds_13 : decode cX3_holds 13 = .ok (.iload_n 2, 1) := by decide +kernel
theorem dX3_holds_14 : decode cX3_holds 14 = .ok (.isub, 1) := by decide +kernel
theorem dX3_holds_15 : decode cX3_holds 15 = .ok (.if_icmp .gt 7, 3) := by decide +kernel
theorem dX3_holds_18 : decode cX3_holds 18 = .ok (.iconst 1, 1) := by decide +kernel
theorem dX3_holds_19 : decode cX3_holds 19 = .ok (.goto 4, 3) := by decide +kernel
theorem dX3_holds_22 : decode cX3_holds 22 = .ok (.iconst 0, 1) := by decide +kernel
theorem dX3_holds_23 : decode cX3_holds 23 = .ok (.ireturn, 1) := by decide +kernel
theorem dX3_put_0 : decode cX3_put 0 = .ok (.aload_n 0, 1) := by decide +kernel
theorem dX3_put_1 : decode cX3_put 1 = .ok (.getfield 9, 3) := by decide +kernel
theorem dX3_put_4 : decode cX3_put 4 = .ok (.iload_n 1, 1) := by decide +kernel
theorem dX3_put_5 : decode cX3_put 5 = .ok (.aload_n 0, 1) := by decide +kernel
theorem dX3_put_6 : decode cX3_put 6 = .ok (.getfield 19, 3) := by decide +kernel
theorem dX3_put_9 : decode cX3_put 9 = .ok (.ifCond .ne 8, 3) := by decide +kernel
theorem dX3_put_12 : decode cX3_put 12 = .ok (.iload_n 2, 1) := by decide +kernel
theorem dX3_put_13 : decode cX3_put 13 = .ok (.i2b, 1) := by decide +kernel
theorem dX3_put_14 : decode cX3_put 14 = .ok (.goto 17, 3) := by decide +kernel
theorem dX3_put_17 : decode cX3_put 17 = .ok (.aload_n 0, 1) := by decide +kernel
theorem dX3_put_18 : decode cX3_put 18 = .ok (.getfield 19, 3) := by decide +kernel
theorem dX3_put_21 : decode cX3_put 21 = .ok (.iconst 1, 1) := by decide +kernel
theorem dX3_put_22 : decode cX3_put 22 = .ok (.if_icmp .ne 8, 3) := by decide +kernel
theorem dX3_put_25 : decode cX3_put 25 = .ok (.iload_n 2, 1) := by decide +kernel
theorem dX3_put_26 : decode cX3_put 26 = .ok (.i2s, 1) := by decide +kernel
theorem dX3_put_27 : decode cX3_put 27 = .ok (.goto 4, 3) := by decide +kernel
theorem dX3_put_30 : decode cX3_put 30 = .ok (.iload_n 2, 1) := by decide +kernel
theorem dX3_put_31 : decode cX3_put 31 = .ok (.iastore, 1) := by decide +kernel
theorem dX3_put_32 : decode cX3_put 32 = .ok (.aload_n 0, 1) := by decide +kernel
theorem dX3_put_33 : decode cX3_put 33 = .ok (.getfield 9, 3) := by decide +kernel
theorem dX3_put_36 : decode cX3_put 36 = .ok (.iload_n 1, 1) := by decide +kernel
theorem dX3_put_37 : decode cX3_put 37 = .ok (.iaload, 1) := by decide +kernel
theorem dX3_put_38 : decode cX3_put 38 = .ok (.ireturn, 1) := by decide +kernel
theorem dX4_init_0 : decode cX4_init 0 = .ok (.aload_n 0, 1) := by decide +kernel
theorem dX4_init_1 : decode cX4_init 1 = .ok (.invokespecial 3, 3) := by decide +kernel
theorem dX4_init_4 : decode cX4_init 4 = .ok (.aload_n 0, 1) := by decide +kernel
theorem dX4_init_5 : decode cX4_init 5 = .ok (.bipush 12, 2) := by decide +kernel
theorem dX4_init_7 : decode cX4_init 7 = .ok (.newarray .int, 2) := by decide +kernel
theorem dX4_init_9 : decode cX4_init 9 = .ok (.putfield 9, 3) := by decide +kernel
theorem dX4_init_12 : decode cX4_init 12 = .ok (.aload_n 0, 1) := by decide +kernel
theorem dX4_init_13 : decode cX4_init 13 = .ok (.bipush 12, 2) := by decide +kernel
theorem dX4_init_15 : decode cX4_init 15 = .ok (.newarray .int, 2) := by decide +kernel
theorem dX4_init_17 : decode cX4_init 17 = .ok (.putfield 15, 3) := by decide +kernel
theorem dX4_init_20 : decode cX4_init 20 = .ok (.aload_n 0, 1) := by decide +kernel
theorem dX4_init_21 : decode cX4_init 21 = .ok (.bipush 12, 2) := by decide +kernel
theorem dX4_init_23 : decode cX4_init 23 = .ok (.newarray .int, 2) := by decide +kernel
theorem dX4_init_25 : decode cX4_init 25 = .ok (.putfield 18, 3) := by decide +kernel
theorem dX4_init_28 : decode cX4_init 28 = .ok (.return_, 1) := by decide +kernel
theorem dX4_tintAll_0 : decode cX4_tintAll 0 = .ok (.aload_n 0, 1) := by decide +kernel
theorem dX4_tintAll_1 : decode cX4_tintAll 1 = .ok (.aload_n 1, 1) := by decide +kernel
theorem dX4_tintAll_2 : decode cX4_tintAll 2 = .ok (.invokevirtual 21, 3) := by decide +kernel
theorem dX4_tintAll_5 : decode cX4_tintAll 5 = .ok (.iconst 0, 1) := by decide +kernel
theorem dX4_tintAll_6 : decode cX4_tintAll 6 = .ok (.istore_n 3, 1) := by decide +kernel
theorem dX4_tintAll_7 : decode cX4_tintAll 7 = .ok (.iload_n 3, 1) := by decide +kernel
theorem dX4_tintAll_8 : decode cX4_tintAll 8 = .ok (.bipush 12, 2) := by decide +kernel
theorem dX4_tintAll_10 : decode cX4_tintAll 10 = .ok (.if_icmp .ge 24, 3) := by decide +kernel
theorem dX4_tintAll_13 : decode cX4_tintAll 13 = .ok (.aload_n 0, 1) := by decide +kernel
theorem dX4_tintAll_14 : decode cX4_tintAll 14 = .ok (.getfield 15, 3) := by decide +kernel
theorem dX4_tintAll_17 : decode cX4_tintAll 17 = .ok (.iload_n 3, 1) := by decide +kernel
theorem dX4_tintAll_18 : decode cX4_tintAll 18 = .ok (.ldc 25, 2) := by decide +kernel
theorem dX4_tintAll_20 : decode cX4_tintAll 20 = .ok (.iastore, 1) := by decide +kernel
theorem dX4_tintAll_21 : decode cX4_tintAll 21 = .ok (.aload_n 0, 1) := by decide +kernel
theorem dX4_tintAll_22 : decode cX4_tintAll 22 = .ok (.getfield 18, 3) := by decide +kernel
theorem dX4_tintAll_25 : decode cX4_tintAll 25 = .ok (.iload_n 3, 1) := by decide +kernel
theorem dX4_tintAll_26 : decode cX4_tintAll 26 = .ok (.iconst 0, 1) := by decide +kernel
theorem dX4_tintAll_27 : decode cX4_tintAll 27 = .ok (.iastore, 1) := by decide +kernel
theorem dX4_tintAll_28 : decode cX4_tintAll 28 = .ok (.iinc 3 1, 3) := by decide +kernel
theorem dX4_tintAll_31 : decode cX4_tintAll 31 = .ok (.goto (-24), 3) := by decide +kernel
theorem dX4_tintAll_34 : decode cX4_tintAll 34 = .ok (.aload_n 0, 1) := by decide +kernel
theorem dX4_tintAll_35 : decode cX4_tintAll 35 = .ok (.aload_n 1, 1) := by decide +kernel
theorem dX4_tintAll_36 : decode cX4_tintAll 36 = .ok (.invokevirtual 26, 3) := by decide +kernel
theorem dX4_tintAll_39 : decode cX4_tintAll 39 = .ok (.putfield 32, 3) := by decide +kernel
theorem dX4_tintAll_42 : decode cX4_tintAll 42 = .ok (.aload_n 0, 1) := by decide +kernel
theorem dX4_tintAll_43 : decode cX4_tintAll 43 = .ok (.iload_n 2, 1) := by decide +kernel
theorem dX4_tintAll_44 : decode cX4_tintAll 44 = .ok (.iconst 0, 1) := by decide +kernel
theorem dX4_tintAll_45 : decode cX4_tintAll 45 = .ok (.iconst 0, 1) := by decide +kernel
theorem dX4_tintAll_46 : decode cX4_tintAll 46 = .ok (.invokestatic 36, 3) := by decide +kernel
theorem dX4_tintAll_49 : decode cX4_tintAll 49 = .ok (.ifCond .ne 25, 3) := by decide +kernel
theorem dX4_tintAll_52 : decode cX4_tintAll 52 = .ok (.aload_n 0, 1) := by decide +kernel
theorem dX4_tintAll_53 : decode cX4_tintAll 53 = .ok (.getfield 32, 3) := by decide +kernel
theorem dX4_tintAll_56 : decode cX4_tintAll 56 = .ok (.bipush 12, 2) := by decide +kernel
theorem dX4_tintAll_58 : decode cX4_tintAll 58 = .ok (.if_icmp .ge 16, 3) := by decide +kernel
theorem dX4_tintAll_61 : decode cX4_tintAll 61 = .ok (.aload_n 0, 1) := by decide +kernel
theorem dX4_tintAll_62 : decode cX4_tintAll 62 = .ok (.dup, 1) := by decide +kernel
theorem dX4_tintAll_63 : decode cX4_tintAll 63 = .ok (.getfield 32, 3) := by decide +kernel
theorem dX4_tintAll_66 : decode cX4_tintAll 66 = .ok (.iconst 1, 1) := by decide +kernel
theorem dX4_tintAll_67 : decode cX4_tintAll 67 = .ok (.iadd, 1) := by decide +kernel
theorem dX4_tintAll_68 : decode cX4_tintAll 68 = .ok (.putfield 32, 3) := by decide +kernel
theorem dX4_tintAll_71 : decode cX4_tintAll 71 = .ok (.goto (-29), 3) := by decide +kernel
theorem dX4_tintAll_74 : decode cX4_tintAll 74 = .ok (.return_, 1) := by decide +kernel
theorem dX4_gatherClashes_0 : decode cX4_gatherClashes 0 = .ok (.iconst 0, 1) := by decide +kernel
theorem dX4_gatherClashes_1 : decode cX4_gatherClashes 1 = .ok (.istore_n 2, 1) := by decide +kernel
theorem dX4_gatherClashes_2 : decode cX4_gatherClashes 2 = .ok (.iload_n 2, 1) := by decide +kernel
theorem dX4_gatherClashes_3 : decode cX4_gatherClashes 3 = .ok (.bipush 12, 2) := by decide +kernel
theorem dX4_gatherClashes_5 : decode cX4_gatherClashes 5 = .ok (.if_icmp .ge 59, 3) := by decide +kernel
theorem dX4_gatherClashes_8 : decode cX4_gatherClashes 8 = .ok (.aload_n 0, 1) := by decide +kernel
theorem dX4_gatherClashes_9 : decode cX4_gatherClashes 9 = .ok (.getfield 9, 3) := by decide +kernel
theorem dX4_gatherClashes_12 : decode cX4_gatherClashes 12 = .ok (.iload_n 2, 1) := by decide +kernel
theorem dX4_gatherClashes_13 : decode cX4_gatherClashes 13 = .ok (.iconst 0, 1) := by decide +kernel
theorem dX4_gatherClashes_14 : decode cX4_gatherClashes 14 = .ok (.iastore, 1) := by decide +kernel
theorem dX4_gatherClashes_15 : decode cX4_gatherClashes 15 = .ok (.iconst 0, 1) := by decide +kernel
theorem dX4_gatherClashes_16 : decode cX4_gatherClashes 16 = .ok (.istore_n 3, 1) := by decide +kernel
theorem dX4_gatherClashes_17 : decode cX4_gatherClashes 17 = .ok (.iload_n 3, 1) := by decide +kernel
theorem dX4_gatherClashes_18 : decode cX4_gatherClashes 18 = .ok (.sipush 200, 3) := by decide +kernel
theorem dX4_gatherClashes_21 : decode cX4_gatherClashes 21 = .ok (.if_icmp .ge 37, 3) := by decide +kernel
theorem dX4_gatherClashes_24 : decode cX4_gatherClashes 24 = .ok (.aload_n 1, 1) := by decide +kernel
theorem dX4_gatherClashes_25 : decode cX4_gatherClashes 25 = .ok (.getfield 40, 3) := by decide +kernel
theorem dX4_gatherClashes_28 : decode cX4_gatherClashes 28 = .ok (.iload_n 3, 1) := by decide +kernel
theorem dX4_gatherClashes_29 : decode cX4_gatherClashes 29 = .ok (.iaload, 1) := by decide +kernel
theorem dX4_gatherClashes_30 : decode cX4_gatherClashes 30 = .ok (.iload_n 2, 1) := by decide +kernel
theorem dX4_gatherClashes_31 : decode cX4_gatherClashes 31 = .ok (.ishr, 1) := by decide +kernel
theorem dX4_gatherClashes_32 : decode cX4_gatherClashes 32 = .ok (.iconst 1, 1) := by decide +kernel
theorem dX4_gatherClashes_33 : decode cX4_gatherClashes 33 = .ok (.iand, 1) := by decide +kernel
theorem dX4_gatherClashes_34 : decode cX4_gatherClashes 34 = .ok (.ifCond .eq 18, 3) := by decide +kernel
theorem dX4_gatherClashes_37 : decode cX4_gatherClashes 37 = .ok (.aload_n 0, 1) := by decide +kernel
theorem dX4_gatherClashes_38 : decode cX4_gatherClashes 38 = .ok (.getfield 9, 3) := by decide +kernel
theorem dX4_gatherClashes_41 : decode cX4_gatherClashes 41 = .ok (.iload_n 2, 1) := by decide +kernel
theorem dX4_gatherClashes_42 : decode cX4_gatherClashes 42 = .ok (.dup2, 1) := by decide +kernel
theorem dX4_gatherClashes_43 : decode cX4_gatherClashes 43 = .ok (.iaload, 1) := by decide +kernel
theorem dX4_gatherClashes_44 : decode cX4_gatherClashes 44 = .ok (.aload_n 1, 1) := by decide +kernel
theorem dX4_gatherClashes_45 : decode cX4_gatherClashes 45 = .ok (.getfield 40, 3) := by decide +kernel
theorem dX4_gatherClashes_48 : decode cX4_gatherClashes 48 = .ok (.iload_n 3, 1) := by decide +kernel
theorem dX4_gatherClashes_49 : decode cX4_gatherClashes 49 = .ok (.iaload, 1) := by decide +kernel
theorem dX4_gatherClashes_50 : decode cX4_gatherClashes 50 = .ok (.ior, 1) := by decide +kernel
theorem dX4_gatherClashes_51 : decode cX4_gatherClashes 51 = .ok (.iastore, 1) := by decide +kernel
theorem dX4_gatherClashes_52 : decode cX4_gatherClashes 52 = .ok (.iinc 3 1, 3) := by decide +kernel
theorem dX4_gatherClashes_55 : decode cX4_gatherClashes 55 = .ok (.goto (-38), 3) := by decide +kernel
theorem dX4_gatherClashes_58 : decode cX4_gatherClashes 58 = .ok (.iinc 2 1, 3) := by decide +kernel
theorem dX4_gatherClashes_61 : decode cX4_gatherClashes 61 = .ok (.goto (-59), 3) := by decide +kernel
theorem dX4_gatherClashes_64 : decode cX4_gatherClashes 64 = .ok (.return_, 1) := by decide +kernel
theorem dX4_tintFrom_0 : decode cX4_tintFrom 0 = .ok (.iload_n 2, 1) := by decide +kernel
theorem dX4_tintFrom_1 : decode cX4_tintFrom 1 = .ok (.bipush 12, 2) := by decide +kernel
theorem dX4_tintFrom_3 : decode cX4_tintFrom 3 = .ok (.if_icmp .lt 5, 3) := by decide +kernel
theorem dX4_tintFrom_6 : decode cX4_tintFrom 6 = .ok (.iconst 1, 1) := by decide +kernel
theorem dX4_tintFrom_7 : decode cX4_tintFrom 7 = .ok (.ireturn, 1) := by decide +kernel
theorem dX4_tintFrom_8 : decode cX4_tintFrom 8 = .ok (.iload_n 1, 1) := by decide +kernel
theorem dX4_tintFrom_9 : decode cX4_tintFrom 9 = .ok (.iload_n 2, 1) := by decide +kernel
theorem dX4_tintFrom_10 : decode cX4_tintFrom 10 = .ok (.ishr, 1) := by decide +kernel
theorem dX4_tintFrom_11 : decode cX4_tintFrom 11 = .ok (.iconst 1, 1) := by decide +kernel
theorem dX4_tintFrom_12 : decode cX4_tintFrom 12 = .ok (.iand, 1) := by decide +kernel
theorem dX4_tintFrom_13 : decode cX4_tintFrom 13 = .ok (.ifCond .ne 13, 3) := by decide +kernel
theorem dX4_tintFrom_16 : decode cX4_tintFrom 16 = .ok (.aload_n 0, 1) := by decide +kernel
theorem dX4_tintFrom_17 : decode cX4_tintFrom 17 = .ok (.iload_n 1, 1) := by decide +kernel
theorem dX4_tintFrom_18 : decode cX4_tintFrom 18 = .ok (.iload_n 2, 1) := by decide +kernel
theorem dX4_tintFrom_19 : decode cX4_tintFrom 19 = .ok (.iconst 1, 1) := by decide +kernel
theorem dX4_tintFrom_20 : decode cX4_tintFrom 20 = .ok (.iadd, 1) := by decide +kernel
theorem dX4_tintFrom_21 : decode cX4_tintFrom 21 = .ok (.iload_n 3, 1) := by decide +kernel
theorem dX4_tintFrom_22 : decode cX4_tintFrom 22 = .ok (.invokestatic 36, 3) := by decide +kernel
theorem dX4_tintFrom_25 : decode cX4_tintFrom 25 = .ok (.ireturn, 1) := by decide +kernel
theorem dX4_tintFrom_26 : decode cX4_tintFrom 26 = .ok (.iconst 0, 1) := by decide +kernel
theorem dX4_tintFrom_27 : decode cX4_tintFrom 27 = .ok (.istore 4, 2) := by decide +kernel
theorem dX4_tintFrom_29 : decode cX4_tintFrom 29 = .ok (.iload 4, 2) := by decide +kernel
theorem dX4_tintFrom_31 : decode cX4_tintFrom 31 = .ok (.iload_n 3, 1) := by decide +kernel
theorem dX4_tintFrom_32 : decode cX4_tintFrom 32 = .ok (.if_icmp .gt 92, 3) := by decide +kernel
theorem dX4_tintFrom_35 : decode cX4_tintFrom 35 = .ok (.iload 4, 2) := by decide +kernel
theorem dX4_tintFrom_37 : decode cX4_tintFrom 37 = .ok (.aload_n 0, 1) := by decide +kernel
theorem dX4_tintFrom_38 : decode cX4_tintFrom 38 = .ok (.getfield 32, 3) := by decide +kernel
theorem dX4_tintFrom_41 : decode cX4_tintFrom 41 = .ok (.if_icmp .ge 83, 3) := by decide +kernel
theorem dX4_tintFrom_44 : decode cX4_tintFrom 44 = .ok (.aload_n 0, 1) := by decide +kernel
theorem dX4_tintFrom_45 : decode cX4_tintFrom 45 = .ok (.getfield 18, 3) := by decide +kernel
theorem dX4_tintFrom_48 : decode cX4_tintFrom 48 = .ok (.iload 4, 2) := by decide +kernel
theorem dX4_tintFrom_50 : decode cX4_tintFrom 50 = .ok (.iaload, 1) := by decide +kernel
theorem dX4_tintFrom_51 : decode cX4_tintFrom 51 = .ok (.aload_n 0, 1) := by decide +kernel
theorem dX4_tintFrom_52 : decode cX4_tintFrom 52 = .ok (.getfield 9, 3) := by decide +kernel
theorem dX4_tintFrom_55 : decode cX4_tintFrom 55 = .ok (.iload_n 2, 1) := by decide +kernel
theorem dX4_tintFrom_56 : decode cX4_tintFrom 56 = .ok (.iaload, 1) := by decide +kernel
theorem dX4_tintFrom_57 : decode cX4_tintFrom 57 = .ok (.iand, 1) := by decide +kernel
theorem dX4_tintFrom_58 : decode cX4_tintFrom 58 = .ok (.ifCond .ne 60, 3) := by decide +kernel
theorem dX4_tintFrom_61 : decode cX4_tintFrom 61 = .ok (.aload_n 0, 1) := by decide +kernel
theorem dX4_tintFrom_62 : decode cX4_tintFrom 62 = .ok (.getfield 18, 3) := by decide +kernel
theorem dX4_tintFrom_65 : decode cX4_tintFrom 65 = .ok (.iload 4, 2) := by decide +kernel
theorem dX4_tintFrom_67 : decode cX4_tintFrom 67 = .ok (.dup2, 1) := by decide +kernel
theorem dX4_tintFrom_68 : decode cX4_tintFrom 68 = .ok (.iaload, 1) := by decide +kernel
theorem dX4_tintFrom_69 : decode cX4_tintFrom 69 = .ok (.iconst 1, 1) := by decide +kernel
theorem dX4_tintFrom_70 : decode cX4_tintFrom 70 = .ok (.iload_n 2, 1) := by decide +kernel
theorem dX4_tintFrom_71 : decode cX4_tintFrom 71 = .ok (.ishl, 1) := by decide +kernel
theorem dX4_tintFrom_72 : decode cX4_tintFrom 72 = .ok (.ior, 1) := by decide +kernel
theorem dX4_tintFrom_73 : decode cX4_tintFrom 73 = .ok (.iastore, 1) := by decide +kernel
theorem dX4_tintFrom_74 : decode cX4_tintFrom 74 = .ok (.aload_n 0, 1) := by decide +kernel
theorem dX4_tintFrom_75 : decode cX4_tintFrom 75 = .ok (.getfield 15, 3) := by decide +kernel
theorem dX4_tintFrom_78 : decode cX4_tintFrom 78 = .ok (.iload_n 2, 1) := by decide +kernel
theorem dX4_tintFrom_79 : decode cX4_tintFrom 79 = .ok (.iload 4, 2) := by decide +kernel
theorem dX4_tintFrom_81 : decode cX4_tintFrom 81 = .ok (.iastore, 1) := by decide +kernel
theorem dX4_tintFrom_82 : decode cX4_tintFrom 82 = .ok (.aload_n 0, 1) := by decide +kernel
theorem dX4_tintFrom_83 : decode cX4_tintFrom 83 = .ok (.iload_n 1, 1) := by decide +kernel
theorem dX4_tintFrom_84 : decode cX4_tintFrom 84 = .ok (.iload_n 2, 1) := by decide +kernel
theorem dX4_tintFrom_85 : decode cX4_tintFrom 85 = .ok (.iconst 1, 1) := by decide +kernel
theorem dX4_tintFrom_86 : decode cX4_tintFrom 86 = .ok (.iadd, 1) := by decide +kernel
theorem dX4_tintFrom_87 : decode cX4_tintFrom 87 = .ok (.iload_n 3, 1) := by decide +kernel
theorem dX4_tintFrom_88 : decode cX4_tintFrom 88 = .ok (.iload 4, 2) := by decide +kernel
theorem dX4_tintFrom_90 : decode cX4_tintFrom 90 = .ok (.iconst 1, 1) := by decide +kernel
theorem dX4_tintFrom_91 : decode cX4_tintFrom 91 = .ok (.iadd, 1) := by decide +kernel
theorem dX4_tintFrom_92 : decode cX4_tintFrom 92 = .ok (.invokestatic 43, 3) := by decide +kernel
theorem dX4_tintFrom_95 : decode cX4_tintFrom 95 = .ok (.invokestatic 36, 3) := by decide +kernel
theorem dX4_tintFrom_98 : decode cX4_tintFrom 98 = .ok (.ifCond .eq 5, 3) := by decide +kernel
theorem dX4_tintFrom_101 : decode cX4_tintFrom 101 = .ok (.iconst 1, 1) := by decide +kernel
theorem dX4_tintFrom_102 : decode cX4_tintFrom 102 = .ok (.ireturn, 1) := by decide +kernel
theorem dX4_tintFrom_103 : decode cX4_tintFrom 103 = .ok (.aload_n 0, 1) := by decide +kernel
theorem dX4_tintFrom_104 : decode cX4_tintFrom 104 = .ok (.getfield 18, 3) := by decide +kernel
theorem dX4_tintFrom_107 : decode cX4_tintFrom 107 = .ok (.iload 4, 2) := by decide +kernel
theorem dX4_tintFrom_109 : decode cX4_tintFrom 109 = .ok (.dup2, 1) := by decide +kernel
theorem dX4_tintFrom_110 : decode cX4_tintFrom 110 = .ok (.iaload, 1) := by decide +kernel
theorem dX4_tintFrom_111 : decode cX4_tintFrom 111 = .ok (.iconst 1, 1) := by decide +kernel
theorem dX4_tintFrom_112 : decode cX4_tintFrom 112 = .ok (.iload_n 2, 1) := by decide +kernel
theorem dX4_tintFrom_113 : decode cX4_tintFrom 113 = .ok (.ishl, 1) := by decide +kernel
theorem dX4_tintFrom_114 : decode cX4_tintFrom 114 = .ok (.iconst (-1), 1) := by decide +kernel
theorem dX4_tintFrom_115 : decode cX4_tintFrom 115 = .ok (.ixor, 1) := by decide +kernel
theorem dX4_tintFrom_116 : decode cX4_tintFrom 116 = .ok (.iand, 1) := by decide +kernel
theorem dX4_tintFrom_117 : decode cX4_tintFrom 117 = .ok (.iastore, 1) := by decide +kernel
theorem dX4_tintFrom_118 : decode cX4_tintFrom 118 = .ok (.iinc 4 1, 3) := by decide +kernel
theorem dX4_tintFrom_121 : decode cX4_tintFrom 121 = .ok (.goto (-92), 3) := by decide +kernel
theorem dX4_tintFrom_124 : decode cX4_tintFrom 124 = .ok (.iconst 0, 1) := by decide +kernel
theorem dX4_tintFrom_125 : decode cX4_tintFrom 125 = .ok (.ireturn, 1) := by decide +kernel
theorem dJ6_bitCount_0f7a4_0 : decode cJ6_bitCount_0f7a4 0 = .ok (.iload_n 0, 1) := by decide +kernel
theorem dJ6_bitCount_0f7a4_1 : decode cJ6_bitCount_0f7a4 1 = .ok (.iload_n 0, 1) := by decide +kernel
theorem dJ6_bitCount_0f7a4_2 : decode cJ6_bitCount_0f7a4 2 = .ok (.iconst 1, 1) := by decide +kernel
theorem dJ6_bitCount_0f7a4_3 : decode cJ6_bitCount_0f7a4 3 = .ok (.iushr, 1) := by decide +kernel
theorem dJ6_bitCount_0f7a4_4 : decode cJ6_bitCount_0f7a4 4 = .ok (.ldc_w 265, 3) := by decide +kernel
theorem dJ6_bitCount_0f7a4_7 : decode cJ6_bitCount_0f7a4 7 = .ok (.iand, 1) := by decide +kernel
theorem dJ6_bitCount_0f7a4_8 : decode cJ6_bitCount_0f7a4 8 = .ok (.isub, 1) := by decide +kernel
theorem dJ6_bitCount_0f7a4_9 : decode cJ6_bitCount_0f7a4 9 = .ok (.istore_n 0, 1) := by decide +kernel
theorem dJ6_bitCount_0f7a4_10 : decode cJ6_bitCount_0f7a4 10 = .ok (.iload_n 0, 1) := by decide +kernel
theorem dJ6_bitCount_0f7a4_11 : decode cJ6_bitCount_0f7a4 11 = .ok (.ldc_w 266, 3) := by decide +kernel
theorem dJ6_bitCount_0f7a4_14 : decode cJ6_bitCount_0f7a4 14 = .ok (.iand, 1) := by decide +kernel
theorem dJ6_bitCount_0f7a4_15 : decode cJ6_bitCount_0f7a4 15 = .ok (.iload_n 0, 1) := by decide +kernel
theorem dJ6_bitCount_0f7a4_16 : decode cJ6_bitCount_0f7a4 16 = .ok (.iconst 2, 1) := by decide +kernel
theorem dJ6_bitCount_0f7a4_17 : decode cJ6_bitCount_0f7a4 17 = .ok (.iushr, 1) := by decide +kernel
theorem dJ6_bitCount_0f7a4_18 : decode cJ6_bitCount_0f7a4 18 = .ok (.ldc_w 266, 3) := by decide +kernel
theorem dJ6_bitCount_0f7a4_21 : decode cJ6_bitCount_0f7a4 21 = .ok (.iand, 1) := by decide +kernel
theorem dJ6_bitCount_0f7a4_22 : decode cJ6_bitCount_0f7a4 22 = .ok (.iadd, 1) := by decide +kernel
theorem dJ6_bitCount_0f7a4_23 : decode cJ6_bitCount_0f7a4 23 = .ok (.istore_n 0, 1) := by decide +kernel
theorem dJ6_bitCount_0f7a4_24 : decode cJ6_bitCount_0f7a4 24 = .ok (.iload_n 0, 1) := by decide +kernel
theorem dJ6_bitCount_0f7a4_25 : decode cJ6_bitCount_0f7a4 25 = .ok (.iload_n 0, 1) := by decide +kernel
theorem dJ6_bitCount_0f7a4_26 : decode cJ6_bitCount_0f7a4 26 = .ok (.iconst 4, 1) := by decide +kernel
theorem dJ6_bitCount_0f7a4_27 : decode cJ6_bitCount_0f7a4 27 = .ok (.iushr, 1) := by decide +kernel
theorem dJ6_bitCount_0f7a4_28 : decode cJ6_bitCount_0f7a4 28 = .ok (.iadd, 1) := by decide +kernel
theorem dJ6_bitCount_0f7a4_29 : decode cJ6_bitCount_0f7a4 29 = .ok (.ldc_w 267, 3) := by decide +kernel
theorem dJ6_bitCount_0f7a4_32 : decode cJ6_bitCount_0f7a4 32 = .ok (.iand, 1) := by decide +kernel
theorem dJ6_bitCount_0f7a4_33 : decode cJ6_bitCount_0f7a4 33 = .ok (.istore_n 0, 1) := by decide +kernel
theorem dJ6_bitCount_0f7a4_34 : decode cJ6_bitCount_0f7a4 34 = .ok (.iload_n 0, 1) := by decide +kernel
theorem dJ6_bitCount_0f7a4_35 : decode cJ6_bitCount_0f7a4 35 = .ok (.iload_n 0, 1) := by decide +kernel
theorem dJ6_bitCount_0f7a4_36 : decode cJ6_bitCount_0f7a4 36 = .ok (.bipush 8, 2) := by decide +kernel
theorem dJ6_bitCount_0f7a4_38 : decode cJ6_bitCount_0f7a4 38 = .ok (.iushr, 1) := by decide +kernel
theorem dJ6_bitCount_0f7a4_39 : decode cJ6_bitCount_0f7a4 39 = .ok (.iadd, 1) := by decide +kernel
theorem dJ6_bitCount_0f7a4_40 : decode cJ6_bitCount_0f7a4 40 = .ok (.istore_n 0, 1) := by decide +kernel
theorem dJ6_bitCount_0f7a4_41 : decode cJ6_bitCount_0f7a4 41 = .ok (.iload_n 0, 1) := by decide +kernel
theorem dJ6_bitCount_0f7a4_42 : decode cJ6_bitCount_0f7a4 42 = .ok (.iload_n 0, 1) := by decide +kernel
theorem dJ6_bitCount_0f7a4_43 : decode cJ6_bitCount_0f7a4 43 = .ok (.bipush 16, 2) := by decide +kernel
theorem dJ6_bitCount_0f7a4_45 : decode cJ6_bitCount_0f7a4 45 = .ok (.iushr, 1) := by decide +kernel
theorem dJ6_bitCount_0f7a4_46 : decode cJ6_bitCount_0f7a4 46 = .ok (.iadd, 1) := by decide +kernel
theorem dJ6_bitCount_0f7a4_47 : decode cJ6_bitCount_0f7a4 47 = .ok (.istore_n 0, 1) := by decide +kernel
theorem dJ6_bitCount_0f7a4_48 : decode cJ6_bitCount_0f7a4 48 = .ok (.iload_n 0, 1) := by decide +kernel
theorem dJ6_bitCount_0f7a4_49 : decode cJ6_bitCount_0f7a4 49 = .ok (.bipush 63, 2) := by decide +kernel
theorem dJ6_bitCount_0f7a4_51 : decode cJ6_bitCount_0f7a4 51 = .ok (.iand, 1) := by decide +kernel
theorem dJ6_bitCount_0f7a4_52 : decode cJ6_bitCount_0f7a4 52 = .ok (.ireturn, 1) := by decide +kernel
end
section
theorem dX5_init_0 : decode cX5_init 0 = .ok (.aload_n 0, 1) := by decide +kernel
theorem dX5_init_1 : decode cX5_init 1 = .ok (.invokespecial 3, 3) := by decide +kernel
theorem dX5_init_4 : decode cX5_init 4 = .ok (.aload_n 0, 1) := by decide +kernel
theorem dX5_init_5 : decode cX5_init 5 = .ok (.bipush 8, 2) := by decide +kernel
theorem dX5_init_7 : decode cX5_init 7 = .ok (.anewarray 9, 3) := by decide +kernel
theorem dX5_init_10 : decode cX5_init 10 = .ok (.putfield 11, 3) := by decide +kernel
theorem dX5_init_13 : decode cX5_init 13 = .ok (.aload_n 0, 1) := by decide +kernel
theorem dX5_init_14 : decode cX5_init 14 = .ok (.bipush 12, 2) := by decide +kernel
theorem dX5_init_16 : decode cX5_init 16 = .ok (.newarray .int, 2) := by decide +kernel
theorem dX5_init_18 : decode cX5_init 18 = .ok (.putfield 15, 3) := by decide +kernel
theorem dX5_init_21 : decode cX5_init 21 = .ok (.aload_n 0, 1) := by decide +kernel
theorem dX5_init_22 : decode cX5_init 22 = .ok (.bipush 12, 2) := by decide +kernel
theorem dX5_init_24 : decode cX5_init 24 = .ok (.anewarray 19, 3) := by decide +kernel
theorem dX5_init_27 : decode cX5_init 27 = .ok (.putfield 21, 3) := by decide +kernel
theorem dX5_init_30 : decode cX5_init 30 = .ok (.aload_n 0, 1) := by decide +kernel
theorem dX5_init_31 : decode cX5_init 31 = .ok (.new 25, 3) := by decide +kernel
theorem dX5_init_34 : decode cX5_init 34 = .ok (.dup, 1) := by decide +kernel
theorem dX5_init_35 : decode cX5_init 35 = .ok (.invokespecial 27, 3) := by decide +kernel
theorem dX5_init_38 : decode cX5_init 38 = .ok (.putfield 28, 3) := by decide +kernel
theorem dX5_init_41 : decode cX5_init 41 = .ok (.aload_n 0, 1) := by decide +kernel
theorem dX5_init_42 : decode cX5_init 42 = .ok (.new 32, 3) := by decide +kernel
theorem dX5_init_45 : decode cX5_init 45 = .ok (.dup, 1) := by decide +kernel
theorem dX5_init_46 : decode cX5_init 46 = .ok (.invokespecial 34, 3) := by decide +kernel
theorem dX5_init_49 : decode cX5_init 49 = .ok (.putfield 35, 3) := by decide +kernel
theorem dX5_init_52 : decode cX5_init 52 = .ok (.aload_n 0, 1) := by decide +kernel
theorem dX5_init_53 : decode cX5_init 53 = .ok (.new 39, 3) := by decide +kernel
theorem dX5_init_56 : decode cX5_init 56 = .ok (.dup, 1) := by decide +kernel
theorem dX5_init_57 : decode cX5_init 57 = .ok (.invokespecial 41, 3) := by decide +kernel
theorem dX5_init_60 : decode cX5_init 60 = .ok (.putfield 42, 3) := by decide +kernel
theorem dX5_init_63 : decode cX5_init 63 = .ok (.aload_n 0, 1) := by decide +kernel
theorem dX5_init_64 : decode cX5_init 64 = .ok (.bipush 16, 2) := by decide +kernel
theorem dX5_init_66 : decode cX5_init 66 = .ok (.newarray .int, 2) := by decide +kernel
theorem dX5_init_68 : decode cX5_init 68 = .ok (.putfield 46, 3) := by decide +kernel
theorem dX5_init_71 : decode cX5_init 71 = .ok (.iconst 0, 1) := by decide +kernel
theorem dX5_init_72 : decode cX5_init 72 = .ok (.istore_n 1, 1) := by decide +kernel
theorem dX5_init_73 : decode cX5_init 73 = .ok (.iload_n 1, 1) := by decide +kernel
theorem dX5_init_74 : decode cX5_init 74 = .ok (.bipush 8, 2) := by decide +kernel
theorem dX5_init_76 : decode cX5_init 76 = .ok (.if_icmp .ge 22, 3) := by decide +kernel
theorem dX5_init_79 : decode cX5_init 79 = .ok (.aload_n 0, 1) := by decide +kernel
theorem dX5_init_80 : decode cX5_init 80 = .ok (.getfield 11, 3) := by decide +kernel
theorem dX5_init_83 : decode cX5_init 83 = .ok (.iload_n 1, 1) := by decide +kernel
theorem dX5_init_84 : decode cX5_init 84 = .ok (.new 9, 3) := by decide +kernel
theorem dX5_init_87 : decode cX5_init 87 = .ok (.dup, 1) := by decide +kernel
theorem dX5_init_88 : decode cX5_init 88 = .ok (.invokespecial 49, 3) := by decide +kernel
theorem dX5_init_91 : decode cX5_init 91 = .ok (.aastore, 1) := by decide +kernel
theorem dX5_init_92 : decode cX5_init 92 = .ok (.iinc 1 1, 3) := by decide +kernel
theorem dX5_init_95 : decode cX5_init 95 = .ok (.goto (-22), 3) := by decide +kernel
theorem dX5_init_98 : decode cX5_init 98 = .ok (.iconst 0, 1) := by decide +kernel
theorem dX5_init_99 : decode cX5_init 99 = .ok (.istore_n 1, 1) := by decide +kernel
theorem dX5_init_100 : decode cX5_init 100 = .ok (.iload_n 1, 1) := by decide +kernel
theorem dX5_init_101 : decode cX5_init 101 = .ok (.bipush 12, 2) := by decide +kernel
theorem dX5_init_103 : decode cX5_init 103 = .ok (.if_icmp .ge 25, 3) := by decide +kernel
theorem dX5_init_106 : decode cX5_init 106 = .ok (.aload_n 0, 1) := by decide +kernel
theorem dX5_init_107 : decode cX5_init 107 = .ok (.getfield 21, 3) := by decide +kernel
theorem dX5_init_110 : decode cX5_init 110 = .ok (.iload_n 1, 1) := by decide +kernel
theorem dX5_init_111 : decode cX5_init 111 = .ok (.new 19, 3) := by decide +kernel
theorem dX5_init_114 : decode cX5_init 114 = .ok (.dup, 1) := by decide +kernel
theorem dX5_init_115 : decode cX5_init 115 = .ok (.iconst 1, 1) := by decide +kernel
theorem dX5_init_116 : decode cX5_init 116 = .ok (.iload_n 1, 1) := by decide +kernel
theorem dX5_init_117 : decode cX5_init 117 = .ok (.ishl, 1) := by decide +kernel
theorem dX5_init_118 : decode cX5_init 118 = .ok (.invokespecial 50, 3) := by decide +kernel
theorem dX5_init_121 : decode cX5_init 121 = .ok (.aastore, 1) := by decide +kernel
theorem dX5_init_122 : decode cX5_init 122 = .ok (.iinc 1 1, 3) := by decide +kernel
theorem dX5_init_125 : decode cX5_init 125 = .ok (.goto (-25), 3) := by decide +kernel
theorem dX5_init_128 : decode cX5_init 128 = .ok (.return_, 1) := by decide +kernel
theorem dX5_sheet_0 : decode cX5_sheet 0 = .ok (.iload_n 1, 1) := by decide +kernel
theorem dX5_sheet_1 : decode cX5_sheet 1 = .ok (.invokestatic 53, 3) := by decide +kernel
theorem dX5_sheet_4 : decode cX5_sheet 4 = .ok (.ifCond .eq 18, 3) := by decide +kernel
theorem dX5_sheet_7 : decode cX5_sheet 7 = .ok (.iload_n 2, 1) := by decide +kernel
theorem dX5_sheet_8 : decode cX5_sheet 8 = .ok (.ifCond .lt 14, 3) := by decide +kernel
theorem dX5_sheet_11 : decode cX5_sheet 11 = .ok (.iload_n 2, 1) := by decide +kernel
theorem dX5_sheet_12 : decode cX5_sheet 12 = .ok (.iconst 3, 1) := by decide +kernel
theorem dX5_sheet_13 : decode cX5_sheet 13 = .ok (.if_icmp .ge 9, 3) := by decide +kernel
theorem dX5_sheet_16 : decode cX5_sheet 16 = .ok (.iload_n 3, 1) := by decide +kernel
theorem dX5_sheet_17 : decode cX5_sheet 17 = .ok (.bipush 60, 2) := by decide +kernel
theorem dX5_sheet_19 : decode cX5_sheet 19 = .ok (.if_icmp .le 6, 3) := by decide +kernel
theorem dX5_sheet_22 : decode cX5_sheet 22 = .ok (.ldc 57, 2) := by decide +kernel
theorem dX5_sheet_24 : decode cX5_sheet 24 = .ok (.ireturn, 1) := by decide +kernel
theorem dX5_sheet_25 : decode cX5_sheet 25 = .ok (.iload_n 3, 1) := by decide +kernel
theorem dX5_sheet_26 : decode cX5_sheet 26 = .ok (.ifCond .ge 9, 3) := by decide +kernel
theorem dX5_sheet_29 : decode cX5_sheet 29 = .ok (.aload_n 0, 1) := by decide +kernel
theorem dX5_sheet_30 : decode cX5_sheet 30 = .ok (.iconst 4, 1) := by decide +kernel
theorem dX5_sheet_31 : decode cX5_sheet 31 = .ok (.invokevirtual 58, 3) := by decide +kernel
theorem dX5_sheet_34 : decode cX5_sheet 34 = .ok (.ireturn, 1) := by decide +kernel
theorem dX5_sheet_35 : decode cX5_sheet 35 = .ok (.aload_n 0, 1) := by decide +kernel
theorem dX5_sheet_36 : decode cX5_sheet 36 = .ok (.getfield 11, 3) := by decide +kernel
theorem dX5_sheet_39 : decode cX5_sheet 39 = .ok (.iload_n 1, 1) := by decide +kernel
theorem dX5_sheet_40 : decode cX5_sheet 40 = .ok (.aaload, 1) := by decide +kernel
theorem dX5_sheet_41 : decode cX5_sheet 41 = .ok (.iload_n 2, 1) := by decide +kernel
theorem dX5_sheet_42 : decode cX5_sheet 42 = .ok (.iload_n 3, 1) := by decide +kernel
theorem dX5_sheet_43 : decode cX5_sheet 43 = .ok (.invokevirtual 62, 3) := by decide +kernel
theorem dX5_sheet_46 : decode cX5_sheet 46 = .ok (.aload_n 0, 1) := by decide +kernel
theorem dX5_sheet_47 : decode cX5_sheet 47 = .ok (.iload_n 3, 1) := by decide +kernel
theorem dX5_sheet_48 : decode cX5_sheet 48 = .ok (.invokevirtual 66, 3) := by decide +kernel
theorem dX5_sheet_51 : decode cX5_sheet 51 = .ok (.ireturn, 1) := by decide +kernel
theorem dX5_set_0 : decode cX5_set 0 = .ok (.iload_n 1, 1) := by decide +kernel
theorem dX5_set_1 : decode cX5_set 1 = .ok (.invokestatic 53, 3) := by decide +kernel
theorem dX5_set_4 : decode cX5_set 4 = .ok (.ifCond .ne 6, 3) := by decide +kernel
theorem dX5_set_7 : decode cX5_set 7 = .ok (.ldc 57, 2) := by decide +kernel
theorem dX5_set_9 : decode cX5_set 9 = .ok (.ireturn, 1) := by decide +kernel
theorem dX5_set_10 : decode cX5_set 10 = .ok (.aload_n 0, 1) := by decide +kernel
theorem dX5_set_11 : decode cX5_set 11 = .ok (.getfield 11, 3) := by decide +kernel
theorem dX5_set_14 : decode cX5_set 14 = .ok (.iload_n 1, 1) := by decide +kernel
theorem dX5_set_15 : decode cX5_set 15 = .ok (.aaload, 1) := by decide +kernel
theorem dX5_set_16 : decode cX5_set 16 = .ok (.astore 4, 2) := by decide +kernel
theorem dX5_set_18 : decode cX5_set 18 = .ok (.aload 4, 2) := by decide +kernel
theorem dX5_set_20 : decode cX5_set 20 = .ok (.invokevirtual 69, 3) := by decide +kernel
theorem dX5_set_23 : decode cX5_set 23 = .ok (.ifCond .eq 9, 3) := by decide +kernel
theorem dX5_set_26 : decode cX5_set 26 = .ok (.aload_n 0, 1) := by decide +kernel
theorem dX5_set_27 : decode cX5_set 27 = .ok (.iconst 1, 1) := by decide +kernel
theorem dX5_set_28 : decode cX5_set 28 = .ok (.invokevirtual 58, 3) := by decide +kernel
theorem dX5_set_31 : decode cX5_set 31 = .ok (.ireturn, 1) := by decide +kernel
theorem dX5_set_32 : decode cX5_set 32 = .ok (.aload 4, 2) := by decide +kernel
theorem dX5_set_34 : decode cX5_set 34 = .ok (.iload_n 2, 1) := by decide +kernel
theorem dX5_set_35 : decode cX5_set 35 = .ok (.iconst 1, 1) := by decide +kernel
theorem dX5_set_36 : decode cX5_set 36 = .ok (.invokevirtual 73, 3) := by decide +kernel
theorem dX5_set_39 : decode cX5_set 39 = .ok (.ifCond .ne 9, 3) := by decide +kernel
theorem dX5_set_42 : decode cX5_set 42 = .ok (.aload_n 0, 1) := by decide +kernel
theorem dX5_set_43 : decode cX5_set 43 = .ok (.iconst 2, 1) := by decide +kernel
theorem dX5_set_44 : decode cX5_set 44 = .ok (.invokevirtual 58, 3) := by decide +kernel
theorem dX5_set_47 : decode cX5_set 47 = .ok (.ireturn, 1) := by decide +kernel
theorem dX5_set_48 : decode cX5_set 48 = .ok (.aload_n 0, 1) := by decide +kernel
theorem dX5_set_49 : decode cX5_set 49 = .ok (.aload 4, 2) := by decide +kernel
theorem dX5_set_51 : decode cX5_set 51 = .ok (.iload_n 2, 1) := by decide +kernel
theorem dX5_set_52 : decode cX5_set 52 = .ok (.iload_n 3, 1) := by decide +kernel
theorem dX5_set_53 : decode cX5_set 53 = .ok (.invokevirtual 77, 3) := by decide +kernel
theorem dX5_set_56 : decode cX5_set 56 = .ok (.invokevirtual 66, 3) := by decide +kernel
theorem dX5_set_59 : decode cX5_set 59 = .ok (.ireturn, 1) := by decide +kernel
theorem dX5_copy_0 : decode cX5_copy 0 = .ok (.iload_n 1, 1) := by decide +kernel
theorem dX5_copy_1 : decode cX5_copy 1 = .ok (.invokestatic 53, 3) := by decide +kernel
theorem dX5_copy_4 : decode cX5_copy 4 = .ok (.ifCond .eq 10, 3) := by decide +kernel
theorem dX5_copy_7 : decode cX5_copy 7 = .ok (.iload_n 3, 1) := by decide +kernel
theorem dX5_copy_8 : decode cX5_copy 8 = .ok (.invokestatic 53, 3) := by decide +kernel
theorem dX5_copy_11 : decode cX5_copy 11 = .ok (.ifCond .ne 6, 3) := by decide +kernel
theorem dX5_copy_14 : decode cX5_copy 14 = .ok (.ldc 57, 2) := by decide +kernel
theorem dX5_copy_16 : decode cX5_copy 16 = .ok (.ireturn, 1) := by decide +kernel
theorem dX5_copy_17 : decode cX5_copy 17 = .ok (.aload_n 0, 1) := by decide +kernel
theorem dX5_copy_18 : decode cX5_copy 18 = .ok (.getfield 11, 3) := by decide +kernel
theorem dX5_copy_21 : decode cX5_copy 21 = .ok (.iload_n 1, 1) := by decide +kernel
theorem dX5_copy_22 : decode cX5_copy 22 = .ok (.aaload, 1) := by decide +kernel
theorem dX5_copy_23 : decode cX5_copy 23 = .ok (.astore 6, 2) := by decide +kernel
theorem dX5_copy_25 : decode cX5_copy 25 = .ok (.aload_n 0, 1) := by decide +kernel
theorem dX5_copy_26 : decode cX5_copy 26 = .ok (.getfield 11, 3) := by decide +kernel
theorem dX5_copy_29 : decode cX5_copy 29 = .ok (.iload_n 3, 1) := by decide +kernel
theorem dX5_copy_30 : decode cX5_copy 30 = .ok (.aaload, 1) := by decide +kernel
theorem dX5_copy_31 : decode cX5_copy 31 = .ok (.astore 7, 2) := by decide +kernel
theorem dX5_copy_33 : decode cX5_copy 33 = .ok (.aload 6, 2) := by decide +kernel
theorem dX5_copy_35 : decode cX5_copy 35 = .ok (.invokevirtual 69, 3) := by decide +kernel
theorem dX5_copy_38 : decode cX5_copy 38 = .ok (.ifCond .ne 11, 3) := by decide +kernel
theorem dX5_copy_41 : decode cX5_copy 41 = .ok (.aload 7, 2) := by decide +kernel
theorem dX5_copy_43 : decode cX5_copy 43 = .ok (.invokevirtual 69, 3) := by decide +kernel
theorem dX5_copy_46 : decode cX5_copy 46 = .ok (.ifCond .eq 9, 3) := by decide +kernel
theorem dX5_copy_49 : decode cX5_copy 49 = .ok (.aload_n 0, 1) := by decide +kernel
theorem dX5_copy_50 : decode cX5_copy 50 = .ok (.iconst 1, 1) := by decide +kernel
theorem dX5_copy_51 : decode cX5_copy 51 = .ok (.invokevirtual 58, 3) := by decide +kernel
theorem dX5_copy_54 : decode cX5_copy 54 = .ok (.ireturn, 1) := by decide +kernel
theorem dX5_copy_55 : decode cX5_copy 55 = .ok (.aload 6, 2) := by decide +kernel
theorem dX5_copy_57 : decode cX5_copy 57 = .ok (.getfield 81, 3) := by decide +kernel
theorem dX5_copy_60 : decode cX5_copy 60 = .ok (.aload 7, 2) := by decide +kernel
theorem dX5_copy_62 : decode cX5_copy 62 = .ok (.getfield 81, 3) := by decide +kernel
theorem dX5_copy_65 : decode cX5_copy 65 = .ok (.if_icmp .eq 9, 3) := by decide +kernel
theorem dX5_copy_68 : decode cX5_copy 68 = .ok (.aload_n 0, 1) := by decide +kernel
theorem dX5_copy_69 : decode cX5_copy 69 = .ok (.iconst 5, 1) := by decide +kernel
theorem dX5_copy_70 : decode cX5_copy 70 = .ok (.invokevirtual 58, 3) := by decide +kernel
theorem dX5_copy_73 : decode cX5_copy 73 = .ok (.ireturn, 1) := by decide +kernel
theorem dX5_copy_74 : decode cX5_copy 74 = .ok (.aload 6, 2) := by decide +kernel
theorem dX5_copy_76 : decode cX5_copy 76 = .ok (.iload_n 2, 1) := by decide +kernel
theorem dX5_copy_77 : decode cX5_copy 77 = .ok (.iload 5, 2) := by decide +kernel
theorem dX5_copy_79 : decode cX5_copy 79 = .ok (.invokevirtual 73, 3) := by decide +kernel
theorem dX5_copy_82 : decode cX5_copy 82 = .ok (.ifCond .eq 15, 3) := by decide +kernel
theorem dX5_copy_85 : decode cX5_copy 85 = .ok (.aload 7, 2) := by decide +kernel
theorem dX5_copy_87 : decode cX5_copy 87 = .ok (.iload 4, 2) := by decide +kernel
theorem dX5_copy_89 : decode cX5_copy 89 = .ok (.iload 5, 2) := by decide +kernel
theorem dX5_copy_91 : decode cX5_copy 91 = .ok (.invokevirtual 73, 3) := by decide +kernel
theorem dX5_copy_94 : decode cX5_copy 94 = .ok (.ifCond .ne 9, 3) := by decide +kernel
theorem dX5_copy_97 : decode cX5_copy 97 = .ok (.aload_n 0, 1) := by decide +kernel
theorem dX5_copy_98 : decode cX5_copy 98 = .ok (.iconst 2, 1) := by decide +kernel
theorem dX5_copy_99 : decode cX5_copy 99 = .ok (.invokevirtual 58, 3) := by decide +kernel
theorem dX5_copy_102 : decode cX5_copy 102 = .ok (.ireturn, 1) := by decide +kernel
theorem dX5_copy_103 : decode cX5_copy 103 = .ok (.aload 6, 2) := by decide +kernel
theorem dX5_copy_105 : decode cX5_copy 105 = .ok (.getfield 85, 3) := by decide +kernel
theorem dX5_copy_108 : decode cX5_copy 108 = .ok (.iload_n 2, 1) := by decide +kernel
theorem dX5_copy_109 : decode cX5_copy 109 = .ok (.aload 7, 2) := by decide +kernel
theorem dX5_copy_111 : decode cX5_copy 111 = .ok (.getfield 85, 3) := by decide +kernel
theorem dX5_copy_114 : decode cX5_copy 114 = .ok (.iload 4, 2) := by decide +kernel
theorem dX5_copy_116 : decode cX5_copy 116 = .ok (.iload 5, 2) := by decide +kernel
theorem dX5_copy_118 : decode cX5_copy 118 = .ok (.invokestatic 88, 3) := by decide +kernel
theorem dX5_copy_121 : decode cX5_copy 121 = .ok (.aload_n 0, 1) := by decide +kernel
theorem dX5_copy_122 : decode cX5_copy 122 = .ok (.iload 5, 2) := by decide +kernel
theorem dX5_copy_124 : decode cX5_copy 124 = .ok (.invokevirtual 66, 3) := by decide +kernel
theorem dX5_copy_127 : decode cX5_copy 127 = .ok (.ireturn, 1) := by decide +kernel
theorem dX5_drop_0 : decode cX5_drop 0 = .ok (.iload_n 1, 1) := by decide +kernel
theorem dX5_drop_1 : decode cX5_drop 1 = .ok (.invokestatic 53, 3) := by decide +kernel
theorem dX5_drop_4 : decode cX5_drop 4 = .ok (.ifCond .ne 6, 3) := by decide +kernel
theorem dX5_drop_7 : decode cX5_drop 7 = .ok (.ldc 57, 2) := by decide +kernel
theorem dX5_drop_9 : decode cX5_drop 9 = .ok (.ireturn, 1) := by decide +kernel
theorem dX5_drop_10 : decode cX5_drop 10 = .ok (.aload_n 0, 1) := by decide +kernel
theorem dX5_drop_11 : decode cX5_drop 11 = .ok (.getfield 11, 3) := by decide +kernel
theorem dX5_drop_14 : decode cX5_drop 14 = .ok (.iload_n 1, 1) := by decide +kernel
theorem dX5_drop_15 : decode cX5_drop 15 = .ok (.aaload, 1) := by decide +kernel
theorem dX5_drop_16 : decode cX5_drop 16 = .ok (.astore_n 2, 1) := by decide +kernel
theorem dX5_drop_17 : decode cX5_drop 17 = .ok (.aload_n 2, 1) := by decide +kernel
theorem dX5_drop_18 : decode cX5_drop 18 = .ok (.invokevirtual 69, 3) := by decide +kernel
theorem dX5_drop_21 : decode cX5_drop 21 = .ok (.ifCond .eq 9, 3) := by decide +kernel
theorem dX5_drop_24 : decode cX5_drop 24 = .ok (.aload_n 0, 1) := by decide +kernel
theorem dX5_drop_25 : decode cX5_drop 25 = .ok (.iconst 1, 1) := by decide +kernel
theorem dX5_drop_26 : decode cX5_drop 26 = .ok (.invokevirtual 58, 3) := by decide +kernel
theorem dX5_drop_29 : decode cX5_drop 29 = .ok (.ireturn, 1) := by decide +kernel
theorem dX5_drop_30 : decode cX5_drop 30 = .ok (.aload_n 2, 1) := by decide +kernel
theorem dX5_drop_31 : decode cX5_drop 31 = .ok (.getfield 94, 3) := by decide +kernel
theorem dX5_drop_34 : decode cX5_drop 34 = .ok (.istore_n 3, 1) := by decide +kernel
theorem dX5_drop_35 : decode cX5_drop 35 = .ok (.aload_n 2, 1) := by decide +kernel
theorem dX5_drop_36 : decode cX5_drop 36 = .ok (.invokevirtual 97, 3) := by decide +kernel
theorem dX5_drop_39 : decode cX5_drop 39 = .ok (.aload_n 0, 1) := by decide +kernel
theorem dX5_drop_40 : decode cX5_drop 40 = .ok (.iload_n 3, 1) := by decide +kernel
theorem dX5_drop_41 : decode cX5_drop 41 = .ok (.invokevirtual 66, 3) := by decide +kernel
theorem dX5_drop_44 : decode cX5_drop 44 = .ok (.ireturn, 1) := by decide +kernel
theorem dX5_point_0 : decode cX5_point 0 = .ok (.iload_n 1, 1) := by decide +kernel
theorem dX5_point_1 : decode cX5_point 1 = .ok (.iload_n 2, 1) := by decide +kernel
theorem dX5_point_2 : decode cX5_point 2 = .ok (.invokestatic 100, 3) := by decide +kernel
theorem dX5_point_5 : decode cX5_point 5 = .ok (.ifCond .ne 6, 3) := by decide +kernel
theorem dX5_point_8 : decode cX5_point 8 = .ok (.ldc 57, 2) := by decide +kernel
theorem dX5_point_10 : decode cX5_point 10 = .ok (.ireturn, 1) := by decide +kernel
theorem dX5_point_11 : decode cX5_point 11 = .ok (.iload_n 1, 1) := by decide +kernel
theorem dX5_point_12 : decode cX5_point 12 = .ok (.iload_n 2, 1) := by decide +kernel
theorem dX5_point_13 : decode cX5_point 13 = .ok (.invokestatic 103, 3) := by decide +kernel
theorem dX5_point_16 : decode cX5_point 16 = .ok (.istore_n 3, 1) := by decide +kernel
theorem dX5_point_17 : decode cX5_point 17 = .ok (.aload_n 0, 1) := by decide +kernel
theorem dX5_point_18 : decode cX5_point 18 = .ok (.getfield 28, 3) := by decide +kernel
theorem dX5_point_21 : decode cX5_point 21 = .ok (.getfield 106, 3) := by decide +kernel
theorem dX5_point_24 : decode cX5_point 24 = .ok (.iload_n 3, 1) := by decide +kernel
theorem dX5_point_25 : decode cX5_point 25 = .ok (.baload, 1) := by decide +kernel
theorem dX5_point_26 : decode cX5_point 26 = .ok (.ifCond .ne 17, 3) := by decide +kernel
theorem dX5_point_29 : decode cX5_point 29 = .ok (.aload_n 0, 1) := by decide +kernel
theorem dX5_point_30 : decode cX5_point 30 = .ok (.getfield 28, 3) := by decide +kernel
theorem dX5_point_33 : decode cX5_point 33 = .ok (.getfield 110, 3) := by decide +kernel
theorem dX5_point_36 : decode cX5_point 36 = .ok (.iload_n 3, 1) := by decide +kernel
theorem dX5_point_37 : decode cX5_point 37 = .ok (.iaload, 1) := by decide +kernel
theorem dX5_point_38 : decode cX5_point 38 = .ok (.ldc 113, 2) := by decide +kernel
theorem dX5_point_40 : decode cX5_point 40 = .ok (.if_icmp .eq 6, 3) := by decide +kernel
theorem dX5_point_43 : decode cX5_point 43 = .ok (.ldc 114, 2) := by decide +kernel
theorem dX5_point_45 : decode cX5_point 45 = .ok (.ireturn, 1) := by decide +kernel
theorem dX5_point_46 : decode cX5_point 46 = .ok (.aload_n 0, 1) := by decide +kernel
theorem dX5_point_47 : decode cX5_point 47 = .ok (.getfield 115, 3) := by decide +kernel
theorem dX5_point_50 : decode cX5_point 50 = .ok (.bipush 12, 2) := by decide +kernel
theorem dX5_point_52 : decode cX5_point 52 = .ok (.if_icmp .lt 6, 3) := by decide +kernel
theorem dX5_point_55 : decode cX5_point 55 = .ok (.ldc 118, 2) := by decide +kernel
theorem dX5_point_57 : decode cX5_point 57 = .ok (.ireturn, 1) := by decide +kernel
theorem dX5_point_58 : decode cX5_point 58 = .ok (.aload_n 0, 1) := by decide +kernel
theorem dX5_point_59 : decode cX5_point 59 = .ok (.getfield 15, 3) := by decide +kernel
theorem dX5_point_62 : decode cX5_point 62 = .ok (.aload_n 0, 1) := by decide +kernel
theorem dX5_point_63 : decode cX5_point 63 = .ok (.getfield 115, 3) := by decide +kernel
theorem dX5_point_66 : decode cX5_point 66 = .ok (.iload_n 3, 1) := by decide +kernel
theorem dX5_point_67 : decode cX5_point 67 = .ok (.iastore, 1) := by decide +kernel
theorem dX5_point_68 : decode cX5_point 68 = .ok (.aload_n 0, 1) := by decide +kernel
theorem dX5_point_69 : decode cX5_point 69 = .ok (.getfield 28, 3) := by decide +kernel
theorem dX5_point_72 : decode cX5_point 72 = .ok (.getfield 110, 3) := by decide +kernel
theorem dX5_point_75 : decode cX5_point 75 = .ok (.iload_n 3, 1) := by decide +kernel
theorem dX5_point_76 : decode cX5_point 76 = .ok (.aload_n 0, 1) := by decide +kernel
theorem dX5_point_77 : decode cX5_point 77 = .ok (.getfield 115, 3) := by decide +kernel
theorem dX5_point_80 : decode cX5_point 80 = .ok (.iastore, 1) := by decide +kernel
theorem dX5_point_81 : decode cX5_point 81 = .ok (.aload_n 0, 1) := by decide +kernel
theorem dX5_point_82 : decode cX5_point 82 = .ok (.dup, 1) := by decide +kernel
theorem dX5_point_83 : decode cX5_point 83 = .ok (.getfield 115, 3) := by decide +kernel
theorem dX5_point_86 : decode cX5_point 86 = .ok (.dup_x1, 1) := by decide +kernel
theorem dX5_point_87 : decode cX5_point 87 = .ok (.iconst 1, 1) := by decide +kernel
theorem dX5_point_88 : decode cX5_point 88 = .ok (.iadd, 1) := by decide +kernel
theorem dX5_point_89 : decode cX5_point 89 = .ok (.putfield 115, 3) := by decide +kernel
theorem dX5_point_92 : decode cX5_point 92 = .ok (.ireturn, 1) := by decide +kernel
theorem dX5_shut_0 : decode cX5_shut 0 = .ok (.iload_n 1, 1) := by decide +kernel
theorem dX5_shut_1 : decode cX5_shut 1 = .ok (.iload_n 2, 1) := by decide +kernel
theorem dX5_shut_2 : decode cX5_shut 2 = .ok (.invokestatic 100, 3) := by decide +kernel
theorem dX5_shut_5 : decode cX5_shut 5 = .ok (.ifCond .ne 6, 3) := by decide +kernel
theorem dX5_shut_8 : decode cX5_shut 8 = .ok (.ldc 57, 2) := by decide +kernel
theorem dX5_shut_10 : decode cX5_shut 10 = .ok (.ireturn, 1) := by decide +kernel
theorem dX5_shut_11 : decode cX5_shut 11 = .ok (.iload_n 1, 1) := by decide +kernel
theorem dX5_shut_12 : decode cX5_shut 12 = .ok (.iload_n 2, 1) := by decide +kernel
theorem dX5_shut_13 : decode cX5_shut 13 = .ok (.invokestatic 103, 3) := by decide +kernel
theorem dX5_shut_16 : decode cX5_shut 16 = .ok (.istore_n 3, 1) := by decide +kernel
theorem dX5_shut_17 : decode cX5_shut 17 = .ok (.aload_n 0, 1) := by decide +kernel
theorem dX5_shut_18 : decode cX5_shut 18 = .ok (.getfield 28, 3) := by decide +kernel
theorem dX5_shut_21 : decode cX5_shut 21 = .ok (.getfield 110, 3) := by decide +kernel
theorem dX5_shut_24 : decode cX5_shut 24 = .ok (.iload_n 3, 1) := by decide +kernel
theorem dX5_shut_25 : decode cX5_shut 25 = .ok (.iaload, 1) := by decide +kernel
theorem dX5_shut_26 : decode cX5_shut 26 = .ok (.ldc 113, 2) := by decide +kernel
theorem dX5_shut_28 : decode cX5_shut 28 = .ok (.if_icmp .ne 14, 3) := by decide +kernel
theorem dX5_shut_31 : decode cX5_shut 31 = .ok (.aload_n 0, 1) := by decide +kernel
theorem dX5_shut_32 : decode cX5_shut 32 = .ok (.getfield 28, 3) := by decide +kernel
theorem dX5_shut_35 : decode cX5_shut 35 = .ok (.iload_n 3, 1) := by decide +kernel
theorem dX5_shut_36 : decode cX5_shut 36 = .ok (.invokevirtual 119, 3) := by decide +kernel
theorem dX5_shut_39 : decode cX5_shut 39 = .ok (.ifCond .eq 6, 3) := by decide +kernel
theorem dX5_shut_42 : decode cX5_shut 42 = .ok (.ldc 114, 2) := by decide +kernel
theorem dX5_shut_44 : decode cX5_shut 44 = .ok (.ireturn, 1) := by decide +kernel
theorem dX5_shut_45 : decode cX5_shut 45 = .ok (.aload_n 0, 1) := by decide +kernel
theorem dX5_shut_46 : decode cX5_shut 46 = .ok (.iload_n 3, 1) := by decide +kernel
theorem dX5_shut_47 : decode cX5_shut 47 = .ok (.iconst 1, 1) := by decide +kernel
theorem dX5_shut_48 : decode cX5_shut 48 = .ok (.invokevirtual 122, 3) := by decide +kernel
theorem dX5_shut_51 : decode cX5_shut 51 = .ok (.ireturn, 1) := by decide +kernel
theorem dX5_open_0 : decode cX5_open 0 = .ok (.iload_n 1, 1) := by decide +kernel
theorem dX5_open_1 : decode cX5_open 1 = .ok (.iload_n 2, 1) := by decide +kernel
theorem dX5_open_2 : decode cX5_open 2 = .ok (.invokestatic 100, 3) := by decide +kernel
theorem dX5_open_5 : decode cX5_open 5 = .ok (.ifCond .eq 16, 3) := by decide +kernel
theorem dX5_open_8 : decode cX5_open 8 = .ok (.aload_n 0, 1) := by decide +kernel
theorem dX5_open_9 : decode cX5_open 9 = .ok (.iload_n 1, 1) := by decide +kernel
theorem dX5_open_10 : decode cX5_open 10 = .ok (.iload_n 2, 1) := by decide +kernel
theorem dX5_open_11 : decode cX5_open 11 = .ok (.invokestatic 103, 3) := by decide +kernel
theorem dX5_open_14 : decode cX5_open 14 = .ok (.iconst 0, 1) := by decide +kernel
theorem dX5_open_15 : decode cX5_open 15 = .ok (.invokevirtual 122, 3) := by decide +kernel
theorem dX5_open_18 : decode cX5_open 18 = .ok (.goto 5, 3) := by decide +kernel
theorem dX5_open_21 : decode cX5_open 21 = .ok (.ldc 57, 2) := by decide +kernel
theorem dX5_open_23 : decode cX5_open 23 = .ok (.ireturn, 1) := by decide +kernel
theorem dX5_line_0 : decode cX5_line 0 = .ok (.aload_n 0, 1) := by decide +kernel
theorem dX5_line_1 : decode cX5_line 1 = .ok (.iload_n 1, 1) := by decide +kernel
theorem dX5_line_2 : decode cX5_line 2 = .ok (.invokevirtual 126, 3) := by decide +kernel
theorem dX5_line_5 : decode cX5_line 5 = .ok (.ifCond .eq 16, 3) := by decide +kernel
theorem dX5_line_8 : decode cX5_line 8 = .ok (.aload_n 0, 1) := by decide +kernel
theorem dX5_line_9 : decode cX5_line 9 = .ok (.iload_n 2, 1) := by decide +kernel
theorem dX5_line_10 : decode cX5_line 10 = .ok (.invokevirtual 126, 3) := by decide +kernel
theorem dX5_line_13 : decode cX5_line 13 = .ok (.ifCond .eq 8, 3) := by decide +kernel
theorem dX5_line_16 : decode cX5_line 16 = .ok (.iload_n 1, 1) := by decide +kernel
theorem dX5_line_17 : decode cX5_line 17 = .ok (.iload_n 2, 1) := by decide +kernel
theorem dX5_line_18 : decode cX5_line 18 = .ok (.if_icmp .ne 6, 3) := by decide +kernel
theorem dX5_line_21 : decode cX5_line 21 = .ok (.ldc 57, 2) := by decide +kernel
theorem dX5_line_23 : decode cX5_line 23 = .ok (.ireturn, 1) := by decide +kernel
theorem dX5_line_24 : decode cX5_line 24 = .ok (.aload_n 0, 1) := by decide +kernel
theorem dX5_line_25 : decode cX5_line 25 = .ok (.getfield 129, 3) := by decide +kernel
theorem dX5_line_28 : decode cX5_line 28 = .ok (.bipush 12, 2) := by decide +kernel
theorem dX5_line_30 : decode cX5_line 30 = .ok (.if_icmp .lt 6, 3) := by decide +kernel
theorem dX5_line_33 : decode cX5_line 33 = .ok (.ldc 118, 2) := by decide +kernel
theorem dX5_line_35 : decode cX5_line 35 = .ok (.ireturn, 1) := by decide +kernel
theorem dX5_line_36 : decode cX5_line 36 = .ok (.aload_n 0, 1) := by decide +kernel
theorem dX5_line_37 : decode cX5_line 37 = .ok (.getfield 21, 3) := by decide +kernel
theorem dX5_line_40 : decode cX5_line 40 = .ok (.aload_n 0, 1) := by decide +kernel
theorem dX5_line_41 : decode cX5_line 41 = .ok (.getfield 129, 3) := by decide +kernel
theorem dX5_line_44 : decode cX5_line 44 = .ok (.aaload, 1) := by decide +kernel
theorem dX5_line_45 : decode cX5_line 45 = .ok (.aload_n 0, 1) := by decide +kernel
theorem dX5_line_46 : decode cX5_line 46 = .ok (.getfield 15, 3) := by decide +kernel
theorem dX5_line_49 : decode cX5_line 49 = .ok (.iload_n 1, 1) := by decide +kernel
theorem dX5_line_50 : decode cX5_line 50 = .ok (.iaload, 1) := by decide +kernel
theorem dX5_line_51 : decode cX5_line 51 = .ok (.aload_n 0, 1) := by decide +kernel
theorem dX5_line_52 : decode cX5_line 52 = .ok (.getfield 15, 3) := by decide +kernel
theorem dX5_line_55 : decode cX5_line 55 = .ok (.iload_n 2, 1) := by decide +kernel
theorem dX5_line_56 : decode cX5_line 56 = .ok (.iaload, 1) := by decide +kernel
theorem dX5_line_57 : decode cX5_line 57 = .ok (.invokevirtual 132, 3) := by decide +kernel
theorem dX5_line_60 : decode cX5_line 60 = .ok (.aload_n 0, 1) := by decide +kernel
theorem dX5_line_61 : decode cX5_line 61 = .ok (.dup, 1) := by decide +kernel
theorem dX5_line_62 : decode cX5_line 62 = .ok (.getfield 129, 3) := by decide +kernel
theorem dX5_line_65 : decode cX5_line 65 = .ok (.dup_x1, 1) := by decide +kernel
theorem dX5_line_66 : decode cX5_line 66 = .ok (.iconst 1, 1) := by decide +kernel
theorem dX5_line_67 : decode cX5_line 67 = .ok (.iadd, 1) := by decide +kernel
theorem dX5_line_68 : decode cX5_line 68 = .ok (.putfield 129, 3) := by decide +kernel
theorem dX5_line_71 : decode cX5_line 71 = .ok (.ireturn, 1) := by decide +kernel
theorem dX5_rule_0 : decode cX5_rule 0 = .ok (.ldc 57, 2) := by decide +kernel
theorem dX5_rule_2 : decode cX5_rule 2 = .ok (.istore_n 3, 1) := by decide +kernel
theorem dX5_rule_3 : decode cX5_rule 3 = .ok (.iload_n 1, 1) := by decide +kernel
theorem dX5_rule_4 : decode cX5_rule 4 = .ok (.ifCond .ne 40, 3) := by decide +kernel
theorem dX5_rule_7 : decode cX5_rule 7 = .ok (.iload_n 2, 1) := by decide +kernel
theorem dX5_rule_8 : decode cX5_rule 8 = .ok (.iconst 1, 1) := by decide +kernel
theorem dX5_rule_9 : decode cX5_rule 9 = .ok (.if_icmp .lt 35, 3) := by decide +kernel
theorem dX5_rule_12 : decode cX5_rule 12 = .ok (.iload_n 2, 1) := by decide +kernel
theorem dX5_rule_13 : decode cX5_rule 13 = .ok (.bipush 100, 2) := by decide +kernel
theorem dX5_rule_15 : decode cX5_rule 15 = .ok (.if_icmp .gt 29, 3) := by decide +kernel
theorem dX5_rule_18 : decode cX5_rule 18 = .ok (.aload_n 0, 1) := by decide +kernel
theorem dX5_rule_19 : decode cX5_rule 19 = .ok (.getfield 28, 3) := by decide +kernel
theorem dX5_rule_22 : decode cX5_rule 22 = .ok (.getfield 135, 3) := by decide +kernel
theorem dX5_rule_25 : decode cX5_rule 25 = .ok (.istore_n 3, 1) := by decide +kernel
theorem dX5_rule_26 : decode cX5_rule 26 = .ok (.aload_n 0, 1) := by decide +kernel
theorem dX5_rule_27 : decode cX5_rule 27 = .ok (.getfield 28, 3) := by decide +kernel
theorem dX5_rule_30 : decode cX5_rule 30 = .ok (.iload_n 2, 1) := by decide +kernel
theorem dX5_rule_31 : decode cX5_rule 31 = .ok (.aload_n 0, 1) := by decide +kernel
theorem dX5_rule_32 : decode cX5_rule 32 = .ok (.getfield 28, 3) := by decide +kernel
theorem dX5_rule_35 : decode cX5_rule 35 = .ok (.getfield 138, 3) := by decide +kernel
theorem dX5_rule_38 : decode cX5_rule 38 = .ok (.invokevirtual 141, 3) := by decide +kernel
theorem dX5_rule_41 : decode cX5_rule 41 = .ok (.goto 41, 3) := by decide +kernel
theorem dX5_rule_44 : decode cX5_rule 44 = .ok (.iload_n 1, 1) := by decide +kernel
theorem dX5_rule_45 : decode cX5_rule 45 = .ok (.iconst 1, 1) := by decide +kernel
theorem dX5_rule_46 : decode cX5_rule 46 = .ok (.if_icmp .ne 36, 3) := by decide +kernel
theorem dX5_rule_49 : decode cX5_rule 49 = .ok (.iload_n 2, 1) := by decide +kernel
theorem dX5_rule_50 : decode cX5_rule 50 = .ok (.ifCond .lt 32, 3) := by decide +kernel
theorem dX5_rule_53 : decode cX5_rule 53 = .ok (.iload_n 2, 1) := by decide +kernel
theorem dX5_rule_54 : decode cX5_rule 54 = .ok (.bipush 50, 2) := by decide +kernel
theorem dX5_rule_56 : decode cX5_rule 56 = .ok (.if_icmp .gt 26, 3) := by decide +kernel
theorem dX5_rule_59 : decode cX5_rule 59 = .ok (.aload_n 0, 1) := by decide +kernel
theorem dX5_rule_60 : decode cX5_rule 60 = .ok (.getfield 28, 3) := by decide +kernel
theorem dX5_rule_63 : decode cX5_rule 63 = .ok (.getfield 138, 3) := by decide +kernel
theorem dX5_rule_66 : decode cX5_rule 66 = .ok (.istore_n 3, 1) := by decide +kernel
theorem dX5_rule_67 : decode cX5_rule 67 = .ok (.aload_n 0, 1) := by decide +kernel
theorem dX5_rule_68 : decode cX5_rule 68 = .ok (.getfield 28, 3) := by decide +kernel
theorem dX5_rule_71 : decode cX5_rule 71 = .ok (.aload_n 0, 1) := by decide +kernel
theorem dX5_rule_72 : decode cX5_rule 72 = .ok (.getfield 28, 3) := by decide +kernel
theorem dX5_rule_75 : decode cX5_rule 75 = .ok (.getfield 135, 3) := by decide +kernel
theorem dX5_rule_78 : decode cX5_rule 78 = .ok (.iload_n 2, 1) := by decide +kernel
theorem dX5_rule_79 : decode cX5_rule 79 = .ok (.invokevirtual 141, 3) := by decide +kernel
theorem dX5_rule_82 : decode cX5_rule 82 = .ok (.iload_n 3, 1) := by decide +kernel
theorem dX5_rule_83 : decode cX5_rule 83 = .ok (.ireturn, 1) := by decide +kernel
theorem dX5_lead_0 : decode cX5_lead 0 = .ok (.aload_n 0, 1) := by decide +kernel
theorem dX5_lead_1 : decode cX5_lead 1 = .ok (.iload_n 1, 1) := by decide +kernel
theorem dX5_lead_2 : decode cX5_lead 2 = .ok (.invokevirtual 144, 3) := by decide +kernel
theorem dX5_lead_5 : decode cX5_lead 5 = .ok (.ifCond .ne 6, 3) := by decide +kernel
theorem dX5_lead_8 : decode cX5_lead 8 = .ok (.ldc 57, 2) := by decide +kernel
theorem dX5_lead_10 : decode cX5_lead 10 = .ok (.ireturn, 1) := by decide +kernel
theorem dX5_lead_11 : decode cX5_lead 11 = .ok (.aload_n 0, 1) := by decide +kernel
theorem dX5_lead_12 : decode cX5_lead 12 = .ok (.getfield 21, 3) := by decide +kernel
theorem dX5_lead_15 : decode cX5_lead 15 = .ok (.iload_n 1, 1) := by decide +kernel
theorem dX5_lead_16 : decode cX5_lead 16 = .ok (.aaload, 1) := by decide +kernel
theorem dX5_lead_17 : decode cX5_lead 17 = .ok (.astore_n 2, 1) := by decide +kernel
theorem dX5_lead_18 : decode cX5_lead 18 = .ok (.aload_n 0, 1) := by decide +kernel
theorem dX5_lead_19 : decode cX5_lead 19 = .ok (.getfield 35, 3) := by decide +kernel
theorem dX5_lead_22 : decode cX5_lead 22 = .ok (.aload_n 0, 1) := by decide +kernel
theorem dX5_lead_23 : decode cX5_lead 23 = .ok (.getfield 28, 3) := by decide +kernel
theorem dX5_lead_26 : decode cX5_lead 26 = .ok (.aload_n 2, 1) := by decide +kernel
theorem dX5_lead_27 : decode cX5_lead 27 = .ok (.invokevirtual 147, 3) := by decide +kernel
theorem dX5_lead_30 : decode cX5_lead 30 = .ok (.ifCond .ne 14, 3) := by decide +kernel
theorem dX5_lead_33 : decode cX5_lead 33 = .ok (.aload_n 0, 1) := by decide +kernel
theorem dX5_lead_34 : decode cX5_lead 34 = .ok (.getfield 28, 3) := by decide +kernel
theorem dX5_lead_37 : decode cX5_lead 37 = .ok (.aload_n 2, 1) := by decide +kernel
theorem dX5_lead_38 : decode cX5_lead 38 = .ok (.invokevirtual 151, 3) := by decide +kernel
theorem dX5_lead_41 : decode cX5_lead 41 = .ok (.ldc 113, 2) := by decide +kernel
theorem dX5_lead_43 : decode cX5_lead 43 = .ok (.ireturn, 1) := by decide +kernel
theorem dX5_lead_44 : decode cX5_lead 44 = .ok (.aload_n 0, 1) := by decide +kernel
theorem dX5_lead_45 : decode cX5_lead 45 = .ok (.getfield 28, 3) := by decide +kernel
theorem dX5_lead_48 : decode cX5_lead 48 = .ok (.aload_n 2, 1) := by decide +kernel
theorem dX5_lead_49 : decode cX5_lead 49 = .ok (.aload_n 0, 1) := by decide +kernel
theorem dX5_lead_50 : decode cX5_lead 50 = .ok (.getfield 35, 3) := by decide +kernel
theorem dX5_lead_53 : decode cX5_lead 53 = .ok (.getfield 155, 3) := by decide +kernel
theorem dX5_lead_56 : decode cX5_lead 56 = .ok (.iconst 0, 1) := by decide +kernel
theorem dX5_lead_57 : decode cX5_lead 57 = .ok (.aload_n 0, 1) := by decide +kernel
theorem dX5_lead_58 : decode cX5_lead 58 = .ok (.getfield 35, 3) := by decide +kernel
theorem dX5_lead_61 : decode cX5_lead 61 = .ok (.getfield 158, 3) := by decide +kernel
theorem dX5_lead_64 : decode cX5_lead 64 = .ok (.invokevirtual 161, 3) := by decide +kernel
theorem dX5_lead_67 : decode cX5_lead 67 = .ok (.aload_n 0, 1) := by decide +kernel
theorem dX5_lead_68 : decode cX5_lead 68 = .ok (.getfield 35, 3) := by decide +kernel
theorem dX5_lead_71 : decode cX5_lead 71 = .ok (.getfield 165, 3) := by decide +kernel
theorem dX5_lead_74 : decode cX5_lead 74 = .ok (.ireturn, 1) := by decide +kernel
theorem dX5_lay_0 : decode cX5_lay 0 = .ok (.aload_n 0, 1) := by decide +kernel
theorem dX5_lay_1 : decode cX5_lay 1 = .ok (.iload_n 1, 1) := by decide +kernel
theorem dX5_lay_2 : decode cX5_lay 2 = .ok (.invokevirtual 144, 3) := by decide +kernel
theorem dX5_lay_5 : decode cX5_lay 5 = .ok (.ifCond .eq 23, 3) := by decide +kernel
theorem dX5_lay_8 : decode cX5_lay 8 = .ok (.iload_n 2, 1) := by decide +kernel
theorem dX5_lay_9 : decode cX5_lay 9 = .ok (.invokestatic 53, 3) := by decide +kernel
theorem dX5_lay_12 : decode cX5_lay 12 = .ok (.ifCond .eq 16, 3) := by decide +kernel
theorem dX5_lay_15 : decode cX5_lay 15 = .ok (.iload 4, 2) := by decide +kernel
theorem dX5_lay_17 : decode cX5_lay 17 = .ok (.iconst 1, 1) := by decide +kernel
theorem dX5_lay_18 : decode cX5_lay 18 = .ok (.if_icmp .lt 10, 3) := by decide +kernel
theorem dX5_lay_21 : decode cX5_lay 21 = .ok (.iload 4, 2) := by decide +kernel
theorem dX5_lay_23 : decode cX5_lay 23 = .ok (.bipush 40, 2) := by decide +kernel
theorem dX5_lay_25 : decode cX5_lay 25 = .ok (.if_icmp .le 6, 3) := by decide +kernel
theorem dX5_lay_28 : decode cX5_lay 28 = .ok (.ldc 57, 2) := by decide +kernel
theorem dX5_lay_30 : decode cX5_lay 30 = .ok (.ireturn, 1) := by decide +kernel
theorem dX5_lay_31 : decode cX5_lay 31 = .ok (.aload_n 0, 1) := by decide +kernel
theorem dX5_lay_32 : decode cX5_lay 32 = .ok (.getfield 11, 3) := by decide +kernel
theorem dX5_lay_35 : decode cX5_lay 35 = .ok (.iload_n 2, 1) := by decide +kernel
theorem dX5_lay_36 : decode cX5_lay 36 = .ok (.aaload, 1) := by decide +kernel
theorem dX5_lay_37 : decode cX5_lay 37 = .ok (.astore 5, 2) := by decide +kernel
theorem dX5_lay_39 : decode cX5_lay 39 = .ok (.aload 5, 2) := by decide +kernel
theorem dX5_lay_41 : decode cX5_lay 41 = .ok (.invokevirtual 69, 3) := by decide +kernel
theorem dX5_lay_44 : decode cX5_lay 44 = .ok (.ifCond .eq 9, 3) := by decide +kernel
theorem dX5_lay_47 : decode cX5_lay 47 = .ok (.aload_n 0, 1) := by decide +kernel
theorem dX5_lay_48 : decode cX5_lay 48 = .ok (.iconst 1, 1) := by decide +kernel
theorem dX5_lay_49 : decode cX5_lay 49 = .ok (.invokevirtual 58, 3) := by decide +kernel
theorem dX5_lay_52 : decode cX5_lay 52 = .ok (.ireturn, 1) := by decide +kernel
theorem dX5_lay_53 : decode cX5_lay 53 = .ok (.aload 5, 2) := by decide +kernel
theorem dX5_lay_55 : decode cX5_lay 55 = .ok (.iload_n 3, 1) := by decide +kernel
theorem dX5_lay_56 : decode cX5_lay 56 = .ok (.iload 4, 2) := by decide +kernel
theorem dX5_lay_58 : decode cX5_lay 58 = .ok (.invokevirtual 73, 3) := by decide +kernel
theorem dX5_lay_61 : decode cX5_lay 61 = .ok (.ifCond .ne 9, 3) := by decide +kernel
theorem dX5_lay_64 : decode cX5_lay 64 = .ok (.aload_n 0, 1) := by decide +kernel
theorem dX5_lay_65 : decode cX5_lay 65 = .ok (.iconst 2, 1) := by decide +kernel
theorem dX5_lay_66 : decode cX5_lay 66 = .ok (.invokevirtual 58, 3) := by decide +kernel
theorem dX5_lay_69 : decode cX5_lay 69 = .ok (.ireturn, 1) := by decide +kernel
theorem dX5_lay_70 : decode cX5_lay 70 = .ok (.aload_n 0, 1) := by decide +kernel
theorem dX5_lay_71 : decode cX5_lay 71 = .ok (.getfield 28, 3) := by decide +kernel
theorem dX5_lay_74 : decode cX5_lay 74 = .ok (.aload_n 0, 1) := by decide +kernel
theorem dX5_lay_75 : decode cX5_lay 75 = .ok (.getfield 21, 3) := by decide +kernel
theorem dX5_lay_78 : decode cX5_lay 78 = .ok (.iload_n 1, 1) := by decide +kernel
theorem dX5_lay_79 : decode cX5_lay 79 = .ok (.aaload, 1) := by decide +kernel
theorem dX5_lay_80 : decode cX5_lay 80 = .ok (.aload 5, 2) := by decide +kernel
theorem dX5_lay_82 : decode cX5_lay 82 = .ok (.getfield 85, 3) := by decide +kernel
theorem dX5_lay_85 : decode cX5_lay 85 = .ok (.iload_n 3, 1) := by decide +kernel
theorem dX5_lay_86 : decode cX5_lay 86 = .ok (.iload 4, 2) := by decide +kernel
theorem dX5_lay_88 : decode cX5_lay 88 = .ok (.invokevirtual 168, 3) := by decide +kernel
theorem dX5_lay_91 : decode cX5_lay 91 = .ok (.ifCond .ne 6, 3) := by decide +kernel
theorem dX5_lay_94 : decode cX5_lay 94 = .ok (.ldc 57, 2) := by decide +kernel
theorem dX5_lay_96 : decode cX5_lay 96 = .ok (.ireturn, 1) := by decide +kernel
theorem dX5_lay_97 : decode cX5_lay 97 = .ok (.aload_n 0, 1) := by decide +kernel
theorem dX5_lay_98 : decode cX5_lay 98 = .ok (.getfield 28, 3) := by decide +kernel
theorem dX5_lay_101 : decode cX5_lay 101 = .ok (.aload_n 0, 1) := by decide +kernel
theorem dX5_lay_102 : decode cX5_lay 102 = .ok (.getfield 21, 3) := by decide +kernel
theorem dX5_lay_105 : decode cX5_lay 105 = .ok (.iload_n 1, 1) := by decide +kernel
theorem dX5_lay_106 : decode cX5_lay 106 = .ok (.aaload, 1) := by decide +kernel
theorem dX5_lay_107 : decode cX5_lay 107 = .ok (.aload 5, 2) := by decide +kernel
theorem dX5_lay_109 : decode cX5_lay 109 = .ok (.getfield 85, 3) := by decide +kernel
theorem dX5_lay_112 : decode cX5_lay 112 = .ok (.iload_n 3, 1) := by decide +kernel
theorem dX5_lay_113 : decode cX5_lay 113 = .ok (.iload 4, 2) := by decide +kernel
theorem dX5_lay_115 : decode cX5_lay 115 = .ok (.invokevirtual 161, 3) := by decide +kernel
theorem dX5_lay_118 : decode cX5_lay 118 = .ok (.aload_n 0, 1) := by decide +kernel
theorem dX5_lay_119 : decode cX5_lay 119 = .ok (.iconst 1, 1) := by decide +kernel
theorem dX5_lay_120 : decode cX5_lay 120 = .ok (.invokevirtual 66, 3) := by decide +kernel
theorem dX5_lay_123 : decode cX5_lay 123 = .ok (.ireturn, 1) := by decide +kernel
theorem dX5_take_0 : decode cX5_take 0 = .ok (.aload_n 0, 1) := by decide +kernel
theorem dX5_take_1 : decode cX5_take 1 = .ok (.iload_n 1, 1) := by decide +kernel
theorem dX5_take_2 : decode cX5_take 2 = .ok (.invokevirtual 144, 3) := by decide +kernel
theorem dX5_take_5 : decode cX5_take 5 = .ok (.ifCond .ne 6, 3) := by decide +kernel
theorem dX5_take_8 : decode cX5_take 8 = .ok (.ldc 57, 2) := by decide +kernel
theorem dX5_take_10 : decode cX5_take 10 = .ok (.ireturn, 1) := by decide +kernel
theorem dX5_take_11 : decode cX5_take 11 = .ok (.aload_n 0, 1) := by decide +kernel
theorem dX5_take_12 : decode cX5_take 12 = .ok (.getfield 21, 3) := by decide +kernel
theorem dX5_take_15 : decode cX5_take 15 = .ok (.iload_n 1, 1) := by decide +kernel
theorem dX5_take_16 : decode cX5_take 16 = .ok (.aaload, 1) := by decide +kernel
theorem dX5_take_17 : decode cX5_take 17 = .ok (.invokevirtual 172, 3) := by decide +kernel
theorem dX5_take_20 : decode cX5_take 20 = .ok (.ifCond .eq 7, 3) := by decide +kernel
theorem dX5_take_23 : decode cX5_take 23 = .ok (.iconst 1, 1) := by decide +kernel
theorem dX5_take_24 : decode cX5_take 24 = .ok (.goto 4, 3) := by decide +kernel
theorem dX5_take_27 : decode cX5_take 27 = .ok (.iconst 0, 1) := by decide +kernel
theorem dX5_take_28 : decode cX5_take 28 = .ok (.istore_n 2, 1) := by decide +kernel
theorem dX5_take_29 : decode cX5_take 29 = .ok (.aload_n 0, 1) := by decide +kernel
theorem dX5_take_30 : decode cX5_take 30 = .ok (.getfield 28, 3) := by decide +kernel
theorem dX5_take_33 : decode cX5_take 33 = .ok (.aload_n 0, 1) := by decide +kernel
theorem dX5_take_34 : decode cX5_take 34 = .ok (.getfield 21, 3) := by decide +kernel
theorem dX5_take_37 : decode cX5_take 37 = .ok (.iload_n 1, 1) := by decide +kernel
theorem dX5_take_38 : decode cX5_take 38 = .ok (.aaload, 1) := by decide +kernel
theorem dX5_take_39 : decode cX5_take 39 = .ok (.invokevirtual 151, 3) := by decide +kernel
theorem dX5_take_42 : decode cX5_take 42 = .ok (.iload_n 2, 1) := by decide +kernel
theorem dX5_take_43 : decode cX5_take 43 = .ok (.ireturn, 1) := by decide +kernel
theorem dX5_pass_0 : decode cX5_pass 0 = .ok (.aload_n 0, 1) := by decide +kernel
theorem dX5_pass_1 : decode cX5_pass 1 = .ok (.invokevirtual 175, 3) := by decide +kernel
theorem dX5_pass_4 : decode cX5_pass 4 = .ok (.ireturn, 1) := by decide +kernel
theorem dX5_rest_0 : decode cX5_rest 0 = .ok (.iconst 0, 1) := by decide +kernel
theorem dX5_rest_1 : decode cX5_rest 1 = .ok (.istore_n 1, 1) := by decide +kernel
theorem dX5_rest_2 : decode cX5_rest 2 = .ok (.iload_n 1, 1) := by decide +kernel
theorem dX5_rest_3 : decode cX5_rest 3 = .ok (.ldc 179, 2) := by decide +kernel
theorem dX5_rest_5 : decode cX5_rest 5 = .ok (.if_icmp .ge 16, 3) := by decide +kernel
theorem dX5_rest_8 : decode cX5_rest 8 = .ok (.aload_n 0, 1) := by decide +kernel
theorem dX5_rest_9 : decode cX5_rest 9 = .ok (.invokevirtual 175, 3) := by decide +kernel
theorem dX5_rest_12 : decode cX5_rest 12 = .ok (.ifCond .le 9, 3) := by decide +kernel
theorem dX5_rest_15 : decode cX5_rest 15 = .ok (.iinc 1 1, 3) := by decide +kernel
theorem dX5_rest_18 : decode cX5_rest 18 = .ok (.goto (-16), 3) := by decide +kernel
theorem dX5_rest_21 : decode cX5_rest 21 = .ok (.iload_n 1, 1) := by decide +kernel
theorem dX5_rest_22 : decode cX5_rest 22 = .ok (.ireturn, 1) := by decide +kernel
theorem dX5_way_0 : decode cX5_way 0 = .ok (.aload_n 0, 1) := by decide +kernel
theorem dX5_way_1 : decode cX5_way 1 = .ok (.iload_n 1, 1) := by decide +kernel
theorem dX5_way_2 : decode cX5_way 2 = .ok (.invokevirtual 144, 3) := by decide +kernel
theorem dX5_way_5 : decode cX5_way 5 = .ok (.ifCond .eq 8, 3) := by decide +kernel
theorem dX5_way_8 : decode cX5_way 8 = .ok (.iload_n 2, 1) := by decide +kernel
theorem dX5_way_9 : decode cX5_way 9 = .ok (.iconst (-1), 1) := by decide +kernel
theorem dX5_way_10 : decode cX5_way 10 = .ok (.if_icmp .ge 6, 3) := by decide +kernel
theorem dX5_way_13 : decode cX5_way 13 = .ok (.ldc 57, 2) := by decide +kernel
theorem dX5_way_15 : decode cX5_way 15 = .ok (.ireturn, 1) := by decide +kernel
theorem dX5_way_16 : decode cX5_way 16 = .ok (.aload_n 0, 1) := by decide +kernel
theorem dX5_way_17 : decode cX5_way 17 = .ok (.getfield 21, 3) := by decide +kernel
theorem dX5_way_20 : decode cX5_way 20 = .ok (.iload_n 1, 1) := by decide +kernel
theorem dX5_way_21 : decode cX5_way 21 = .ok (.aaload, 1) := by decide +kernel
theorem dX5_way_22 : decode cX5_way 22 = .ok (.astore_n 3, 1) := by decide +kernel
theorem dX5_way_23 : decode cX5_way 23 = .ok (.iload_n 2, 1) := by decide +kernel
theorem dX5_way_24 : decode cX5_way 24 = .ok (.iconst (-1), 1) := by decide +kernel
theorem dX5_way_25 : decode cX5_way 25 = .ok (.if_icmp .ne 8, 3) := by decide +kernel
theorem dX5_way_28 : decode cX5_way 28 = .ok (.aload_n 3, 1) := by decide +kernel
theorem dX5_way_29 : decode cX5_way 29 = .ok (.getfield 180, 3) := by decide +kernel
theorem dX5_way_32 : decode cX5_way 32 = .ok (.ireturn, 1) := by decide +kernel
theorem dX5_way_33 : decode cX5_way 33 = .ok (.iload_n 2, 1) := by decide +kernel
theorem dX5_way_34 : decode cX5_way 34 = .ok (.aload_n 3, 1) := by decide +kernel
theorem dX5_way_35 : decode cX5_way 35 = .ok (.getfield 180, 3) := by decide +kernel
theorem dX5_way_38 : decode cX5_way 38 = .ok (.if_icmp .ge 12, 3) := by decide +kernel
theorem dX5_way_41 : decode cX5_way 41 = .ok (.aload_n 3, 1) := by decide +kernel
theorem dX5_way_42 : decode cX5_way 42 = .ok (.getfield 181, 3) := by decide +kernel
theorem dX5_way_45 : decode cX5_way 45 = .ok (.iload_n 2, 1) := by decide +kernel
theorem dX5_way_46 : decode cX5_way 46 = .ok (.iaload, 1) := by decide +kernel
theorem dX5_way_47 : decode cX5_way 47 = .ok (.goto 5, 3) := by decide +kernel
theorem dX5_way_50 : decode cX5_way 50 = .ok (.ldc 113, 2) := by decide +kernel
theorem dX5_way_52 : decode cX5_way 52 = .ok (.ireturn, 1) := by decide +kernel
theorem dX5_width_0 : decode cX5_width 0 = .ok (.iload_n 1, 1) := by decide +kernel
theorem dX5_width_1 : decode cX5_width 1 = .ok (.iload_n 2, 1) := by decide +kernel
theorem dX5_width_2 : decode cX5_width 2 = .ok (.invokestatic 100, 3) := by decide +kernel
theorem dX5_width_5 : decode cX5_width 5 = .ok (.ifCond .eq 10, 3) := by decide +kernel
theorem dX5_width_8 : decode cX5_width 8 = .ok (.iload_n 3, 1) := by decide +kernel
theorem dX5_width_9 : decode cX5_width 9 = .ok (.invokestatic 182, 3) := by decide +kernel
theorem dX5_width_12 : decode cX5_width 12 = .ok (.ifCond .ne 6, 3) := by decide +kernel
theorem dX5_width_15 : decode cX5_width 15 = .ok (.ldc 57, 2) := by decide +kernel
theorem dX5_width_17 : decode cX5_width 17 = .ok (.ireturn, 1) := by decide +kernel
theorem dX5_width_18 : decode cX5_width 18 = .ok (.aload_n 0, 1) := by decide +kernel
theorem dX5_width_19 : decode cX5_width 19 = .ok (.getfield 28, 3) := by decide +kernel
theorem dX5_width_22 : decode cX5_width 22 = .ok (.iload_n 1, 1) := by decide +kernel
theorem dX5_width_23 : decode cX5_width 23 = .ok (.iload_n 2, 1) := by decide +kernel
theorem dX5_width_24 : decode cX5_width 24 = .ok (.invokestatic 103, 3) := by decide +kernel
theorem dX5_width_27 : decode cX5_width 27 = .ok (.iload_n 3, 1) := by decide +kernel
theorem dX5_width_28 : decode cX5_width 28 = .ok (.invokevirtual 185, 3) := by decide +kernel
theorem dX5_width_31 : decode cX5_width 31 = .ok (.ireturn, 1) := by decide +kernel
theorem dX5_all_0 : decode cX5_all 0 = .ok (.iload_n 1, 1) := by decide +kernel
theorem dX5_all_1 : decode cX5_all 1 = .ok (.tableswitch 84 0 5 #[39, 47, 55, 63, 71, 79], 39) := by decide +kernel
theorem dX5_all_40 : decode cX5_all 40 = .ok (.aload_n 0, 1) := by decide +kernel
theorem dX5_all_41 : decode cX5_all 41 = .ok (.getfield 28, 3) := by decide +kernel
theorem dX5_all_44 : decode cX5_all 44 = .ok (.invokevirtual 188, 3) := by decide +kernel
theorem dX5_all_47 : decode cX5_all 47 = .ok (.ireturn, 1) := by decide +kernel
theorem dX5_all_48 : decode cX5_all 48 = .ok (.aload_n 0, 1) := by decide +kernel
theorem dX5_all_49 : decode cX5_all 49 = .ok (.getfield 28, 3) := by decide +kernel
theorem dX5_all_52 : decode cX5_all 52 = .ok (.invokevirtual 191, 3) := by decide +kernel
theorem dX5_all_55 : decode cX5_all 55 = .ok (.ireturn, 1) := by decide +kernel
theorem dX5_all_56 : decode cX5_all 56 = .ok (.aload_n 0, 1) := by decide +kernel
theorem dX5_all_57 : decode cX5_all 57 = .ok (.getfield 28, 3) := by decide +kernel
theorem dX5_all_60 : decode cX5_all 60 = .ok (.invokevirtual 194, 3) := by decide +kernel
theorem dX5_all_63 : decode cX5_all 63 = .ok (.ireturn, 1) := by decide +kernel
theorem dX5_all_64 : decode cX5_all 64 = .ok (.aload_n 0, 1) := by decide +kernel
theorem dX5_all_65 : decode cX5_all 65 = .ok (.getfield 28, 3) := by decide +kernel
theorem dX5_all_68 : decode cX5_all 68 = .ok (.invokevirtual 197, 3) := by decide +kernel
theorem dX5_all_71 : decode cX5_all 71 = .ok (.ireturn, 1) := by decide +kernel
theorem dX5_all_72 : decode cX5_all 72 = .ok (.aload_n 0, 1) := by decide +kernel
theorem dX5_all_73 : decode cX5_all 73 = .ok (.getfield 28, 3) := by decide +kernel
theorem dX5_all_76 : decode cX5_all 76 = .ok (.invokevirtual 200, 3) := by decide +kernel
theorem dX5_all_79 : decode cX5_all 79 = .ok (.ireturn, 1) := by decide +kernel
theorem dX5_all_80 : decode cX5_all 80 = .ok (.aload_n 0, 1) := by decide +kernel
theorem dX5_all_81 : decode cX5_all 81 = .ok (.invokevirtual 203, 3) := by decide +kernel
theorem dX5_all_84 : decode cX5_all 84 = .ok (.ireturn, 1) := by decide +kernel
theorem dX5_all_85 : decode cX5_all 85 = .ok (.ldc 57, 2) := by decide +kernel
theorem dX5_all_87 : decode cX5_all 87 = .ok (.ireturn, 1) := by decide +kernel
theorem dX5_detour_0 : decode cX5_detour 0 = .ok (.aload_n 0, 1) := by decide +kernel
theorem dX5_detour_1 : decode cX5_detour 1 = .ok (.iload_n 1, 1) := by decide +kernel
theorem dX5_detour_2 : decode cX5_detour 2 = .ok (.invokevirtual 144, 3) := by decide +kernel
theorem dX5_detour_5 : decode cX5_detour 5 = .ok (.ifCond .ne 6, 3) := by decide +kernel
theorem dX5_detour_8 : decode cX5_detour 8 = .ok (.ldc 57, 2) := by decide +kernel
theorem dX5_detour_10 : decode cX5_detour 10 = .ok (.ireturn, 1) := by decide +kernel
theorem dX5_detour_11 : decode cX5_detour 11 = .ok (.aload_n 0, 1) := by decide +kernel
theorem dX5_detour_12 : decode cX5_detour 12 = .ok (.getfield 21, 3) := by decide +kernel
theorem dX5_detour_15 : decode cX5_detour 15 = .ok (.iload_n 1, 1) := by decide +kernel
theorem dX5_detour_16 : decode cX5_detour 16 = .ok (.aaload, 1) := by decide +kernel
theorem dX5_detour_17 : decode cX5_detour 17 = .ok (.invokevirtual 172, 3) := by decide +kernel
theorem dX5_detour_20 : decode cX5_detour 20 = .ok (.ifCond .eq 15, 3) := by decide +kernel
theorem dX5_detour_23 : decode cX5_detour 23 = .ok (.aload_n 0, 1) := by decide +kernel
theorem dX5_detour_24 : decode cX5_detour 24 = .ok (.getfield 21, 3) := by decide +kernel
theorem dX5_detour_27 : decode cX5_detour 27 = .ok (.iload_n 1, 1) := by decide +kernel
theorem dX5_detour_28 : decode cX5_detour 28 = .ok (.aaload, 1) := by decide +kernel
theorem dX5_detour_29 : decode cX5_detour 29 = .ok (.invokevirtual 206, 3) := by decide +kernel
theorem dX5_detour_32 : decode cX5_detour 32 = .ok (.goto 5, 3) := by decide +kernel
theorem dX5_detour_35 : decode cX5_detour 35 = .ok (.ldc 114, 2) := by decide +kernel
theorem dX5_detour_37 : decode cX5_detour 37 = .ok (.ireturn, 1) := by decide +kernel
theorem dX5_shared_0 : decode cX5_shared 0 = .ok (.aload_n 0, 1) := by decide +kernel
theorem dX5_shared_1 : decode cX5_shared 1 = .ok (.iload_n 1, 1) := by decide +kernel
theorem dX5_shared_2 : decode cX5_shared 2 = .ok (.invokevirtual 144, 3) := by decide +kernel
theorem dX5_shared_5 : decode cX5_shared 5 = .ok (.ifCond .eq 11, 3) := by decide +kernel
theorem dX5_shared_8 : decode cX5_shared 8 = .ok (.aload_n 0, 1) := by decide +kernel
theorem dX5_shared_9 : decode cX5_shared 9 = .ok (.iload_n 2, 1) := by decide +kernel
theorem dX5_shared_10 : decode cX5_shared 10 = .ok (.invokevirtual 144, 3) := by decide +kernel
theorem dX5_shared_13 : decode cX5_shared 13 = .ok (.ifCond .ne 6, 3) := by decide +kernel
theorem dX5_shared_16 : decode cX5_shared 16 = .ok (.ldc 57, 2) := by decide +kernel
theorem dX5_shared_18 : decode cX5_shared 18 = .ok (.ireturn, 1) := by decide +kernel
theorem dX5_shared_19 : decode cX5_shared 19 = .ok (.aload_n 0, 1) := by decide +kernel
theorem dX5_shared_20 : decode cX5_shared 20 = .ok (.getfield 28, 3) := by decide +kernel
theorem dX5_shared_23 : decode cX5_shared 23 = .ok (.aload_n 0, 1) := by decide +kernel
theorem dX5_shared_24 : decode cX5_shared 24 = .ok (.getfield 21, 3) := by decide +kernel
theorem dX5_shared_27 : decode cX5_shared 27 = .ok (.iload_n 1, 1) := by decide +kernel
theorem dX5_shared_28 : decode cX5_shared 28 = .ok (.aaload, 1) := by decide +kernel
theorem dX5_shared_29 : decode cX5_shared 29 = .ok (.getfield 209, 3) := by decide +kernel
theorem dX5_shared_32 : decode cX5_shared 32 = .ok (.aload_n 0, 1) := by decide +kernel
theorem dX5_shared_33 : decode cX5_shared 33 = .ok (.getfield 21, 3) := by decide +kernel
theorem dX5_shared_36 : decode cX5_shared 36 = .ok (.iload_n 2, 1) := by decide +kernel
theorem dX5_shared_37 : decode cX5_shared 37 = .ok (.aaload, 1) := by decide +kernel
theorem dX5_shared_38 : decode cX5_shared 38 = .ok (.getfield 209, 3) := by decide +kernel
theorem dX5_shared_41 : decode cX5_shared 41 = .ok (.ior, 1) := by decide +kernel
theorem dX5_shared_42 : decode cX5_shared 42 = .ok (.invokevirtual 212, 3) := by decide +kernel
theorem dX5_shared_45 : decode cX5_shared 45 = .ok (.ireturn, 1) := by decide +kernel
theorem dX5_tint_0 : decode cX5_tint 0 = .ok (.iload_n 1, 1) := by decide +kernel
theorem dX5_tint_1 : decode cX5_tint 1 = .ok (.ldc 113, 2) := by decide +kernel
theorem dX5_tint_3 : decode cX5_tint 3 = .ok (.if_icmp .eq 14, 3) := by decide +kernel
theorem dX5_tint_6 : decode cX5_tint 6 = .ok (.aload_n 0, 1) := by decide +kernel
theorem dX5_tint_7 : decode cX5_tint 7 = .ok (.iload_n 1, 1) := by decide +kernel
theorem dX5_tint_8 : decode cX5_tint 8 = .ok (.invokevirtual 144, 3) := by decide +kernel
theorem dX5_tint_11 : decode cX5_tint 11 = .ok (.ifCond .ne 6, 3) := by decide +kernel
theorem dX5_tint_14 : decode cX5_tint 14 = .ok (.ldc 57, 2) := by decide +kernel
theorem dX5_tint_16 : decode cX5_tint 16 = .ok (.ireturn, 1) := by decide +kernel
theorem dX5_tint_17 : decode cX5_tint 17 = .ok (.aload_n 0, 1) := by decide +kernel
theorem dX5_tint_18 : decode cX5_tint 18 = .ok (.getfield 42, 3) := by decide +kernel
theorem dX5_tint_21 : decode cX5_tint 21 = .ok (.aload_n 0, 1) := by decide +kernel
theorem dX5_tint_22 : decode cX5_tint 22 = .ok (.getfield 28, 3) := by decide +kernel
theorem dX5_tint_25 : decode cX5_tint 25 = .ok (.aload_n 0, 1) := by decide +kernel
theorem dX5_tint_26 : decode cX5_tint 26 = .ok (.invokevirtual 215, 3) := by decide +kernel
theorem dX5_tint_29 : decode cX5_tint 29 = .ok (.invokevirtual 218, 3) := by decide +kernel
theorem dX5_tint_32 : decode cX5_tint 32 = .ok (.iload_n 1, 1) := by decide +kernel
theorem dX5_tint_33 : decode cX5_tint 33 = .ok (.ldc 113, 2) := by decide +kernel
theorem dX5_tint_35 : decode cX5_tint 35 = .ok (.if_icmp .ne 13, 3) := by decide +kernel
theorem dX5_tint_38 : decode cX5_tint 38 = .ok (.aload_n 0, 1) := by decide +kernel
theorem dX5_tint_39 : decode cX5_tint 39 = .ok (.getfield 42, 3) := by decide +kernel
theorem dX5_tint_42 : decode cX5_tint 42 = .ok (.getfield 222, 3) := by decide +kernel
theorem dX5_tint_45 : decode cX5_tint 45 = .ok (.goto 12, 3) := by decide +kernel
theorem dX5_tint_48 : decode cX5_tint 48 = .ok (.aload_n 0, 1) := by decide +kernel
theorem dX5_tint_49 : decode cX5_tint 49 = .ok (.getfield 42, 3) := by decide +kernel
theorem dX5_tint_52 : decode cX5_tint 52 = .ok (.getfield 225, 3) := by decide +kernel
theorem dX5_tint_55 : decode cX5_tint 55 = .ok (.iload_n 1, 1) := by decide +kernel
theorem dX5_tint_56 : decode cX5_tint 56 = .ok (.iaload, 1) := by decide +kernel
theorem dX5_tint_57 : decode cX5_tint 57 = .ok (.ireturn, 1) := by decide +kernel
theorem dX5_reads_0 : decode cX5_reads 0 = .ok (.aload_n 0, 1) := by decide +kernel
theorem dX5_reads_1 : decode cX5_reads 1 = .ok (.iload_n 1, 1) := by decide +kernel
theorem dX5_reads_2 : decode cX5_reads 2 = .ok (.invokevirtual 126, 3) := by decide +kernel
theorem dX5_reads_5 : decode cX5_reads 5 = .ok (.ifCond .eq 10, 3) := by decide +kernel
theorem dX5_reads_8 : decode cX5_reads 8 = .ok (.iload_n 2, 1) := by decide +kernel
theorem dX5_reads_9 : decode cX5_reads 9 = .ok (.invokestatic 182, 3) := by decide +kernel
theorem dX5_reads_12 : decode cX5_reads 12 = .ok (.ifCond .ne 6, 3) := by decide +kernel
theorem dX5_reads_15 : decode cX5_reads 15 = .ok (.ldc 57, 2) := by decide +kernel
theorem dX5_reads_17 : decode cX5_reads 17 = .ok (.ireturn, 1) := by decide +kernel
theorem dX5_reads_18 : decode cX5_reads 18 = .ok (.aload_n 0, 1) := by decide +kernel
theorem dX5_reads_19 : decode cX5_reads 19 = .ok (.getfield 15, 3) := by decide +kernel
theorem dX5_reads_22 : decode cX5_reads 22 = .ok (.iload_n 1, 1) := by decide +kernel
theorem dX5_reads_23 : decode cX5_reads 23 = .ok (.iaload, 1) := by decide +kernel
theorem dX5_reads_24 : decode cX5_reads 24 = .ok (.istore_n 3, 1) := by decide +kernel
theorem dX5_reads_25 : decode cX5_reads 25 = .ok (.aload_n 0, 1) := by decide +kernel
theorem dX5_reads_26 : decode cX5_reads 26 = .ok (.getfield 28, 3) := by decide +kernel
theorem dX5_reads_29 : decode cX5_reads 29 = .ok (.iload_n 3, 1) := by decide +kernel
theorem dX5_reads_30 : decode cX5_reads 30 = .ok (.iload_n 2, 1) := by decide +kernel
theorem dX5_reads_31 : decode cX5_reads 31 = .ok (.invokevirtual 185, 3) := by decide +kernel
theorem dX5_reads_34 : decode cX5_reads 34 = .ok (.ifCond .ne 6, 3) := by decide +kernel
theorem dX5_reads_37 : decode cX5_reads 37 = .ok (.ldc 114, 2) := by decide +kernel
theorem dX5_reads_39 : decode cX5_reads 39 = .ok (.ireturn, 1) := by decide +kernel
theorem dX5_reads_40 : decode cX5_reads 40 = .ok (.iload_n 3, 1) := by decide +kernel
theorem dX5_reads_41 : decode cX5_reads 41 = .ok (.istore 4, 2) := by decide +kernel
theorem dX5_reads_43 : decode cX5_reads 43 = .ok (.iload_n 2, 1) := by decide +kernel
theorem dX5_reads_44 : decode cX5_reads 44 = .ok (.istore 5, 2) := by decide +kernel
theorem dX5_reads_46 : decode cX5_reads 46 = .ok (.iconst 0, 1) := by decide +kernel
theorem dX5_reads_47 : decode cX5_reads 47 = .ok (.istore 6, 2) := by decide +kernel
theorem dX5_reads_49 : decode cX5_reads 49 = .ok (.iload 6, 2) := by decide +kernel
theorem dX5_reads_51 : decode cX5_reads 51 = .ok (.bipush 100, 2) := by decide +kernel
theorem dX5_reads_53 : decode cX5_reads 53 = .ok (.if_icmp .ge 55, 3) := by decide +kernel
theorem dX5_reads_56 : decode cX5_reads 56 = .ok (.iload 5, 2) := by decide +kernel
theorem dX5_reads_58 : decode cX5_reads 58 = .ok (.ifCond .lt 50, 3) := by decide +kernel
theorem dX5_reads_61 : decode cX5_reads 61 = .ok (.iload 4, 2) := by decide +kernel
theorem dX5_reads_63 : decode cX5_reads 63 = .ok (.iload 5, 2) := by decide +kernel
theorem dX5_reads_65 : decode cX5_reads 65 = .ok (.invokestatic 228, 3) := by decide +kernel
theorem dX5_reads_68 : decode cX5_reads 68 = .ok (.istore 4, 2) := by decide +kernel
theorem dX5_reads_70 : decode cX5_reads 70 = .ok (.iload 4, 2) := by decide +kernel
theorem dX5_reads_72 : decode cX5_reads 72 = .ok (.iload_n 3, 1) := by decide +kernel
theorem dX5_reads_73 : decode cX5_reads 73 = .ok (.if_icmp .eq 16, 3) := by decide +kernel
theorem dX5_reads_76 : decode cX5_reads 76 = .ok (.aload_n 0, 1) := by decide +kernel
theorem dX5_reads_77 : decode cX5_reads 77 = .ok (.iload 4, 2) := by decide +kernel
theorem dX5_reads_79 : decode cX5_reads 79 = .ok (.invokevirtual 231, 3) := by decide +kernel
theorem dX5_reads_82 : decode cX5_reads 82 = .ok (.ifCond .eq 7, 3) := by decide +kernel
theorem dX5_reads_85 : decode cX5_reads 85 = .ok (.iconst (-1), 1) := by decide +kernel
theorem dX5_reads_86 : decode cX5_reads 86 = .ok (.goto 14, 3) := by decide +kernel
theorem dX5_reads_89 : decode cX5_reads 89 = .ok (.aload_n 0, 1) := by decide +kernel
theorem dX5_reads_90 : decode cX5_reads 90 = .ok (.getfield 28, 3) := by decide +kernel
theorem dX5_reads_93 : decode cX5_reads 93 = .ok (.iload 4, 2) := by decide +kernel
theorem dX5_reads_95 : decode cX5_reads 95 = .ok (.iload 5, 2) := by decide +kernel
theorem dX5_reads_97 : decode cX5_reads 97 = .ok (.invokevirtual 234, 3) := by decide +kernel
theorem dX5_reads_100 : decode cX5_reads 100 = .ok (.istore 5, 2) := by decide +kernel
theorem dX5_reads_102 : decode cX5_reads 102 = .ok (.iinc 6 1, 3) := by decide +kernel
theorem dX5_reads_105 : decode cX5_reads 105 = .ok (.goto (-56), 3) := by decide +kernel
theorem dX5_reads_108 : decode cX5_reads 108 = .ok (.aload_n 0, 1) := by decide +kernel
theorem dX5_reads_109 : decode cX5_reads 109 = .ok (.getfield 28, 3) := by decide +kernel
theorem dX5_reads_112 : decode cX5_reads 112 = .ok (.getfield 110, 3) := by decide +kernel
theorem dX5_reads_115 : decode cX5_reads 115 = .ok (.iload 4, 2) := by decide +kernel
theorem dX5_reads_117 : decode cX5_reads 117 = .ok (.iaload, 1) := by decide +kernel
theorem dX5_reads_118 : decode cX5_reads 118 = .ok (.ireturn, 1) := by decide +kernel
theorem dX5_kind_0 : decode cX5_kind 0 = .ok (.aload_n 0, 1) := by decide +kernel
theorem dX5_kind_1 : decode cX5_kind 1 = .ok (.iload_n 1, 1) := by decide +kernel
theorem dX5_kind_2 : decode cX5_kind 2 = .ok (.invokevirtual 144, 3) := by decide +kernel
theorem dX5_kind_5 : decode cX5_kind 5 = .ok (.ifCond .eq 19, 3) := by decide +kernel
theorem dX5_kind_8 : decode cX5_kind 8 = .ok (.aload_n 0, 1) := by decide +kernel
theorem dX5_kind_9 : decode cX5_kind 9 = .ok (.getfield 28, 3) := by decide +kernel
theorem dX5_kind_12 : decode cX5_kind 12 = .ok (.aload_n 0, 1) := by decide +kernel
theorem dX5_kind_13 : decode cX5_kind 13 = .ok (.getfield 21, 3) := by decide +kernel
theorem dX5_kind_16 : decode cX5_kind 16 = .ok (.iload_n 1, 1) := by decide +kernel
theorem dX5_kind_17 : decode cX5_kind 17 = .ok (.aaload, 1) := by decide +kernel
theorem dX5_kind_18 : decode cX5_kind 18 = .ok (.invokevirtual 237, 3) := by decide +kernel
theorem dX5_kind_21 : decode cX5_kind 21 = .ok (.goto 5, 3) := by decide +kernel
theorem dX5_kind_24 : decode cX5_kind 24 = .ok (.ldc 57, 2) := by decide +kernel
theorem dX5_kind_26 : decode cX5_kind 26 = .ok (.ireturn, 1) := by decide +kernel
theorem dX5_as_0 : decode cX5_as 0 = .ok (.aload_n 0, 1) := by decide +kernel
theorem dX5_as_1 : decode cX5_as 1 = .ok (.iload_n 1, 1) := by decide +kernel
theorem dX5_as_2 : decode cX5_as 2 = .ok (.invokevirtual 144, 3) := by decide +kernel
theorem dX5_as_5 : decode cX5_as 5 = .ok (.ifCond .eq 12, 3) := by decide +kernel
theorem dX5_as_8 : decode cX5_as 8 = .ok (.iload_n 2, 1) := by decide +kernel
theorem dX5_as_9 : decode cX5_as 9 = .ok (.ifCond .lt 8, 3) := by decide +kernel
theorem dX5_as_12 : decode cX5_as 12 = .ok (.iload_n 2, 1) := by decide +kernel
theorem dX5_as_13 : decode cX5_as 13 = .ok (.iconst 3, 1) := by decide +kernel
theorem dX5_as_14 : decode cX5_as 14 = .ok (.if_icmp .le 6, 3) := by decide +kernel
theorem dX5_as_17 : decode cX5_as 17 = .ok (.ldc 57, 2) := by decide +kernel
theorem dX5_as_19 : decode cX5_as 19 = .ok (.ireturn, 1) := by decide +kernel
theorem dX5_as_20 : decode cX5_as 20 = .ok (.aload_n 0, 1) := by decide +kernel
theorem dX5_as_21 : decode cX5_as 21 = .ok (.getfield 21, 3) := by decide +kernel
theorem dX5_as_24 : decode cX5_as 24 = .ok (.iload_n 1, 1) := by decide +kernel
theorem dX5_as_25 : decode cX5_as 25 = .ok (.aaload, 1) := by decide +kernel
theorem dX5_as_26 : decode cX5_as 26 = .ok (.astore_n 3, 1) := by decide +kernel
theorem dX5_as_27 : decode cX5_as 27 = .ok (.aload_n 3, 1) := by decide +kernel
theorem dX5_as_28 : decode cX5_as 28 = .ok (.invokevirtual 172, 3) := by decide +kernel
theorem dX5_as_31 : decode cX5_as 31 = .ok (.ifCond .ne 6, 3) := by decide +kernel
theorem dX5_as_34 : decode cX5_as 34 = .ok (.ldc 114, 2) := by decide +kernel
theorem dX5_as_36 : decode cX5_as 36 = .ok (.ireturn, 1) := by decide +kernel
theorem dX5_as_37 : decode cX5_as 37 = .ok (.iload_n 2, 1) := by decide +kernel
theorem dX5_as_38 : decode cX5_as 38 = .ok (.ifCond .eq 21, 3) := by decide +kernel
theorem dX5_as_41 : decode cX5_as 41 = .ok (.iload_n 2, 1) := by decide +kernel
theorem dX5_as_42 : decode cX5_as 42 = .ok (.aload_n 0, 1) := by decide +kernel
theorem dX5_as_43 : decode cX5_as 43 = .ok (.getfield 28, 3) := by decide +kernel
theorem dX5_as_46 : decode cX5_as 46 = .ok (.aload_n 3, 1) := by decide +kernel
theorem dX5_as_47 : decode cX5_as 47 = .ok (.invokevirtual 237, 3) := by decide +kernel
theorem dX5_as_50 : decode cX5_as 50 = .ok (.if_icmp .eq 9, 3) := by decide +kernel
theorem dX5_as_53 : decode cX5_as 53 = .ok (.aload_n 0, 1) := by decide +kernel
theorem dX5_as_54 : decode cX5_as 54 = .ok (.iconst 3, 1) := by decide +kernel
theorem dX5_as_55 : decode cX5_as 55 = .ok (.invokevirtual 58, 3) := by decide +kernel
theorem dX5_as_58 : decode cX5_as 58 = .ok (.ireturn, 1) := by decide +kernel
theorem dX5_as_59 : decode cX5_as 59 = .ok (.aload_n 0, 1) := by decide +kernel
theorem dX5_as_60 : decode cX5_as 60 = .ok (.aload_n 3, 1) := by decide +kernel
theorem dX5_as_61 : decode cX5_as 61 = .ok (.getfield 180, 3) := by decide +kernel
theorem dX5_as_64 : decode cX5_as 64 = .ok (.invokevirtual 66, 3) := by decide +kernel
theorem dX5_as_67 : decode cX5_as 67 = .ok (.ireturn, 1) := by decide +kernel
theorem dX5_ask_0 : decode cX5_ask 0 = .ok (.aload_n 0, 1) := by decide +kernel
theorem dX5_ask_1 : decode cX5_ask 1 = .ok (.iload_n 1, 1) := by decide +kernel
theorem dX5_ask_2 : decode cX5_ask 2 = .ok (.invokevirtual 144, 3) := by decide +kernel
theorem dX5_ask_5 : decode cX5_ask 5 = .ok (.ifCond .eq 12, 3) := by decide +kernel
theorem dX5_ask_8 : decode cX5_ask 8 = .ok (.iload_n 2, 1) := by decide +kernel
theorem dX5_ask_9 : decode cX5_ask 9 = .ok (.ifCond .lt 8, 3) := by decide +kernel
theorem dX5_ask_12 : decode cX5_ask 12 = .ok (.iload_n 2, 1) := by decide +kernel
theorem dX5_ask_13 : decode cX5_ask 13 = .ok (.iconst 1, 1) := by decide +kernel
theorem dX5_ask_14 : decode cX5_ask 14 = .ok (.if_icmp .le 6, 3) := by decide +kernel
theorem dX5_ask_17 : decode cX5_ask 17 = .ok (.ldc 57, 2) := by decide +kernel
theorem dX5_ask_19 : decode cX5_ask 19 = .ok (.ireturn, 1) := by decide +kernel
theorem dX5_ask_20 : decode cX5_ask 20 = .ok (.aload_n 0, 1) := by decide +kernel
theorem dX5_ask_21 : decode cX5_ask 21 = .ok (.getfield 21, 3) := by decide +kernel
theorem dX5_ask_24 : decode cX5_ask 24 = .ok (.iload_n 1, 1) := by decide +kernel
theorem dX5_ask_25 : decode cX5_ask 25 = .ok (.aaload, 1) := by decide +kernel
theorem dX5_ask_26 : decode cX5_ask 26 = .ok (.astore_n 3, 1) := by decide +kernel
theorem dX5_ask_27 : decode cX5_ask 27 = .ok (.aload_n 3, 1) := by decide +kernel
theorem dX5_ask_28 : decode cX5_ask 28 = .ok (.invokevirtual 172, 3) := by decide +kernel
theorem dX5_ask_31 : decode cX5_ask 31 = .ok (.ifCond .ne 6, 3) := by decide +kernel
theorem dX5_ask_34 : decode cX5_ask 34 = .ok (.ldc 114, 2) := by decide +kernel
theorem dX5_ask_36 : decode cX5_ask 36 = .ok (.ireturn, 1) := by decide +kernel
theorem dX5_ask_37 : decode cX5_ask 37 = .ok (.aload_n 0, 1) := by decide +kernel
theorem dX5_ask_38 : decode cX5_ask 38 = .ok (.iconst 0, 1) := by decide +kernel
theorem dX5_ask_39 : decode cX5_ask 39 = .ok (.putfield 241, 3) := by decide +kernel
theorem dX5_ask_42 : decode cX5_ask 42 = .ok (.iload_n 2, 1) := by decide +kernel
theorem dX5_ask_43 : decode cX5_ask 43 = .ok (.ifCond .ne 11, 3) := by decide +kernel
theorem dX5_ask_46 : decode cX5_ask 46 = .ok (.aload_n 0, 1) := by decide +kernel
theorem dX5_ask_47 : decode cX5_ask 47 = .ok (.aload_n 3, 1) := by decide +kernel
theorem dX5_ask_48 : decode cX5_ask 48 = .ok (.invokevirtual 244, 3) := by decide +kernel
theorem dX5_ask_51 : decode cX5_ask 51 = .ok (.goto 8, 3) := by decide +kernel
theorem dX5_ask_54 : decode cX5_ask 54 = .ok (.aload_n 0, 1) := by decide +kernel
theorem dX5_ask_55 : decode cX5_ask 55 = .ok (.aload_n 3, 1) := by decide +kernel
theorem dX5_ask_56 : decode cX5_ask 56 = .ok (.invokevirtual 247, 3) := by decide +kernel
theorem dX5_ask_59 : decode cX5_ask 59 = .ok (.ireturn, 1) := by decide +kernel
theorem dX5_trace_0 : decode cX5_trace 0 = .ok (.iload_n 1, 1) := by decide +kernel
theorem dX5_trace_1 : decode cX5_trace 1 = .ok (.ifCond .lt 20, 3) := by decide +kernel
theorem dX5_trace_4 : decode cX5_trace 4 = .ok (.iload_n 1, 1) := by decide +kernel
theorem dX5_trace_5 : decode cX5_trace 5 = .ok (.aload_n 0, 1) := by decide +kernel
theorem dX5_trace_6 : decode cX5_trace 6 = .ok (.getfield 241, 3) := by decide +kernel
theorem dX5_trace_9 : decode cX5_trace 9 = .ok (.if_icmp .ge 12, 3) := by decide +kernel
theorem dX5_trace_12 : decode cX5_trace 12 = .ok (.aload_n 0, 1) := by decide +kernel
theorem dX5_trace_13 : decode cX5_trace 13 = .ok (.getfield 46, 3) := by decide +kernel
theorem dX5_trace_16 : decode cX5_trace 16 = .ok (.iload_n 1, 1) := by decide +kernel
theorem dX5_trace_17 : decode cX5_trace 17 = .ok (.iaload, 1) := by decide +kernel
theorem dX5_trace_18 : decode cX5_trace 18 = .ok (.goto 5, 3) := by decide +kernel
theorem dX5_trace_21 : decode cX5_trace 21 = .ok (.ldc 113, 2) := by decide +kernel
theorem dX5_trace_23 : decode cX5_trace 23 = .ok (.ireturn, 1) := by decide +kernel
theorem dX5_count_0 : decode cX5_count 0 = .ok (.iload_n 1, 1) := by decide +kernel
theorem dX5_count_1 : decode cX5_count 1 = .ok (.tableswitch 96 0 7 #[47, 52, 57, 62, 70, 76, 82, 88], 47) := by decide +kernel
theorem dX5_count_48 : decode cX5_count 48 = .ok (.aload_n 0, 1) := by decide +kernel
theorem dX5_count_49 : decode cX5_count 49 = .ok (.invokevirtual 250, 3) := by decide +kernel
theorem dX5_count_52 : decode cX5_count 52 = .ok (.ireturn, 1) := by decide +kernel
theorem dX5_count_53 : decode cX5_count 53 = .ok (.aload_n 0, 1) := by decide +kernel
theorem dX5_count_54 : decode cX5_count 54 = .ok (.getfield 115, 3) := by decide +kernel
theorem dX5_count_57 : decode cX5_count 57 = .ok (.ireturn, 1) := by decide +kernel
theorem dX5_count_58 : decode cX5_count 58 = .ok (.aload_n 0, 1) := by decide +kernel
theorem dX5_count_59 : decode cX5_count 59 = .ok (.getfield 129, 3) := by decide +kernel
theorem dX5_count_62 : decode cX5_count 62 = .ok (.ireturn, 1) := by decide +kernel
theorem dX5_count_63 : decode cX5_count 63 = .ok (.aload_n 0, 1) := by decide +kernel
theorem dX5_count_64 : decode cX5_count 64 = .ok (.invokevirtual 215, 3) := by decide +kernel
theorem dX5_count_67 : decode cX5_count 67 = .ok (.invokestatic 253, 3) := by decide +kernel
theorem dX5_count_70 : decode cX5_count 70 = .ok (.ireturn, 1) := by decide +kernel
theorem dX5_count_71 : decode cX5_count 71 = .ok (.aload_n 0, 1) := by decide +kernel
theorem dX5_count_72 : decode cX5_count 72 = .ok (.iconst 1, 1) := by decide +kernel
theorem dX5_count_73 : decode cX5_count 73 = .ok (.invokevirtual 258, 3) := by decide +kernel
theorem dX5_count_76 : decode cX5_count 76 = .ok (.ireturn, 1) := by decide +kernel
theorem dX5_count_77 : decode cX5_count 77 = .ok (.aload_n 0, 1) := by decide +kernel
theorem dX5_count_78 : decode cX5_count 78 = .ok (.iconst 2, 1) := by decide +kernel
theorem dX5_count_79 : decode cX5_count 79 = .ok (.invokevirtual 258, 3) := by decide +kernel
theorem dX5_count_82 : decode cX5_count 82 = .ok (.ireturn, 1) := by decide +kernel
theorem dX5_count_83 : decode cX5_count 83 = .ok (.aload_n 0, 1) := by decide +kernel
theorem dX5_count_84 : decode cX5_count 84 = .ok (.iconst 3, 1) := by decide +kernel
theorem dX5_count_85 : decode cX5_count 85 = .ok (.invokevirtual 258, 3) := by decide +kernel
theorem dX5_count_88 : decode cX5_count 88 = .ok (.ireturn, 1) := by decide +kernel
theorem dX5_count_89 : decode cX5_count 89 = .ok (.aload_n 0, 1) := by decide +kernel
theorem dX5_count_90 : decode cX5_count 90 = .ok (.getfield 28, 3) := by decide +kernel
theorem dX5_count_93 : decode cX5_count 93 = .ok (.invokevirtual 261, 3) := by decide +kernel
theorem dX5_count_96 : decode cX5_count 96 = .ok (.ireturn, 1) := by decide +kernel
theorem dX5_count_97 : decode cX5_count 97 = .ok (.ldc 57, 2) := by decide +kernel
theorem dX5_count_99 : decode cX5_count 99 = .ok (.ireturn, 1) := by decide +kernel
theorem dX5_status_0 : decode cX5_status 0 = .ok (.aload_n 0, 1) := by decide +kernel
theorem dX5_status_1 : decode cX5_status 1 = .ok (.getfield 264, 3) := by decide +kernel
theorem dX5_status_4 : decode cX5_status 4 = .ok (.ireturn, 1) := by decide +kernel
theorem dX5_found_0 : decode cX5_found 0 = .ok (.aload_n 0, 1) := by decide +kernel
theorem dX5_found_1 : decode cX5_found 1 = .ok (.iload_n 1, 1) := by decide +kernel
theorem dX5_found_2 : decode cX5_found 2 = .ok (.putfield 264, 3) := by decide +kernel
theorem dX5_found_5 : decode cX5_found 5 = .ok (.ldc_w 267, 3) := by decide +kernel
theorem dX5_found_8 : decode cX5_found 8 = .ok (.iload_n 1, 1) := by decide +kernel
theorem dX5_found_9 : decode cX5_found 9 = .ok (.isub, 1) := by decide +kernel
theorem dX5_found_10 : decode cX5_found 10 = .ok (.ireturn, 1) := by decide +kernel
theorem dX5_unfound_0 : decode cX5_unfound 0 = .ok (.aload_n 0, 1) := by decide +kernel
theorem dX5_unfound_1 : decode cX5_unfound 1 = .ok (.iconst 0, 1) := by decide +kernel
theorem dX5_unfound_2 : decode cX5_unfound 2 = .ok (.putfield 264, 3) := by decide +kernel
theorem dX5_unfound_5 : decode cX5_unfound 5 = .ok (.iload_n 1, 1) := by decide +kernel
theorem dX5_unfound_6 : decode cX5_unfound 6 = .ok (.ireturn, 1) := by decide +kernel
theorem dX5_isSheet_0 : decode cX5_isSheet 0 = .ok (.iload_n 0, 1) := by decide +kernel
theorem dX5_isSheet_1 : decode cX5_isSheet 1 = .ok (.ifCond .lt 13, 3) := by decide +kernel
theorem dX5_isSheet_4 : decode cX5_isSheet 4 = .ok (.iload_n 0, 1) := by decide +kernel
theorem dX5_isSheet_5 : decode cX5_isSheet 5 = .ok (.bipush 8, 2) := by decide +kernel
theorem dX5_isSheet_7 : decode cX5_isSheet 7 = .ok (.if_icmp .ge 7, 3) := by decide +kernel
theorem dX5_isSheet_10 : decode cX5_isSheet 10 = .ok (.iconst 1, 1) := by decide +kernel
theorem dX5_isSheet_11 : decode cX5_isSheet 11 = .ok (.goto 4, 3) := by decide +kernel
theorem dX5_isSheet_14 : decode cX5_isSheet 14 = .ok (.iconst 0, 1) := by decide +kernel
theorem dX5_isSheet_15 : decode cX5_isSheet 15 = .ok (.ireturn, 1) := by decide +kernel
theorem dX5_isPlace_0 : decode cX5_isPlace 0 = .ok (.iload_n 0, 1) := by decide +kernel
theorem dX5_isPlace_1 : decode cX5_isPlace 1 = .ok (.ifCond .lt 23, 3) := by decide +kernel
theorem dX5_isPlace_4 : decode cX5_isPlace 4 = .ok (.iload_n 0, 1) := by decide +kernel
theorem dX5_isPlace_5 : decode cX5_isPlace 5 = .ok (.bipush 10, 2) := by decide +kernel
theorem dX5_isPlace_7 : decode cX5_isPlace 7 = .ok (.if_icmp .ge 17, 3) := by decide +kernel
theorem dX5_isPlace_10 : decode cX5_isPlace 10 = .ok (.iload_n 1, 1) := by decide +kernel
theorem dX5_isPlace_11 : decode cX5_isPlace 11 = .ok (.ifCond .lt 13, 3) := by decide +kernel
theorem dX5_isPlace_14 : decode cX5_isPlace 14 = .ok (.iload_n 1, 1) := by decide +kernel
theorem dX5_isPlace_15 : decode cX5_isPlace 15 = .ok (.bipush 10, 2) := by decide +kernel
theorem dX5_isPlace_17 : decode cX5_isPlace 17 = .ok (.if_icmp .ge 7, 3) := by decide +kernel
theorem dX5_isPlace_20 : decode cX5_isPlace 20 = .ok (.iconst 1, 1) := by decide +kernel
theorem dX5_isPlace_21 : decode cX5_isPlace 21 = .ok (.goto 4, 3) := by decide +kernel
theorem dX5_isPlace_24 : decode cX5_isPlace 24 = .ok (.iconst 0, 1) := by decide +kernel
theorem dX5_isPlace_25 : decode cX5_isPlace 25 = .ok (.ireturn, 1) := by decide +kernel
theorem dX5_isDirection_0 : decode cX5_isDirection 0 = .ok (.iload_n 0, 1) := by decide +kernel
theorem dX5_isDirection_1 : decode cX5_isDirection 1 = .ok (.ifCond .lt 12, 3) := by decide +kernel
theorem dX5_isDirection_4 : decode cX5_isDirection 4 = .ok (.iload_n 0, 1) := by decide +kernel
theorem dX5_isDirection_5 : decode cX5_isDirection 5 = .ok (.iconst 4, 1) := by decide +kernel
theorem dX5_isDirection_6 : decode cX5_isDirection 6 = .ok (.if_icmp .ge 7, 3) := by decide +kernel
theorem dX5_isDirection_9 : decode cX5_isDirection 9 = .ok (.iconst 1, 1) := by decide +kernel
theorem dX5_isDirection_10 : decode cX5_isDirection 10 = .ok (.goto 4, 3) := by decide +kernel
theorem dX5_isDirection_13 : decode cX5_isDirection 13 = .ok (.iconst 0, 1) := by decide +kernel
theorem dX5_isDirection_14 : decode cX5_isDirection 14 = .ok (.ireturn, 1) := by decide +kernel
theorem dX5_isPoint_0 : decode cX5_isPoint 0 = .ok (.iload_n 1, 1) := by decide +kernel
theorem dX5_isPoint_1 : decode cX5_isPoint 1 = .ok (.ifCond .lt 15, 3) := by decide +kernel
theorem dX5_isPoint_4 : decode cX5_isPoint 4 = .ok (.iload_n 1, 1) := by decide +kernel
theorem dX5_isPoint_5 : decode cX5_isPoint 5 = .ok (.aload_n 0, 1) := by decide +kernel
theorem dX5_isPoint_6 : decode cX5_isPoint 6 = .ok (.getfield 115, 3) := by decide +kernel
theorem dX5_isPoint_9 : decode cX5_isPoint 9 = .ok (.if_icmp .ge 7, 3) := by decide +kernel
theorem dX5_isPoint_12 : decode cX5_isPoint 12 = .ok (.iconst 1, 1) := by decide +kernel
theorem dX5_isPoint_13 : decode cX5_isPoint 13 = .ok (.goto 4, 3) := by decide +kernel
theorem dX5_isPoint_16 : decode cX5_isPoint 16 = .ok (.iconst 0, 1) := by decide +kernel
theorem dX5_isPoint_17 : decode cX5_isPoint 17 = .ok (.ireturn, 1) := by decide +kernel
theorem dX5_isLine_0 : decode cX5_isLine 0 = .ok (.iload_n 1, 1) := by decide +kernel
theorem dX5_isLine_1 : decode cX5_isLine 1 = .ok (.ifCond .lt 15, 3) := by decide +kernel
theorem dX5_isLine_4 : decode cX5_isLine 4 = .ok (.iload_n 1, 1) := by decide +kernel
theorem dX5_isLine_5 : decode cX5_isLine 5 = .ok (.aload_n 0, 1) := by decide +kernel
theorem dX5_isLine_6 : decode cX5_isLine 6 = .ok (.getfield 129, 3) := by decide +kernel
theorem dX5_isLine_9 : decode cX5_isLine 9 = .ok (.if_icmp .ge 7, 3) := by decide +kernel
theorem dX5_isLine_12 : decode cX5_isLine 12 = .ok (.iconst 1, 1) := by decide +kernel
theorem dX5_isLine_13 : decode cX5_isLine 13 = .ok (.goto 4, 3) := by decide +kernel
theorem dX5_isLine_16 : decode cX5_isLine 16 = .ok (.iconst 0, 1) := by decide +kernel
theorem dX5_isLine_17 : decode cX5_isLine 17 = .ok (.ireturn, 1) := by decide +kernel
theorem dX5_placeAt_0 : decode cX5_placeAt 0 = .ok (.iload_n 1, 1) := by decide +kernel
theorem dX5_placeAt_1 : decode cX5_placeAt 1 = .ok (.bipush 10, 2) := by decide +kernel
theorem dX5_placeAt_3 : decode cX5_placeAt 3 = .ok (.imul, 1) := by decide +kernel
end
section
theorem dX5_placeAt_4 : decode cX5_placeAt 4 = .ok (.iload_n 0, 1) := by decide +kernel
theorem dX5_placeAt_5 : decode cX5_placeAt 5 = .ok (.iadd, 1) := by decide +kernel
theorem dX5_placeAt_6 : decode cX5_placeAt 6 = .ok (.ireturn, 1) := by decide +kernel
theorem dX5_beside_0 : decode cX5_beside 0 = .ok (.iload_n 1, 1) := by decide +kernel
theorem dX5_beside_1 : decode cX5_beside 1 = .ok (.tableswitch 74 0 2 #[27, 42, 59], 27) := by decide +kernel
theorem dX5_beside_28 : decode cX5_beside 28 = .ok (.iload_n 0, 1) := by decide +kernel
theorem dX5_beside_29 : decode cX5_beside 29 = .ok (.bipush 10, 2) := by decide +kernel
theorem dX5_beside_31 : decode cX5_beside 31 = .ok (.if_icmp .lt 10, 3) := by decide +kernel
theorem dX5_beside_34 : decode cX5_beside 34 = .ok (.iload_n 0, 1) := by decide +kernel
theorem dX5_beside_35 : decode cX5_beside 35 = .ok (.bipush 10, 2) := by decide +kernel
theorem dX5_beside_37 : decode cX5_beside 37 = .ok (.isub, 1) := by decide +kernel
theorem dX5_beside_38 : decode cX5_beside 38 = .ok (.goto 4, 3) := by decide +kernel
theorem dX5_beside_41 : decode cX5_beside 41 = .ok (.iconst (-1), 1) := by decide +kernel
theorem dX5_beside_42 : decode cX5_beside 42 = .ok (.ireturn, 1) := by decide +kernel
theorem dX5_beside_43 : decode cX5_beside 43 = .ok (.iload_n 0, 1) := by decide +kernel
theorem dX5_beside_44 : decode cX5_beside 44 = .ok (.bipush 10, 2) := by decide +kernel
theorem dX5_beside_46 : decode cX5_beside 46 = .ok (.irem, 1) := by decide +kernel
theorem dX5_beside_47 : decode cX5_beside 47 = .ok (.bipush 9, 2) := by decide +kernel
theorem dX5_beside_49 : decode cX5_beside 49 = .ok (.if_icmp .ge 9, 3) := by decide +kernel
theorem dX5_beside_52 : decode cX5_beside 52 = .ok (.iload_n 0, 1) := by decide +kernel
theorem dX5_beside_53 : decode cX5_beside 53 = .ok (.iconst 1, 1) := by decide +kernel
theorem dX5_beside_54 : decode cX5_beside 54 = .ok (.iadd, 1) := by decide +kernel
theorem dX5_beside_55 : decode cX5_beside 55 = .ok (.goto 4, 3) := by decide +kernel
theorem dX5_beside_58 : decode cX5_beside 58 = .ok (.iconst (-1), 1) := by decide +kernel
theorem dX5_beside_59 : decode cX5_beside 59 = .ok (.ireturn, 1) := by decide +kernel
theorem dX5_beside_60 : decode cX5_beside 60 = .ok (.iload_n 0, 1) := by decide +kernel
theorem dX5_beside_61 : decode cX5_beside 61 = .ok (.bipush 90, 2) := by decide +kernel
theorem dX5_beside_63 : decode cX5_beside 63 = .ok (.if_icmp .ge 10, 3) := by decide +kernel
theorem dX5_beside_66 : decode cX5_beside 66 = .ok (.iload_n 0, 1) := by decide +kernel
theorem dX5_beside_67 : decode cX5_beside 67 = .ok (.bipush 10, 2) := by decide +kernel
theorem dX5_beside_69 : decode cX5_beside 69 = .ok (.iadd, 1) := by decide +kernel
theorem dX5_beside_70 : decode cX5_beside 70 = .ok (.goto 4, 3) := by decide +kernel
theorem dX5_beside_73 : decode cX5_beside 73 = .ok (.iconst (-1), 1) := by decide +kernel
theorem dX5_beside_74 : decode cX5_beside 74 = .ok (.ireturn, 1) := by decide +kernel
theorem dX5_beside_75 : decode cX5_beside 75 = .ok (.iload_n 0, 1) := by decide +kernel
theorem dX5_beside_76 : decode cX5_beside 76 = .ok (.bipush 10, 2) := by decide +kernel
theorem dX5_beside_78 : decode cX5_beside 78 = .ok (.irem, 1) := by decide +kernel
theorem dX5_beside_79 : decode cX5_beside 79 = .ok (.ifCond .le 9, 3) := by decide +kernel
theorem dX5_beside_82 : decode cX5_beside 82 = .ok (.iload_n 0, 1) := by decide +kernel
theorem dX5_beside_83 : decode cX5_beside 83 = .ok (.iconst 1, 1) := by decide +kernel
theorem dX5_beside_84 : decode cX5_beside 84 = .ok (.isub, 1) := by decide +kernel
theorem dX5_beside_85 : decode cX5_beside 85 = .ok (.goto 4, 3) := by decide +kernel
theorem dX5_beside_88 : decode cX5_beside 88 = .ok (.iconst (-1), 1) := by decide +kernel
theorem dX5_beside_89 : decode cX5_beside 89 = .ok (.ireturn, 1) := by decide +kernel
theorem dX5_sideBetween_0 : decode cX5_sideBetween 0 = .ok (.iload_n 0, 1) := by decide +kernel
theorem dX5_sideBetween_1 : decode cX5_sideBetween 1 = .ok (.iload_n 1, 1) := by decide +kernel
theorem dX5_sideBetween_2 : decode cX5_sideBetween 2 = .ok (.invokestatic 268, 3) := by decide +kernel
theorem dX5_sideBetween_5 : decode cX5_sideBetween 5 = .ok (.iconst 2, 1) := by decide +kernel
theorem dX5_sideBetween_6 : decode cX5_sideBetween 6 = .ok (.imul, 1) := by decide +kernel
theorem dX5_sideBetween_7 : decode cX5_sideBetween 7 = .ok (.iload_n 2, 1) := by decide +kernel
theorem dX5_sideBetween_8 : decode cX5_sideBetween 8 = .ok (.iconst 2, 1) := by decide +kernel
theorem dX5_sideBetween_9 : decode cX5_sideBetween 9 = .ok (.irem, 1) := by decide +kernel
theorem dX5_sideBetween_10 : decode cX5_sideBetween 10 = .ok (.iadd, 1) := by decide +kernel
theorem dX5_sideBetween_11 : decode cX5_sideBetween 11 = .ok (.ireturn, 1) := by decide +kernel
theorem dX5_turn_0 : decode cX5_turn 0 = .ok (.aload_n 0, 1) := by decide +kernel
theorem dX5_turn_1 : decode cX5_turn 1 = .ok (.getfield 28, 3) := by decide +kernel
theorem dX5_turn_4 : decode cX5_turn 4 = .ok (.getfield 106, 3) := by decide +kernel
theorem dX5_turn_7 : decode cX5_turn 7 = .ok (.iload_n 1, 1) := by decide +kernel
theorem dX5_turn_8 : decode cX5_turn 8 = .ok (.baload, 1) := by decide +kernel
theorem dX5_turn_9 : decode cX5_turn 9 = .ok (.iload_n 2, 1) := by decide +kernel
theorem dX5_turn_10 : decode cX5_turn 10 = .ok (.if_icmp .ne 5, 3) := by decide +kernel
theorem dX5_turn_13 : decode cX5_turn 13 = .ok (.iconst 0, 1) := by decide +kernel
theorem dX5_turn_14 : decode cX5_turn 14 = .ok (.ireturn, 1) := by decide +kernel
theorem dX5_turn_15 : decode cX5_turn 15 = .ok (.aload_n 0, 1) := by decide +kernel
theorem dX5_turn_16 : decode cX5_turn 16 = .ok (.getfield 28, 3) := by decide +kernel
theorem dX5_turn_19 : decode cX5_turn 19 = .ok (.getfield 106, 3) := by decide +kernel
theorem dX5_turn_22 : decode cX5_turn 22 = .ok (.iload_n 1, 1) := by decide +kernel
theorem dX5_turn_23 : decode cX5_turn 23 = .ok (.iload_n 2, 1) := by decide +kernel
theorem dX5_turn_24 : decode cX5_turn 24 = .ok (.bastore, 1) := by decide +kernel
theorem dX5_turn_25 : decode cX5_turn 25 = .ok (.iconst 1, 1) := by decide +kernel
theorem dX5_turn_26 : decode cX5_turn 26 = .ok (.ireturn, 1) := by decide +kernel
theorem dX5_goThroughLines_0 : decode cX5_goThroughLines 0 = .ok (.iconst 0, 1) := by decide +kernel
theorem dX5_goThroughLines_1 : decode cX5_goThroughLines 1 = .ok (.istore_n 1, 1) := by decide +kernel
theorem dX5_goThroughLines_2 : decode cX5_goThroughLines 2 = .ok (.iconst 0, 1) := by decide +kernel
theorem dX5_goThroughLines_3 : decode cX5_goThroughLines 3 = .ok (.istore_n 2, 1) := by decide +kernel
theorem dX5_goThroughLines_4 : decode cX5_goThroughLines 4 = .ok (.iload_n 2, 1) := by decide +kernel
theorem dX5_goThroughLines_5 : decode cX5_goThroughLines 5 = .ok (.aload_n 0, 1) := by decide +kernel
theorem dX5_goThroughLines_6 : decode cX5_goThroughLines 6 = .ok (.getfield 129, 3) := by decide +kernel
theorem dX5_goThroughLines_9 : decode cX5_goThroughLines 9 = .ok (.if_icmp .ge 25, 3) := by decide +kernel
theorem dX5_goThroughLines_12 : decode cX5_goThroughLines 12 = .ok (.aload_n 0, 1) := by decide +kernel
theorem dX5_goThroughLines_13 : decode cX5_goThroughLines 13 = .ok (.aload_n 0, 1) := by decide +kernel
theorem dX5_goThroughLines_14 : decode cX5_goThroughLines 14 = .ok (.getfield 21, 3) := by decide +kernel
theorem dX5_goThroughLines_17 : decode cX5_goThroughLines 17 = .ok (.iload_n 2, 1) := by decide +kernel
theorem dX5_goThroughLines_18 : decode cX5_goThroughLines 18 = .ok (.aaload, 1) := by decide +kernel
theorem dX5_goThroughLines_19 : decode cX5_goThroughLines 19 = .ok (.invokevirtual 273, 3) := by decide +kernel
theorem dX5_goThroughLines_22 : decode cX5_goThroughLines 22 = .ok (.ifCond .eq 6, 3) := by decide +kernel
theorem dX5_goThroughLines_25 : decode cX5_goThroughLines 25 = .ok (.iinc 1 1, 3) := by decide +kernel
theorem dX5_goThroughLines_28 : decode cX5_goThroughLines 28 = .ok (.iinc 2 1, 3) := by decide +kernel
theorem dX5_goThroughLines_31 : decode cX5_goThroughLines 31 = .ok (.goto (-27), 3) := by decide +kernel
theorem dX5_goThroughLines_34 : decode cX5_goThroughLines 34 = .ok (.iload_n 1, 1) := by decide +kernel
theorem dX5_goThroughLines_35 : decode cX5_goThroughLines 35 = .ok (.ireturn, 1) := by decide +kernel
theorem dX5_leadIfBetter_0 : decode cX5_leadIfBetter 0 = .ok (.aload_n 0, 1) := by decide +kernel
theorem dX5_leadIfBetter_1 : decode cX5_leadIfBetter 1 = .ok (.getfield 35, 3) := by decide +kernel
theorem dX5_leadIfBetter_4 : decode cX5_leadIfBetter 4 = .ok (.aload_n 0, 1) := by decide +kernel
theorem dX5_leadIfBetter_5 : decode cX5_leadIfBetter 5 = .ok (.getfield 28, 3) := by decide +kernel
theorem dX5_leadIfBetter_8 : decode cX5_leadIfBetter 8 = .ok (.aload_n 1, 1) := by decide +kernel
theorem dX5_leadIfBetter_9 : decode cX5_leadIfBetter 9 = .ok (.invokevirtual 147, 3) := by decide +kernel
theorem dX5_leadIfBetter_12 : decode cX5_leadIfBetter 12 = .ok (.ifCond .ne 5, 3) := by decide +kernel
theorem dX5_leadIfBetter_15 : decode cX5_leadIfBetter 15 = .ok (.iconst 0, 1) := by decide +kernel
theorem dX5_leadIfBetter_16 : decode cX5_leadIfBetter 16 = .ok (.ireturn, 1) := by decide +kernel
theorem dX5_leadIfBetter_17 : decode cX5_leadIfBetter 17 = .ok (.aload_n 1, 1) := by decide +kernel
theorem dX5_leadIfBetter_18 : decode cX5_leadIfBetter 18 = .ok (.invokevirtual 172, 3) := by decide +kernel
theorem dX5_leadIfBetter_21 : decode cX5_leadIfBetter 21 = .ok (.ifCond .eq 23, 3) := by decide +kernel
theorem dX5_leadIfBetter_24 : decode cX5_leadIfBetter 24 = .ok (.aload_n 0, 1) := by decide +kernel
theorem dX5_leadIfBetter_25 : decode cX5_leadIfBetter 25 = .ok (.getfield 35, 3) := by decide +kernel
theorem dX5_leadIfBetter_28 : decode cX5_leadIfBetter 28 = .ok (.getfield 165, 3) := by decide +kernel
theorem dX5_leadIfBetter_31 : decode cX5_leadIfBetter 31 = .ok (.aload_n 0, 1) := by decide +kernel
theorem dX5_leadIfBetter_32 : decode cX5_leadIfBetter 32 = .ok (.getfield 28, 3) := by decide +kernel
theorem dX5_leadIfBetter_35 : decode cX5_leadIfBetter 35 = .ok (.aload_n 1, 1) := by decide +kernel
theorem dX5_leadIfBetter_36 : decode cX5_leadIfBetter 36 = .ok (.invokevirtual 277, 3) := by decide +kernel
theorem dX5_leadIfBetter_39 : decode cX5_leadIfBetter 39 = .ok (.if_icmp .lt 5, 3) := by decide +kernel
theorem dX5_leadIfBetter_42 : decode cX5_leadIfBetter 42 = .ok (.iconst 0, 1) := by decide +kernel
theorem dX5_leadIfBetter_43 : decode cX5_leadIfBetter 43 = .ok (.ireturn, 1) := by decide +kernel
theorem dX5_leadIfBetter_44 : decode cX5_leadIfBetter 44 = .ok (.aload_n 0, 1) := by decide +kernel
theorem dX5_leadIfBetter_45 : decode cX5_leadIfBetter 45 = .ok (.getfield 28, 3) := by decide +kernel
theorem dX5_leadIfBetter_48 : decode cX5_leadIfBetter 48 = .ok (.aload_n 1, 1) := by decide +kernel
theorem dX5_leadIfBetter_49 : decode cX5_leadIfBetter 49 = .ok (.aload_n 0, 1) := by decide +kernel
theorem dX5_leadIfBetter_50 : decode cX5_leadIfBetter 50 = .ok (.getfield 35, 3) := by decide +kernel
theorem dX5_leadIfBetter_53 : decode cX5_leadIfBetter 53 = .ok (.getfield 155, 3) := by decide +kernel
theorem dX5_leadIfBetter_56 : decode cX5_leadIfBetter 56 = .ok (.iconst 0, 1) := by decide +kernel
theorem dX5_leadIfBetter_57 : decode cX5_leadIfBetter 57 = .ok (.aload_n 0, 1) := by decide +kernel
theorem dX5_leadIfBetter_58 : decode cX5_leadIfBetter 58 = .ok (.getfield 35, 3) := by decide +kernel
theorem dX5_leadIfBetter_61 : decode cX5_leadIfBetter 61 = .ok (.getfield 158, 3) := by decide +kernel
theorem dX5_leadIfBetter_64 : decode cX5_leadIfBetter 64 = .ok (.invokevirtual 161, 3) := by decide +kernel
theorem dX5_leadIfBetter_67 : decode cX5_leadIfBetter 67 = .ok (.iconst 1, 1) := by decide +kernel
theorem dX5_leadIfBetter_68 : decode cX5_leadIfBetter 68 = .ok (.ireturn, 1) := by decide +kernel
theorem dX5_sidesOfWays_0 : decode cX5_sidesOfWays 0 = .ok (.iconst 0, 1) := by decide +kernel
theorem dX5_sidesOfWays_1 : decode cX5_sidesOfWays 1 = .ok (.istore_n 1, 1) := by decide +kernel
theorem dX5_sidesOfWays_2 : decode cX5_sidesOfWays 2 = .ok (.iconst 0, 1) := by decide +kernel
theorem dX5_sidesOfWays_3 : decode cX5_sidesOfWays 3 = .ok (.istore_n 2, 1) := by decide +kernel
theorem dX5_sidesOfWays_4 : decode cX5_sidesOfWays 4 = .ok (.iload_n 2, 1) := by decide +kernel
theorem dX5_sidesOfWays_5 : decode cX5_sidesOfWays 5 = .ok (.aload_n 0, 1) := by decide +kernel
theorem dX5_sidesOfWays_6 : decode cX5_sidesOfWays 6 = .ok (.getfield 129, 3) := by decide +kernel
theorem dX5_sidesOfWays_9 : decode cX5_sidesOfWays 9 = .ok (.if_icmp .ge 21, 3) := by decide +kernel
theorem dX5_sidesOfWays_12 : decode cX5_sidesOfWays 12 = .ok (.iload_n 1, 1) := by decide +kernel
theorem dX5_sidesOfWays_13 : decode cX5_sidesOfWays 13 = .ok (.aload_n 0, 1) := by decide +kernel
theorem dX5_sidesOfWays_14 : decode cX5_sidesOfWays 14 = .ok (.getfield 21, 3) := by decide +kernel
theorem dX5_sidesOfWays_17 : decode cX5_sidesOfWays 17 = .ok (.iload_n 2, 1) := by decide +kernel
theorem dX5_sidesOfWays_18 : decode cX5_sidesOfWays 18 = .ok (.aaload, 1) := by decide +kernel
theorem dX5_sidesOfWays_19 : decode cX5_sidesOfWays 19 = .ok (.getfield 180, 3) := by decide +kernel
theorem dX5_sidesOfWays_22 : decode cX5_sidesOfWays 22 = .ok (.iadd, 1) := by decide +kernel
theorem dX5_sidesOfWays_23 : decode cX5_sidesOfWays 23 = .ok (.istore_n 1, 1) := by decide +kernel
theorem dX5_sidesOfWays_24 : decode cX5_sidesOfWays 24 = .ok (.iinc 2 1, 3) := by decide +kernel
theorem dX5_sidesOfWays_27 : decode cX5_sidesOfWays 27 = .ok (.goto (-23), 3) := by decide +kernel
theorem dX5_sidesOfWays_30 : decode cX5_sidesOfWays 30 = .ok (.iload_n 1, 1) := by decide +kernel
theorem dX5_sidesOfWays_31 : decode cX5_sidesOfWays 31 = .ok (.ireturn, 1) := by decide +kernel
theorem dX5_waysMask_0 : decode cX5_waysMask 0 = .ok (.iconst 0, 1) := by decide +kernel
theorem dX5_waysMask_1 : decode cX5_waysMask 1 = .ok (.istore_n 1, 1) := by decide +kernel
theorem dX5_waysMask_2 : decode cX5_waysMask 2 = .ok (.iconst 0, 1) := by decide +kernel
theorem dX5_waysMask_3 : decode cX5_waysMask 3 = .ok (.istore_n 2, 1) := by decide +kernel
theorem dX5_waysMask_4 : decode cX5_waysMask 4 = .ok (.iload_n 2, 1) := by decide +kernel
theorem dX5_waysMask_5 : decode cX5_waysMask 5 = .ok (.aload_n 0, 1) := by decide +kernel
theorem dX5_waysMask_6 : decode cX5_waysMask 6 = .ok (.getfield 129, 3) := by decide +kernel
theorem dX5_waysMask_9 : decode cX5_waysMask 9 = .ok (.if_icmp .ge 33, 3) := by decide +kernel
theorem dX5_waysMask_12 : decode cX5_waysMask 12 = .ok (.aload_n 0, 1) := by decide +kernel
theorem dX5_waysMask_13 : decode cX5_waysMask 13 = .ok (.getfield 21, 3) := by decide +kernel
theorem dX5_waysMask_16 : decode cX5_waysMask 16 = .ok (.iload_n 2, 1) := by decide +kernel
theorem dX5_waysMask_17 : decode cX5_waysMask 17 = .ok (.aaload, 1) := by decide +kernel
theorem dX5_waysMask_18 : decode cX5_waysMask 18 = .ok (.invokevirtual 172, 3) := by decide +kernel
theorem dX5_waysMask_21 : decode cX5_waysMask 21 = .ok (.ifCond .eq 15, 3) := by decide +kernel
theorem dX5_waysMask_24 : decode cX5_waysMask 24 = .ok (.iload_n 1, 1) := by decide +kernel
theorem dX5_waysMask_25 : decode cX5_waysMask 25 = .ok (.aload_n 0, 1) := by decide +kernel
theorem dX5_waysMask_26 : decode cX5_waysMask 26 = .ok (.getfield 21, 3) := by decide +kernel
theorem dX5_waysMask_29 : decode cX5_waysMask 29 = .ok (.iload_n 2, 1) := by decide +kernel
theorem dX5_waysMask_30 : decode cX5_waysMask 30 = .ok (.aaload, 1) := by decide +kernel
theorem dX5_waysMask_31 : decode cX5_waysMask 31 = .ok (.getfield 209, 3) := by decide +kernel
theorem dX5_waysMask_34 : decode cX5_waysMask 34 = .ok (.ior, 1) := by decide +kernel
theorem dX5_waysMask_35 : decode cX5_waysMask 35 = .ok (.istore_n 1, 1) := by decide +kernel
theorem dX5_waysMask_36 : decode cX5_waysMask 36 = .ok (.iinc 2 1, 3) := by decide +kernel
theorem dX5_waysMask_39 : decode cX5_waysMask 39 = .ok (.goto (-35), 3) := by decide +kernel
theorem dX5_waysMask_42 : decode cX5_waysMask 42 = .ok (.iload_n 1, 1) := by decide +kernel
theorem dX5_waysMask_43 : decode cX5_waysMask 43 = .ok (.ireturn, 1) := by decide +kernel
theorem dX5_isEndOfWay_0 : decode cX5_isEndOfWay 0 = .ok (.iconst 0, 1) := by decide +kernel
theorem dX5_isEndOfWay_1 : decode cX5_isEndOfWay 1 = .ok (.istore_n 2, 1) := by decide +kernel
theorem dX5_isEndOfWay_2 : decode cX5_isEndOfWay 2 = .ok (.iload_n 2, 1) := by decide +kernel
theorem dX5_isEndOfWay_3 : decode cX5_isEndOfWay 3 = .ok (.aload_n 0, 1) := by decide +kernel
theorem dX5_isEndOfWay_4 : decode cX5_isEndOfWay 4 = .ok (.getfield 129, 3) := by decide +kernel
theorem dX5_isEndOfWay_7 : decode cX5_isEndOfWay 7 = .ok (.if_icmp .ge 49, 3) := by decide +kernel
theorem dX5_isEndOfWay_10 : decode cX5_isEndOfWay 10 = .ok (.aload_n 0, 1) := by decide +kernel
theorem dX5_isEndOfWay_11 : decode cX5_isEndOfWay 11 = .ok (.getfield 21, 3) := by decide +kernel
theorem dX5_isEndOfWay_14 : decode cX5_isEndOfWay 14 = .ok (.iload_n 2, 1) := by decide +kernel
theorem dX5_isEndOfWay_15 : decode cX5_isEndOfWay 15 = .ok (.aaload, 1) := by decide +kernel
theorem dX5_isEndOfWay_16 : decode cX5_isEndOfWay 16 = .ok (.invokevirtual 172, 3) := by decide +kernel
theorem dX5_isEndOfWay_19 : decode cX5_isEndOfWay 19 = .ok (.ifCond .eq 31, 3) := by decide +kernel
theorem dX5_isEndOfWay_22 : decode cX5_isEndOfWay 22 = .ok (.aload_n 0, 1) := by decide +kernel
theorem dX5_isEndOfWay_23 : decode cX5_isEndOfWay 23 = .ok (.getfield 21, 3) := by decide +kernel
theorem dX5_isEndOfWay_26 : decode cX5_isEndOfWay 26 = .ok (.iload_n 2, 1) := by decide +kernel
theorem dX5_isEndOfWay_27 : decode cX5_isEndOfWay 27 = .ok (.aaload, 1) := by decide +kernel
theorem dX5_isEndOfWay_28 : decode cX5_isEndOfWay 28 = .ok (.getfield 280, 3) := by decide +kernel
theorem dX5_isEndOfWay_31 : decode cX5_isEndOfWay 31 = .ok (.iload_n 1, 1) := by decide +kernel
theorem dX5_isEndOfWay_32 : decode cX5_isEndOfWay 32 = .ok (.if_icmp .eq 16, 3) := by decide +kernel
theorem dX5_isEndOfWay_35 : decode cX5_isEndOfWay 35 = .ok (.aload_n 0, 1) := by decide +kernel
theorem dX5_isEndOfWay_36 : decode cX5_isEndOfWay 36 = .ok (.getfield 21, 3) := by decide +kernel
theorem dX5_isEndOfWay_39 : decode cX5_isEndOfWay 39 = .ok (.iload_n 2, 1) := by decide +kernel
theorem dX5_isEndOfWay_40 : decode cX5_isEndOfWay 40 = .ok (.aaload, 1) := by decide +kernel
theorem dX5_isEndOfWay_41 : decode cX5_isEndOfWay 41 = .ok (.getfield 283, 3) := by decide +kernel
theorem dX5_isEndOfWay_44 : decode cX5_isEndOfWay 44 = .ok (.iload_n 1, 1) := by decide +kernel
theorem dX5_isEndOfWay_45 : decode cX5_isEndOfWay 45 = .ok (.if_icmp .ne 5, 3) := by decide +kernel
theorem dX5_isEndOfWay_48 : decode cX5_isEndOfWay 48 = .ok (.iconst 1, 1) := by decide +kernel
theorem dX5_isEndOfWay_49 : decode cX5_isEndOfWay 49 = .ok (.ireturn, 1) := by decide +kernel
theorem dX5_isEndOfWay_50 : decode cX5_isEndOfWay 50 = .ok (.iinc 2 1, 3) := by decide +kernel
theorem dX5_isEndOfWay_53 : decode cX5_isEndOfWay 53 = .ok (.goto (-51), 3) := by decide +kernel
theorem dX5_isEndOfWay_56 : decode cX5_isEndOfWay 56 = .ok (.iconst 0, 1) := by decide +kernel
theorem dX5_isEndOfWay_57 : decode cX5_isEndOfWay 57 = .ok (.ireturn, 1) := by decide +kernel
theorem dX5_sheetsThere_0 : decode cX5_sheetsThere 0 = .ok (.iconst 0, 1) := by decide +kernel
theorem dX5_sheetsThere_1 : decode cX5_sheetsThere 1 = .ok (.istore_n 1, 1) := by decide +kernel
theorem dX5_sheetsThere_2 : decode cX5_sheetsThere 2 = .ok (.iconst 0, 1) := by decide +kernel
theorem dX5_sheetsThere_3 : decode cX5_sheetsThere 3 = .ok (.istore_n 2, 1) := by decide +kernel
theorem dX5_sheetsThere_4 : decode cX5_sheetsThere 4 = .ok (.iload_n 2, 1) := by decide +kernel
theorem dX5_sheetsThere_5 : decode cX5_sheetsThere 5 = .ok (.bipush 8, 2) := by decide +kernel
theorem dX5_sheetsThere_7 : decode cX5_sheetsThere 7 = .ok (.if_icmp .ge 24, 3) := by decide +kernel
theorem dX5_sheetsThere_10 : decode cX5_sheetsThere 10 = .ok (.aload_n 0, 1) := by decide +kernel
theorem dX5_sheetsThere_11 : decode cX5_sheetsThere 11 = .ok (.getfield 11, 3) := by decide +kernel
theorem dX5_sheetsThere_14 : decode cX5_sheetsThere 14 = .ok (.iload_n 2, 1) := by decide +kernel
theorem dX5_sheetsThere_15 : decode cX5_sheetsThere 15 = .ok (.aaload, 1) := by decide +kernel
theorem dX5_sheetsThere_16 : decode cX5_sheetsThere 16 = .ok (.invokevirtual 69, 3) := by decide +kernel
theorem dX5_sheetsThere_19 : decode cX5_sheetsThere 19 = .ok (.ifCond .ne 6, 3) := by decide +kernel
theorem dX5_sheetsThere_22 : decode cX5_sheetsThere 22 = .ok (.iinc 1 1, 3) := by decide +kernel
theorem dX5_sheetsThere_25 : decode cX5_sheetsThere 25 = .ok (.iinc 2 1, 3) := by decide +kernel
theorem dX5_sheetsThere_28 : decode cX5_sheetsThere 28 = .ok (.goto (-24), 3) := by decide +kernel
theorem dX5_sheetsThere_31 : decode cX5_sheetsThere 31 = .ok (.iload_n 1, 1) := by decide +kernel
theorem dX5_sheetsThere_32 : decode cX5_sheetsThere 32 = .ok (.ireturn, 1) := by decide +kernel
theorem dX5_linesOfKind_0 : decode cX5_linesOfKind 0 = .ok (.iconst 0, 1) := by decide +kernel
theorem dX5_linesOfKind_1 : decode cX5_linesOfKind 1 = .ok (.istore_n 2, 1) := by decide +kernel
theorem dX5_linesOfKind_2 : decode cX5_linesOfKind 2 = .ok (.iconst 0, 1) := by decide +kernel
theorem dX5_linesOfKind_3 : decode cX5_linesOfKind 3 = .ok (.istore_n 3, 1) := by decide +kernel
theorem dX5_linesOfKind_4 : decode cX5_linesOfKind 4 = .ok (.iload_n 3, 1) := by decide +kernel
theorem dX5_linesOfKind_5 : decode cX5_linesOfKind 5 = .ok (.aload_n 0, 1) := by decide +kernel
theorem dX5_linesOfKind_6 : decode cX5_linesOfKind 6 = .ok (.getfield 129, 3) := by decide +kernel
theorem dX5_linesOfKind_9 : decode cX5_linesOfKind 9 = .ok (.if_icmp .ge 29, 3) := by decide +kernel
theorem dX5_linesOfKind_12 : decode cX5_linesOfKind 12 = .ok (.aload_n 0, 1) := by decide +kernel
theorem dX5_linesOfKind_13 : decode cX5_linesOfKind 13 = .ok (.getfield 28, 3) := by decide +kernel
theorem dX5_linesOfKind_16 : decode cX5_linesOfKind 16 = .ok (.aload_n 0, 1) := by decide +kernel
theorem dX5_linesOfKind_17 : decode cX5_linesOfKind 17 = .ok (.getfield 21, 3) := by decide +kernel
theorem dX5_linesOfKind_20 : decode cX5_linesOfKind 20 = .ok (.iload_n 3, 1) := by decide +kernel
theorem dX5_linesOfKind_21 : decode cX5_linesOfKind 21 = .ok (.aaload, 1) := by decide +kernel
theorem dX5_linesOfKind_22 : decode cX5_linesOfKind 22 = .ok (.invokevirtual 237, 3) := by decide +kernel
theorem dX5_linesOfKind_25 : decode cX5_linesOfKind 25 = .ok (.iload_n 1, 1) := by decide +kernel
theorem dX5_linesOfKind_26 : decode cX5_linesOfKind 26 = .ok (.if_icmp .ne 6, 3) := by decide +kernel
theorem dX5_linesOfKind_29 : decode cX5_linesOfKind 29 = .ok (.iinc 2 1, 3) := by decide +kernel
theorem dX5_linesOfKind_32 : decode cX5_linesOfKind 32 = .ok (.iinc 3 1, 3) := by decide +kernel
theorem dX5_linesOfKind_35 : decode cX5_linesOfKind 35 = .ok (.goto (-31), 3) := by decide +kernel
theorem dX5_linesOfKind_38 : decode cX5_linesOfKind 38 = .ok (.iload_n 2, 1) := by decide +kernel
theorem dX5_linesOfKind_39 : decode cX5_linesOfKind 39 = .ok (.ireturn, 1) := by decide +kernel
theorem dX5_leave_0 : decode cX5_leave 0 = .ok (.aload_n 0, 1) := by decide +kernel
theorem dX5_leave_1 : decode cX5_leave 1 = .ok (.getfield 241, 3) := by decide +kernel
theorem dX5_leave_4 : decode cX5_leave 4 = .ok (.bipush 16, 2) := by decide +kernel
theorem dX5_leave_6 : decode cX5_leave 6 = .ok (.if_icmp .ge 23, 3) := by decide +kernel
theorem dX5_leave_9 : decode cX5_leave 9 = .ok (.aload_n 0, 1) := by decide +kernel
theorem dX5_leave_10 : decode cX5_leave 10 = .ok (.getfield 46, 3) := by decide +kernel
theorem dX5_leave_13 : decode cX5_leave 13 = .ok (.aload_n 0, 1) := by decide +kernel
theorem dX5_leave_14 : decode cX5_leave 14 = .ok (.getfield 241, 3) := by decide +kernel
theorem dX5_leave_17 : decode cX5_leave 17 = .ok (.iload_n 1, 1) := by decide +kernel
theorem dX5_leave_18 : decode cX5_leave 18 = .ok (.iastore, 1) := by decide +kernel
theorem dX5_leave_19 : decode cX5_leave 19 = .ok (.aload_n 0, 1) := by decide +kernel
theorem dX5_leave_20 : decode cX5_leave 20 = .ok (.dup, 1) := by decide +kernel
theorem dX5_leave_21 : decode cX5_leave 21 = .ok (.getfield 241, 3) := by decide +kernel
theorem dX5_leave_24 : decode cX5_leave 24 = .ok (.iconst 1, 1) := by decide +kernel
theorem dX5_leave_25 : decode cX5_leave 25 = .ok (.iadd, 1) := by decide +kernel
theorem dX5_leave_26 : decode cX5_leave 26 = .ok (.putfield 241, 3) := by decide +kernel
theorem dX5_leave_29 : decode cX5_leave 29 = .ok (.return_, 1) := by decide +kernel
theorem dX5_sizeAsked_0 : decode cX5_sizeAsked 0 = .ok (.aload_n 0, 1) := by decide +kernel
theorem dX5_sizeAsked_1 : decode cX5_sizeAsked 1 = .ok (.getfield 28, 3) := by decide +kernel
theorem dX5_sizeAsked_4 : decode cX5_sizeAsked 4 = .ok (.aload_n 1, 1) := by decide +kernel
theorem dX5_sizeAsked_5 : decode cX5_sizeAsked 5 = .ok (.invokevirtual 237, 3) := by decide +kernel
theorem dX5_sizeAsked_8 : decode cX5_sizeAsked 8 = .ok (.tableswitch 46 1 3 #[28, 34, 40], 28) := by decide +kernel
theorem dX5_sizeAsked_36 : decode cX5_sizeAsked 36 = .ok (.aload_n 0, 1) := by decide +kernel
theorem dX5_sizeAsked_37 : decode cX5_sizeAsked 37 = .ok (.aload_n 1, 1) := by decide +kernel
theorem dX5_sizeAsked_38 : decode cX5_sizeAsked 38 = .ok (.invokevirtual 286, 3) := by decide +kernel
theorem dX5_sizeAsked_41 : decode cX5_sizeAsked 41 = .ok (.ireturn, 1) := by decide +kernel
theorem dX5_sizeAsked_42 : decode cX5_sizeAsked 42 = .ok (.aload_n 0, 1) := by decide +kernel
theorem dX5_sizeAsked_43 : decode cX5_sizeAsked 43 = .ok (.aload_n 1, 1) := by decide +kernel
theorem dX5_sizeAsked_44 : decode cX5_sizeAsked 44 = .ok (.invokevirtual 289, 3) := by decide +kernel
theorem dX5_sizeAsked_47 : decode cX5_sizeAsked 47 = .ok (.ireturn, 1) := by decide +kernel
theorem dX5_sizeAsked_48 : decode cX5_sizeAsked 48 = .ok (.aload_n 0, 1) := by decide +kernel
theorem dX5_sizeAsked_49 : decode cX5_sizeAsked 49 = .ok (.aload_n 1, 1) := by decide +kernel
theorem dX5_sizeAsked_50 : decode cX5_sizeAsked 50 = .ok (.invokevirtual 292, 3) := by decide +kernel
theorem dX5_sizeAsked_53 : decode cX5_sizeAsked 53 = .ok (.ireturn, 1) := by decide +kernel
theorem dX5_sizeAsked_54 : decode cX5_sizeAsked 54 = .ok (.aload_n 0, 1) := by decide +kernel
theorem dX5_sizeAsked_55 : decode cX5_sizeAsked 55 = .ok (.aload_n 1, 1) := by decide +kernel
theorem dX5_sizeAsked_56 : decode cX5_sizeAsked 56 = .ok (.invokevirtual 295, 3) := by decide +kernel
theorem dX5_sizeAsked_59 : decode cX5_sizeAsked 59 = .ok (.ireturn, 1) := by decide +kernel
theorem dX5_markAsked_0 : decode cX5_markAsked 0 = .ok (.aload_n 0, 1) := by decide +kernel
theorem dX5_markAsked_1 : decode cX5_markAsked 1 = .ok (.getfield 28, 3) := by decide +kernel
theorem dX5_markAsked_4 : decode cX5_markAsked 4 = .ok (.aload_n 1, 1) := by decide +kernel
theorem dX5_markAsked_5 : decode cX5_markAsked 5 = .ok (.invokevirtual 237, 3) := by decide +kernel
theorem dX5_markAsked_8 : decode cX5_markAsked 8 = .ok (.lookupswitch 40 #[(2, 28), (3, 34)], 28) := by decide +kernel
theorem dX5_markAsked_36 : decode cX5_markAsked 36 = .ok (.aload_n 0, 1) := by decide +kernel
theorem dX5_markAsked_37 : decode cX5_markAsked 37 = .ok (.aload_n 1, 1) := by decide +kernel
theorem dX5_markAsked_38 : decode cX5_markAsked 38 = .ok (.invokevirtual 298, 3) := by decide +kernel
theorem dX5_markAsked_41 : decode cX5_markAsked 41 = .ok (.ireturn, 1) := by decide +kernel
theorem dX5_markAsked_42 : decode cX5_markAsked 42 = .ok (.aload_n 0, 1) := by decide +kernel
theorem dX5_markAsked_43 : decode cX5_markAsked 43 = .ok (.aload_n 1, 1) := by decide +kernel
theorem dX5_markAsked_44 : decode cX5_markAsked 44 = .ok (.invokevirtual 301, 3) := by decide +kernel
theorem dX5_markAsked_47 : decode cX5_markAsked 47 = .ok (.ireturn, 1) := by decide +kernel
theorem dX5_markAsked_48 : decode cX5_markAsked 48 = .ok (.aload_n 0, 1) := by decide +kernel
theorem dX5_markAsked_49 : decode cX5_markAsked 49 = .ok (.aload_n 1, 1) := by decide +kernel
theorem dX5_markAsked_50 : decode cX5_markAsked 50 = .ok (.invokevirtual 304, 3) := by decide +kernel
theorem dX5_markAsked_53 : decode cX5_markAsked 53 = .ok (.ireturn, 1) := by decide +kernel
theorem dX5_sizeLent_0 : decode cX5_sizeLent 0 = .ok (.aload_n 0, 1) := by decide +kernel
theorem dX5_sizeLent_1 : decode cX5_sizeLent 1 = .ok (.bipush 10, 2) := by decide +kernel
theorem dX5_sizeLent_3 : decode cX5_sizeLent 3 = .ok (.invokevirtual 307, 3) := by decide +kernel
theorem dX5_sizeLent_6 : decode cX5_sizeLent 6 = .ok (.aload_n 1, 1) := by decide +kernel
theorem dX5_sizeLent_7 : decode cX5_sizeLent 7 = .ok (.getfield 180, 3) := by decide +kernel
theorem dX5_sizeLent_10 : decode cX5_sizeLent 10 = .ok (.ireturn, 1) := by decide +kernel
theorem dX5_sizeOfAlone_0 : decode cX5_sizeOfAlone 0 = .ok (.aload_n 0, 1) := by decide +kernel
theorem dX5_sizeOfAlone_1 : decode cX5_sizeOfAlone 1 = .ok (.bipush 11, 2) := by decide +kernel
theorem dX5_sizeOfAlone_3 : decode cX5_sizeOfAlone 3 = .ok (.invokevirtual 307, 3) := by decide +kernel
theorem dX5_sizeOfAlone_6 : decode cX5_sizeOfAlone 6 = .ok (.aload_n 0, 1) := by decide +kernel
theorem dX5_sizeOfAlone_7 : decode cX5_sizeOfAlone 7 = .ok (.aload_n 1, 1) := by decide +kernel
theorem dX5_sizeOfAlone_8 : decode cX5_sizeOfAlone 8 = .ok (.invokevirtual 295, 3) := by decide +kernel
theorem dX5_sizeOfAlone_11 : decode cX5_sizeOfAlone 11 = .ok (.aload_n 1, 1) := by decide +kernel
theorem dX5_sizeOfAlone_12 : decode cX5_sizeOfAlone 12 = .ok (.invokevirtual 206, 3) := by decide +kernel
theorem dX5_sizeOfAlone_15 : decode cX5_sizeOfAlone 15 = .ok (.iadd, 1) := by decide +kernel
theorem dX5_sizeOfAlone_16 : decode cX5_sizeOfAlone 16 = .ok (.ireturn, 1) := by decide +kernel
theorem dX5_sizeOfBound_0 : decode cX5_sizeOfBound 0 = .ok (.aload_n 0, 1) := by decide +kernel
theorem dX5_sizeOfBound_1 : decode cX5_sizeOfBound 1 = .ok (.bipush 12, 2) := by decide +kernel
theorem dX5_sizeOfBound_3 : decode cX5_sizeOfBound 3 = .ok (.invokevirtual 307, 3) := by decide +kernel
theorem dX5_sizeOfBound_6 : decode cX5_sizeOfBound 6 = .ok (.iconst 2, 1) := by decide +kernel
theorem dX5_sizeOfBound_7 : decode cX5_sizeOfBound 7 = .ok (.aload_n 0, 1) := by decide +kernel
theorem dX5_sizeOfBound_8 : decode cX5_sizeOfBound 8 = .ok (.aload_n 1, 1) := by decide +kernel
theorem dX5_sizeOfBound_9 : decode cX5_sizeOfBound 9 = .ok (.invokevirtual 295, 3) := by decide +kernel
theorem dX5_sizeOfBound_12 : decode cX5_sizeOfBound 12 = .ok (.imul, 1) := by decide +kernel
theorem dX5_sizeOfBound_13 : decode cX5_sizeOfBound 13 = .ok (.ireturn, 1) := by decide +kernel
theorem dX5_sizeOfForked_0 : decode cX5_sizeOfForked 0 = .ok (.aload_n 0, 1) := by decide +kernel
theorem dX5_sizeOfForked_1 : decode cX5_sizeOfForked 1 = .ok (.bipush 13, 2) := by decide +kernel
theorem dX5_sizeOfForked_3 : decode cX5_sizeOfForked 3 = .ok (.invokevirtual 307, 3) := by decide +kernel
theorem dX5_sizeOfForked_6 : decode cX5_sizeOfForked 6 = .ok (.aload_n 0, 1) := by decide +kernel
theorem dX5_sizeOfForked_7 : decode cX5_sizeOfForked 7 = .ok (.aload_n 1, 1) := by decide +kernel
theorem dX5_sizeOfForked_8 : decode cX5_sizeOfForked 8 = .ok (.invokevirtual 295, 3) := by decide +kernel
theorem dX5_sizeOfForked_11 : decode cX5_sizeOfForked 11 = .ok (.aload_n 0, 1) := by decide +kernel
theorem dX5_sizeOfForked_12 : decode cX5_sizeOfForked 12 = .ok (.aload_n 1, 1) := by decide +kernel
theorem dX5_sizeOfForked_13 : decode cX5_sizeOfForked 13 = .ok (.invokevirtual 301, 3) := by decide +kernel
theorem dX5_sizeOfForked_16 : decode cX5_sizeOfForked 16 = .ok (.iadd, 1) := by decide +kernel
theorem dX5_sizeOfForked_17 : decode cX5_sizeOfForked 17 = .ok (.ireturn, 1) := by decide +kernel
theorem dX5_markLent_0 : decode cX5_markLent 0 = .ok (.aload_n 0, 1) := by decide +kernel
theorem dX5_markLent_1 : decode cX5_markLent 1 = .ok (.bipush 20, 2) := by decide +kernel
theorem dX5_markLent_3 : decode cX5_markLent 3 = .ok (.invokevirtual 307, 3) := by decide +kernel
theorem dX5_markLent_6 : decode cX5_markLent 6 = .ok (.aload_n 0, 1) := by decide +kernel
theorem dX5_markLent_7 : decode cX5_markLent 7 = .ok (.getfield 28, 3) := by decide +kernel
theorem dX5_markLent_10 : decode cX5_markLent 10 = .ok (.aload_n 1, 1) := by decide +kernel
theorem dX5_markLent_11 : decode cX5_markLent 11 = .ok (.invokevirtual 277, 3) := by decide +kernel
theorem dX5_markLent_14 : decode cX5_markLent 14 = .ok (.ireturn, 1) := by decide +kernel
theorem dX5_markOfBound_0 : decode cX5_markOfBound 0 = .ok (.aload_n 0, 1) := by decide +kernel
theorem dX5_markOfBound_1 : decode cX5_markOfBound 1 = .ok (.bipush 21, 2) := by decide +kernel
theorem dX5_markOfBound_3 : decode cX5_markOfBound 3 = .ok (.invokevirtual 307, 3) := by decide +kernel
theorem dX5_markOfBound_6 : decode cX5_markOfBound 6 = .ok (.aload_n 0, 1) := by decide +kernel
theorem dX5_markOfBound_7 : decode cX5_markOfBound 7 = .ok (.aload_n 1, 1) := by decide +kernel
theorem dX5_markOfBound_8 : decode cX5_markOfBound 8 = .ok (.invokevirtual 304, 3) := by decide +kernel
theorem dX5_markOfBound_11 : decode cX5_markOfBound 11 = .ok (.aload_n 0, 1) := by decide +kernel
theorem dX5_markOfBound_12 : decode cX5_markOfBound 12 = .ok (.aload_n 1, 1) := by decide +kernel
theorem dX5_markOfBound_13 : decode cX5_markOfBound 13 = .ok (.invokevirtual 289, 3) := by decide +kernel
theorem dX5_markOfBound_16 : decode cX5_markOfBound 16 = .ok (.iadd, 1) := by decide +kernel
theorem dX5_markOfBound_17 : decode cX5_markOfBound 17 = .ok (.ireturn, 1) := by decide +kernel
theorem dX5_markOfForked_0 : decode cX5_markOfForked 0 = .ok (.aload_n 0, 1) := by decide +kernel
theorem dX5_markOfForked_1 : decode cX5_markOfForked 1 = .ok (.bipush 22, 2) := by decide +kernel
theorem dX5_markOfForked_3 : decode cX5_markOfForked 3 = .ok (.invokevirtual 307, 3) := by decide +kernel
theorem dX5_markOfForked_6 : decode cX5_markOfForked 6 = .ok (.aload_n 0, 1) := by decide +kernel
theorem dX5_markOfForked_7 : decode cX5_markOfForked 7 = .ok (.aload_n 1, 1) := by decide +kernel
theorem dX5_markOfForked_8 : decode cX5_markOfForked 8 = .ok (.invokevirtual 304, 3) := by decide +kernel
theorem dX5_markOfForked_11 : decode cX5_markOfForked 11 = .ok (.aload_n 0, 1) := by decide +kernel
theorem dX5_markOfForked_12 : decode cX5_markOfForked 12 = .ok (.getfield 28, 3) := by decide +kernel
theorem dX5_markOfForked_15 : decode cX5_markOfForked 15 = .ok (.aload_n 1, 1) := by decide +kernel
theorem dX5_markOfForked_16 : decode cX5_markOfForked 16 = .ok (.invokevirtual 310, 3) := by decide +kernel
theorem dX5_markOfForked_19 : decode cX5_markOfForked 19 = .ok (.iadd, 1) := by decide +kernel
theorem dX5_markOfForked_20 : decode cX5_markOfForked 20 = .ok (.ireturn, 1) := by decide +kernel
end
section
theorem dX6_init_0 : decode cX6_init 0 = .ok (.aload_n 0, 1) := by decide +kernel
theorem dX6_init_1 : decode cX6_init 1 = .ok (.invokespecial 1, 3) := by decide +kernel
theorem dX6_init_4 : decode cX6_init 4 = .ok (.aload_n 0, 1) := by decide +kernel
theorem dX6_init_5 : decode cX6_init 5 = .ok (.bipush 8, 2) := by decide +kernel
theorem dX6_init_7 : decode cX6_init 7 = .ok (.newarray .int, 2) := by decide +kernel
theorem dX6_init_9 : decode cX6_init 9 = .ok (.dup, 1) := by decide +kernel
theorem dX6_init_10 : decode cX6_init 10 = .ok (.iconst 0, 1) := by decide +kernel
theorem dX6_init_11 : decode cX6_init 11 = .ok (.iconst (-1), 1) := by decide +kernel
theorem dX6_init_12 : decode cX6_init 12 = .ok (.iastore, 1) := by decide +kernel
theorem dX6_init_13 : decode cX6_init 13 = .ok (.dup, 1) := by decide +kernel
theorem dX6_init_14 : decode cX6_init 14 = .ok (.iconst 1, 1) := by decide +kernel
theorem dX6_init_15 : decode cX6_init 15 = .ok (.iconst (-1), 1) := by decide +kernel
theorem dX6_init_16 : decode cX6_init 16 = .ok (.iastore, 1) := by decide +kernel
theorem dX6_init_17 : decode cX6_init 17 = .ok (.dup, 1) := by decide +kernel
theorem dX6_init_18 : decode cX6_init 18 = .ok (.iconst 2, 1) := by decide +kernel
theorem dX6_init_19 : decode cX6_init 19 = .ok (.iconst (-1), 1) := by decide +kernel
theorem dX6_init_20 : decode cX6_init 20 = .ok (.iastore, 1) := by decide +kernel
theorem dX6_init_21 : decode cX6_init 21 = .ok (.dup, 1) := by decide +kernel
theorem dX6_init_22 : decode cX6_init 22 = .ok (.iconst 3, 1) := by decide +kernel
theorem dX6_init_23 : decode cX6_init 23 = .ok (.iconst (-1), 1) := by decide +kernel
theorem dX6_init_24 : decode cX6_init 24 = .ok (.iastore, 1) := by decide +kernel
theorem dX6_init_25 : decode cX6_init 25 = .ok (.dup, 1) := by decide +kernel
theorem dX6_init_26 : decode cX6_init 26 = .ok (.iconst 4, 1) := by decide +kernel
theorem dX6_init_27 : decode cX6_init 27 = .ok (.iconst (-1), 1) := by decide +kernel
theorem dX6_init_28 : decode cX6_init 28 = .ok (.iastore, 1) := by decide +kernel
theorem dX6_init_29 : decode cX6_init 29 = .ok (.dup, 1) := by decide +kernel
theorem dX6_init_30 : decode cX6_init 30 = .ok (.iconst 5, 1) := by decide +kernel
theorem dX6_init_31 : decode cX6_init 31 = .ok (.iconst (-1), 1) := by decide +kernel
theorem dX6_init_32 : decode cX6_init 32 = .ok (.iastore, 1) := by decide +kernel
theorem dX6_init_33 : decode cX6_init 33 = .ok (.dup, 1) := by decide +kernel
theorem dX6_init_34 : decode cX6_init 34 = .ok (.bipush 6, 2) := by decide +kernel
theorem dX6_init_36 : decode cX6_init 36 = .ok (.iconst (-1), 1) := by decide +kernel
theorem dX6_init_37 : decode cX6_init 37 = .ok (.iastore, 1) := by decide +kernel
theorem dX6_init_38 : decode cX6_init 38 = .ok (.dup, 1) := by decide +kernel
theorem dX6_init_39 : decode cX6_init 39 = .ok (.bipush 7, 2) := by decide +kernel
theorem dX6_init_41 : decode cX6_init 41 = .ok (.iconst (-1), 1) := by decide +kernel
theorem dX6_init_42 : decode cX6_init 42 = .ok (.iastore, 1) := by decide +kernel
theorem dX6_init_43 : decode cX6_init 43 = .ok (.putfield 7, 3) := by decide +kernel
theorem dX6_init_46 : decode cX6_init 46 = .ok (.aload_n 0, 1) := by decide +kernel
theorem dX6_init_47 : decode cX6_init 47 = .ok (.bipush 8, 2) := by decide +kernel
theorem dX6_init_49 : decode cX6_init 49 = .ok (.newarray .int, 2) := by decide +kernel
theorem dX6_init_51 : decode cX6_init 51 = .ok (.putfield 13, 3) := by decide +kernel
theorem dX6_init_54 : decode cX6_init 54 = .ok (.aload_n 0, 1) := by decide +kernel
theorem dX6_init_55 : decode cX6_init 55 = .ok (.sipush 480, 3) := by decide +kernel
theorem dX6_init_58 : decode cX6_init 58 = .ok (.newarray .int, 2) := by decide +kernel
theorem dX6_init_60 : decode cX6_init 60 = .ok (.putfield 16, 3) := by decide +kernel
theorem dX6_init_63 : decode cX6_init 63 = .ok (.aload_n 0, 1) := by decide +kernel
theorem dX6_init_64 : decode cX6_init 64 = .ok (.bipush 100, 2) := by decide +kernel
theorem dX6_init_66 : decode cX6_init 66 = .ok (.newarray .boolean, 2) := by decide +kernel
theorem dX6_init_68 : decode cX6_init 68 = .ok (.putfield 19, 3) := by decide +kernel
theorem dX6_init_71 : decode cX6_init 71 = .ok (.aload_n 0, 1) := by decide +kernel
theorem dX6_init_72 : decode cX6_init 72 = .ok (.bipush 12, 2) := by decide +kernel
theorem dX6_init_74 : decode cX6_init 74 = .ok (.newarray .int, 2) := by decide +kernel
theorem dX6_init_76 : decode cX6_init 76 = .ok (.putfield 23, 3) := by decide +kernel
theorem dX6_init_79 : decode cX6_init 79 = .ok (.aload_n 0, 1) := by decide +kernel
theorem dX6_init_80 : decode cX6_init 80 = .ok (.bipush 12, 2) := by decide +kernel
theorem dX6_init_82 : decode cX6_init 82 = .ok (.newarray .int, 2) := by decide +kernel
theorem dX6_init_84 : decode cX6_init 84 = .ok (.putfield 26, 3) := by decide +kernel
theorem dX6_init_87 : decode cX6_init 87 = .ok (.aload_n 0, 1) := by decide +kernel
theorem dX6_init_88 : decode cX6_init 88 = .ok (.bipush 12, 2) := by decide +kernel
theorem dX6_init_90 : decode cX6_init 90 = .ok (.newarray .int, 2) := by decide +kernel
theorem dX6_init_92 : decode cX6_init 92 = .ok (.putfield 29, 3) := by decide +kernel
theorem dX6_init_95 : decode cX6_init 95 = .ok (.aload_n 0, 1) := by decide +kernel
theorem dX6_init_96 : decode cX6_init 96 = .ok (.bipush 12, 2) := by decide +kernel
theorem dX6_init_98 : decode cX6_init 98 = .ok (.newarray .int, 2) := by decide +kernel
theorem dX6_init_100 : decode cX6_init 100 = .ok (.putfield 32, 3) := by decide +kernel
theorem dX6_init_103 : decode cX6_init 103 = .ok (.aload_n 0, 1) := by decide +kernel
theorem dX6_init_104 : decode cX6_init 104 = .ok (.sipush 1200, 3) := by decide +kernel
theorem dX6_init_107 : decode cX6_init 107 = .ok (.newarray .int, 2) := by decide +kernel
theorem dX6_init_109 : decode cX6_init 109 = .ok (.putfield 35, 3) := by decide +kernel
theorem dX6_init_112 : decode cX6_init 112 = .ok (.aload_n 0, 1) := by decide +kernel
theorem dX6_init_113 : decode cX6_init 113 = .ok (.sipush 2160, 3) := by decide +kernel
theorem dX6_init_116 : decode cX6_init 116 = .ok (.newarray .boolean, 2) := by decide +kernel
theorem dX6_init_118 : decode cX6_init 118 = .ok (.putfield 38, 3) := by decide +kernel
theorem dX6_init_121 : decode cX6_init 121 = .ok (.aload_n 0, 1) := by decide +kernel
theorem dX6_init_122 : decode cX6_init 122 = .ok (.iconst 2, 1) := by decide +kernel
theorem dX6_init_123 : decode cX6_init 123 = .ok (.newarray .int, 2) := by decide +kernel
theorem dX6_init_125 : decode cX6_init 125 = .ok (.dup, 1) := by decide +kernel
theorem dX6_init_126 : decode cX6_init 126 = .ok (.iconst 0, 1) := by decide +kernel
theorem dX6_init_127 : decode cX6_init 127 = .ok (.bipush 10, 2) := by decide +kernel
theorem dX6_init_129 : decode cX6_init 129 = .ok (.iastore, 1) := by decide +kernel
theorem dX6_init_130 : decode cX6_init 130 = .ok (.dup, 1) := by decide +kernel
theorem dX6_init_131 : decode cX6_init 131 = .ok (.iconst 1, 1) := by decide +kernel
theorem dX6_init_132 : decode cX6_init 132 = .ok (.iconst 3, 1) := by decide +kernel
theorem dX6_init_133 : decode cX6_init 133 = .ok (.iastore, 1) := by decide +kernel
theorem dX6_init_134 : decode cX6_init 134 = .ok (.putfield 41, 3) := by decide +kernel
theorem dX6_init_137 : decode cX6_init 137 = .ok (.aload_n 0, 1) := by decide +kernel
theorem dX6_init_138 : decode cX6_init 138 = .ok (.bipush 100, 2) := by decide +kernel
theorem dX6_init_140 : decode cX6_init 140 = .ok (.newarray .int, 2) := by decide +kernel
theorem dX6_init_142 : decode cX6_init 142 = .ok (.putfield 44, 3) := by decide +kernel
theorem dX6_init_145 : decode cX6_init 145 = .ok (.aload_n 0, 1) := by decide +kernel
theorem dX6_init_146 : decode cX6_init 146 = .ok (.bipush 100, 2) := by decide +kernel
theorem dX6_init_148 : decode cX6_init 148 = .ok (.newarray .int, 2) := by decide +kernel
theorem dX6_init_150 : decode cX6_init 150 = .ok (.putfield 47, 3) := by decide +kernel
theorem dX6_init_153 : decode cX6_init 153 = .ok (.aload_n 0, 1) := by decide +kernel
theorem dX6_init_154 : decode cX6_init 154 = .ok (.sipush 180, 3) := by decide +kernel
theorem dX6_init_157 : decode cX6_init 157 = .ok (.newarray .int, 2) := by decide +kernel
theorem dX6_init_159 : decode cX6_init 159 = .ok (.putfield 50, 3) := by decide +kernel
theorem dX6_init_162 : decode cX6_init 162 = .ok (.aload_n 0, 1) := by decide +kernel
theorem dX6_init_163 : decode cX6_init 163 = .ok (.bipush 100, 2) := by decide +kernel
theorem dX6_init_165 : decode cX6_init 165 = .ok (.newarray .int, 2) := by decide +kernel
theorem dX6_init_167 : decode cX6_init 167 = .ok (.putfield 53, 3) := by decide +kernel
theorem dX6_init_170 : decode cX6_init 170 = .ok (.aload_n 0, 1) := by decide +kernel
theorem dX6_init_171 : decode cX6_init 171 = .ok (.bipush 12, 2) := by decide +kernel
theorem dX6_init_173 : decode cX6_init 173 = .ok (.newarray .int, 2) := by decide +kernel
theorem dX6_init_175 : decode cX6_init 175 = .ok (.putfield 56, 3) := by decide +kernel
theorem dX6_init_178 : decode cX6_init 178 = .ok (.aload_n 0, 1) := by decide +kernel
theorem dX6_init_179 : decode cX6_init 179 = .ok (.bipush 16, 2) := by decide +kernel
theorem dX6_init_181 : decode cX6_init 181 = .ok (.newarray .int, 2) := by decide +kernel
theorem dX6_init_183 : decode cX6_init 183 = .ok (.putfield 59, 3) := by decide +kernel
theorem dX6_init_186 : decode cX6_init 186 = .ok (.return_, 1) := by decide +kernel
theorem dX6_in_0 : decode cX6_in 0 = .ok (.lload_n 0, 1) := by decide +kernel
theorem dX6_in_1 : decode cX6_in 1 = .ok (.lload_n 2, 1) := by decide +kernel
theorem dX6_in_2 : decode cX6_in 2 = .ok (.lcmp, 1) := by decide +kernel
theorem dX6_in_3 : decode cX6_in 3 = .ok (.ifCond .lt 14, 3) := by decide +kernel
theorem dX6_in_6 : decode cX6_in 6 = .ok (.lload_n 0, 1) := by decide +kernel
theorem dX6_in_7 : decode cX6_in 7 = .ok (.lload 4, 2) := by decide +kernel
theorem dX6_in_9 : decode cX6_in 9 = .ok (.lcmp, 1) := by decide +kernel
theorem dX6_in_10 : decode cX6_in 10 = .ok (.ifCond .gt 7, 3) := by decide +kernel
theorem dX6_in_13 : decode cX6_in 13 = .ok (.iconst 1, 1) := by decide +kernel
theorem dX6_in_14 : decode cX6_in 14 = .ok (.goto 4, 3) := by decide +kernel
theorem dX6_in_17 : decode cX6_in 17 = .ok (.iconst 0, 1) := by decide +kernel
theorem dX6_in_18 : decode cX6_in 18 = .ok (.ireturn, 1) := by decide +kernel
theorem dX6_found_0 : decode cX6_found 0 = .ok (.aload_n 0, 1) := by decide +kernel
theorem dX6_found_1 : decode cX6_found 1 = .ok (.iload_n 1, 1) := by decide +kernel
theorem dX6_found_2 : decode cX6_found 2 = .ok (.putfield 66, 3) := by decide +kernel
theorem dX6_found_5 : decode cX6_found 5 = .ok (.ldc 69, 2) := by decide +kernel
theorem dX6_found_7 : decode cX6_found 7 = .ok (.iload_n 1, 1) := by decide +kernel
theorem dX6_found_8 : decode cX6_found 8 = .ok (.isub, 1) := by decide +kernel
theorem dX6_found_9 : decode cX6_found 9 = .ok (.ireturn, 1) := by decide +kernel
theorem dX6_isSheet_0 : decode cX6_isSheet 0 = .ok (.iload_n 0, 1) := by decide +kernel
theorem dX6_isSheet_1 : decode cX6_isSheet 1 = .ok (.i2l, 1) := by decide +kernel
theorem dX6_isSheet_2 : decode cX6_isSheet 2 = .ok (.lconst 0, 1) := by decide +kernel
theorem dX6_isSheet_3 : decode cX6_isSheet 3 = .ok (.ldc2_w 70, 3) := by decide +kernel
theorem dX6_isSheet_6 : decode cX6_isSheet 6 = .ok (.invokestatic 72, 3) := by decide +kernel
theorem dX6_isSheet_9 : decode cX6_isSheet 9 = .ok (.ireturn, 1) := by decide +kernel
theorem dX6_sheet_0 : decode cX6_sheet 0 = .ok (.aload_n 0, 1) := by decide +kernel
theorem dX6_sheet_1 : decode cX6_sheet 1 = .ok (.iconst 0, 1) := by decide +kernel
theorem dX6_sheet_2 : decode cX6_sheet 2 = .ok (.putfield 62, 3) := by decide +kernel
theorem dX6_sheet_5 : decode cX6_sheet 5 = .ok (.iload_n 1, 1) := by decide +kernel
theorem dX6_sheet_6 : decode cX6_sheet 6 = .ok (.invokestatic 76, 3) := by decide +kernel
theorem dX6_sheet_9 : decode cX6_sheet 9 = .ok (.ifCond .eq 21, 3) := by decide +kernel
theorem dX6_sheet_12 : decode cX6_sheet 12 = .ok (.iload_n 2, 1) := by decide +kernel
theorem dX6_sheet_13 : decode cX6_sheet 13 = .ok (.i2l, 1) := by decide +kernel
theorem dX6_sheet_14 : decode cX6_sheet 14 = .ok (.lconst 0, 1) := by decide +kernel
theorem dX6_sheet_15 : decode cX6_sheet 15 = .ok (.ldc2_w 80, 3) := by decide +kernel
theorem dX6_sheet_18 : decode cX6_sheet 18 = .ok (.invokestatic 72, 3) := by decide +kernel
theorem dX6_sheet_21 : decode cX6_sheet 21 = .ok (.ifCond .eq 9, 3) := by decide +kernel
theorem dX6_sheet_24 : decode cX6_sheet 24 = .ok (.iload_n 3, 1) := by decide +kernel
theorem dX6_sheet_25 : decode cX6_sheet 25 = .ok (.bipush 60, 2) := by decide +kernel
theorem dX6_sheet_27 : decode cX6_sheet 27 = .ok (.if_icmp .le 6, 3) := by decide +kernel
theorem dX6_sheet_30 : decode cX6_sheet 30 = .ok (.ldc 82, 2) := by decide +kernel
theorem dX6_sheet_32 : decode cX6_sheet 32 = .ok (.ireturn, 1) := by decide +kernel
theorem dX6_sheet_33 : decode cX6_sheet 33 = .ok (.aload_n 0, 1) := by decide +kernel
theorem dX6_sheet_34 : decode cX6_sheet 34 = .ok (.iconst 0, 1) := by decide +kernel
theorem dX6_sheet_35 : decode cX6_sheet 35 = .ok (.putfield 66, 3) := by decide +kernel
theorem dX6_sheet_38 : decode cX6_sheet 38 = .ok (.iload_n 3, 1) := by decide +kernel
theorem dX6_sheet_39 : decode cX6_sheet 39 = .ok (.ifCond .ge 9, 3) := by decide +kernel
theorem dX6_sheet_42 : decode cX6_sheet 42 = .ok (.aload_n 0, 1) := by decide +kernel
theorem dX6_sheet_43 : decode cX6_sheet 43 = .ok (.iconst 4, 1) := by decide +kernel
theorem dX6_sheet_44 : decode cX6_sheet 44 = .ok (.invokevirtual 83, 3) := by decide +kernel
theorem dX6_sheet_47 : decode cX6_sheet 47 = .ok (.ireturn, 1) := by decide +kernel
theorem dX6_sheet_48 : decode cX6_sheet 48 = .ok (.aload_n 0, 1) := by decide +kernel
theorem dX6_sheet_49 : decode cX6_sheet 49 = .ok (.getfield 7, 3) := by decide +kernel
theorem dX6_sheet_52 : decode cX6_sheet 52 = .ok (.iload_n 1, 1) := by decide +kernel
theorem dX6_sheet_53 : decode cX6_sheet 53 = .ok (.iload_n 2, 1) := by decide +kernel
theorem dX6_sheet_54 : decode cX6_sheet 54 = .ok (.iastore, 1) := by decide +kernel
theorem dX6_sheet_55 : decode cX6_sheet 55 = .ok (.aload_n 0, 1) := by decide +kernel
theorem dX6_sheet_56 : decode cX6_sheet 56 = .ok (.getfield 13, 3) := by decide +kernel
theorem dX6_sheet_59 : decode cX6_sheet 59 = .ok (.iload_n 1, 1) := by decide +kernel
theorem dX6_sheet_60 : decode cX6_sheet 60 = .ok (.iload_n 3, 1) := by decide +kernel
theorem dX6_sheet_61 : decode cX6_sheet 61 = .ok (.iastore, 1) := by decide +kernel
theorem dX6_sheet_62 : decode cX6_sheet 62 = .ok (.iconst 0, 1) := by decide +kernel
theorem dX6_sheet_63 : decode cX6_sheet 63 = .ok (.istore 4, 2) := by decide +kernel
theorem dX6_sheet_65 : decode cX6_sheet 65 = .ok (.iload 4, 2) := by decide +kernel
theorem dX6_sheet_67 : decode cX6_sheet 67 = .ok (.bipush 60, 2) := by decide +kernel
theorem dX6_sheet_69 : decode cX6_sheet 69 = .ok (.if_icmp .ge 22, 3) := by decide +kernel
theorem dX6_sheet_72 : decode cX6_sheet 72 = .ok (.aload_n 0, 1) := by decide +kernel
theorem dX6_sheet_73 : decode cX6_sheet 73 = .ok (.getfield 16, 3) := by decide +kernel
theorem dX6_sheet_76 : decode cX6_sheet 76 = .ok (.bipush 60, 2) := by decide +kernel
theorem dX6_sheet_78 : decode cX6_sheet 78 = .ok (.iload_n 1, 1) := by decide +kernel
theorem dX6_sheet_79 : decode cX6_sheet 79 = .ok (.imul, 1) := by decide +kernel
theorem dX6_sheet_80 : decode cX6_sheet 80 = .ok (.iload 4, 2) := by decide +kernel
theorem dX6_sheet_82 : decode cX6_sheet 82 = .ok (.iadd, 1) := by decide +kernel
theorem dX6_sheet_83 : decode cX6_sheet 83 = .ok (.iconst 0, 1) := by decide +kernel
theorem dX6_sheet_84 : decode cX6_sheet 84 = .ok (.iastore, 1) := by decide +kernel
theorem dX6_sheet_85 : decode cX6_sheet 85 = .ok (.iinc 4 1, 3) := by decide +kernel
theorem dX6_sheet_88 : decode cX6_sheet 88 = .ok (.goto (-23), 3) := by decide +kernel
theorem dX6_sheet_91 : decode cX6_sheet 91 = .ok (.iload_n 3, 1) := by decide +kernel
theorem dX6_sheet_92 : decode cX6_sheet 92 = .ok (.ireturn, 1) := by decide +kernel
theorem dX6_set_0 : decode cX6_set 0 = .ok (.aload_n 0, 1) := by decide +kernel
theorem dX6_set_1 : decode cX6_set 1 = .ok (.iconst 0, 1) := by decide +kernel
theorem dX6_set_2 : decode cX6_set 2 = .ok (.putfield 62, 3) := by decide +kernel
theorem dX6_set_5 : decode cX6_set 5 = .ok (.iload_n 1, 1) := by decide +kernel
theorem dX6_set_6 : decode cX6_set 6 = .ok (.invokestatic 76, 3) := by decide +kernel
theorem dX6_set_9 : decode cX6_set 9 = .ok (.ifCond .ne 6, 3) := by decide +kernel
theorem dX6_set_12 : decode cX6_set 12 = .ok (.ldc 82, 2) := by decide +kernel
theorem dX6_set_14 : decode cX6_set 14 = .ok (.ireturn, 1) := by decide +kernel
theorem dX6_set_15 : decode cX6_set 15 = .ok (.aload_n 0, 1) := by decide +kernel
theorem dX6_set_16 : decode cX6_set 16 = .ok (.iconst 0, 1) := by decide +kernel
theorem dX6_set_17 : decode cX6_set 17 = .ok (.putfield 66, 3) := by decide +kernel
theorem dX6_set_20 : decode cX6_set 20 = .ok (.aload_n 0, 1) := by decide +kernel
theorem dX6_set_21 : decode cX6_set 21 = .ok (.getfield 7, 3) := by decide +kernel
theorem dX6_set_24 : decode cX6_set 24 = .ok (.iload_n 1, 1) := by decide +kernel
theorem dX6_set_25 : decode cX6_set 25 = .ok (.iaload, 1) := by decide +kernel
theorem dX6_set_26 : decode cX6_set 26 = .ok (.ifCond .ge 9, 3) := by decide +kernel
theorem dX6_set_29 : decode cX6_set 29 = .ok (.aload_n 0, 1) := by decide +kernel
theorem dX6_set_30 : decode cX6_set 30 = .ok (.iconst 1, 1) := by decide +kernel
theorem dX6_set_31 : decode cX6_set 31 = .ok (.invokevirtual 83, 3) := by decide +kernel
theorem dX6_set_34 : decode cX6_set 34 = .ok (.ireturn, 1) := by decide +kernel
theorem dX6_set_35 : decode cX6_set 35 = .ok (.iload_n 2, 1) := by decide +kernel
theorem dX6_set_36 : decode cX6_set 36 = .ok (.i2l, 1) := by decide +kernel
theorem dX6_set_37 : decode cX6_set 37 = .ok (.lconst 0, 1) := by decide +kernel
theorem dX6_set_38 : decode cX6_set 38 = .ok (.aload_n 0, 1) := by decide +kernel
theorem dX6_set_39 : decode cX6_set 39 = .ok (.getfield 13, 3) := by decide +kernel
theorem dX6_set_42 : decode cX6_set 42 = .ok (.iload_n 1, 1) := by decide +kernel
theorem dX6_set_43 : decode cX6_set 43 = .ok (.iaload, 1) := by decide +kernel
theorem dX6_set_44 : decode cX6_set 44 = .ok (.iconst 1, 1) := by decide +kernel
theorem dX6_set_45 : decode cX6_set 45 = .ok (.isub, 1) := by decide +kernel
theorem dX6_set_46 : decode cX6_set 46 = .ok (.i2l, 1) := by decide +kernel
theorem dX6_set_47 : decode cX6_set 47 = .ok (.invokestatic 72, 3) := by decide +kernel
theorem dX6_set_50 : decode cX6_set 50 = .ok (.ifCond .ne 9, 3) := by decide +kernel
theorem dX6_set_53 : decode cX6_set 53 = .ok (.aload_n 0, 1) := by decide +kernel
theorem dX6_set_54 : decode cX6_set 54 = .ok (.iconst 2, 1) := by decide +kernel
theorem dX6_set_55 : decode cX6_set 55 = .ok (.invokevirtual 83, 3) := by decide +kernel
theorem dX6_set_58 : decode cX6_set 58 = .ok (.ireturn, 1) := by decide +kernel
theorem dX6_set_59 : decode cX6_set 59 = .ok (.aload_n 0, 1) := by decide +kernel
theorem dX6_set_60 : decode cX6_set 60 = .ok (.getfield 16, 3) := by decide +kernel
theorem dX6_set_63 : decode cX6_set 63 = .ok (.bipush 60, 2) := by decide +kernel
theorem dX6_set_65 : decode cX6_set 65 = .ok (.iload_n 1, 1) := by decide +kernel
theorem dX6_set_66 : decode cX6_set 66 = .ok (.imul, 1) := by decide +kernel
theorem dX6_set_67 : decode cX6_set 67 = .ok (.iload_n 2, 1) := by decide +kernel
theorem dX6_set_68 : decode cX6_set 68 = .ok (.iadd, 1) := by decide +kernel
theorem dX6_set_69 : decode cX6_set 69 = .ok (.aload_n 0, 1) := by decide +kernel
theorem dX6_set_70 : decode cX6_set 70 = .ok (.getfield 7, 3) := by decide +kernel
theorem dX6_set_73 : decode cX6_set 73 = .ok (.iload_n 1, 1) := by decide +kernel
theorem dX6_set_74 : decode cX6_set 74 = .ok (.iaload, 1) := by decide +kernel
theorem dX6_set_75 : decode cX6_set 75 = .ok (.ifCond .ne 8, 3) := by decide +kernel
theorem dX6_set_78 : decode cX6_set 78 = .ok (.iload_n 3, 1) := by decide +kernel
theorem dX6_set_79 : decode cX6_set 79 = .ok (.i2b, 1) := by decide +kernel
theorem dX6_set_80 : decode cX6_set 80 = .ok (.goto 19, 3) := by decide +kernel
theorem dX6_set_83 : decode cX6_set 83 = .ok (.aload_n 0, 1) := by decide +kernel
theorem dX6_set_84 : decode cX6_set 84 = .ok (.getfield 7, 3) := by decide +kernel
theorem dX6_set_87 : decode cX6_set 87 = .ok (.iload_n 1, 1) := by decide +kernel
theorem dX6_set_88 : decode cX6_set 88 = .ok (.iaload, 1) := by decide +kernel
theorem dX6_set_89 : decode cX6_set 89 = .ok (.iconst 1, 1) := by decide +kernel
theorem dX6_set_90 : decode cX6_set 90 = .ok (.if_icmp .ne 8, 3) := by decide +kernel
theorem dX6_set_93 : decode cX6_set 93 = .ok (.iload_n 3, 1) := by decide +kernel
theorem dX6_set_94 : decode cX6_set 94 = .ok (.i2s, 1) := by decide +kernel
theorem dX6_set_95 : decode cX6_set 95 = .ok (.goto 4, 3) := by decide +kernel
theorem dX6_set_98 : decode cX6_set 98 = .ok (.iload_n 3, 1) := by decide +kernel
theorem dX6_set_99 : decode cX6_set 99 = .ok (.iastore, 1) := by decide +kernel
theorem dX6_set_100 : decode cX6_set 100 = .ok (.aload_n 0, 1) := by decide +kernel
theorem dX6_set_101 : decode cX6_set 101 = .ok (.getfield 16, 3) := by decide +kernel
theorem dX6_set_104 : decode cX6_set 104 = .ok (.bipush 60, 2) := by decide +kernel
theorem dX6_set_106 : decode cX6_set 106 = .ok (.iload_n 1, 1) := by decide +kernel
theorem dX6_set_107 : decode cX6_set 107 = .ok (.imul, 1) := by decide +kernel
theorem dX6_set_108 : decode cX6_set 108 = .ok (.iload_n 2, 1) := by decide +kernel
theorem dX6_set_109 : decode cX6_set 109 = .ok (.iadd, 1) := by decide +kernel
theorem dX6_set_110 : decode cX6_set 110 = .ok (.iaload, 1) := by decide +kernel
theorem dX6_set_111 : decode cX6_set 111 = .ok (.ireturn, 1) := by decide +kernel
theorem dX6_copy_0 : decode cX6_copy 0 = .ok (.aload_n 0, 1) := by decide +kernel
theorem dX6_copy_1 : decode cX6_copy 1 = .ok (.iconst 0, 1) := by decide +kernel
theorem dX6_copy_2 : decode cX6_copy 2 = .ok (.putfield 62, 3) := by decide +kernel
theorem dX6_copy_5 : decode cX6_copy 5 = .ok (.iload_n 1, 1) := by decide +kernel
theorem dX6_copy_6 : decode cX6_copy 6 = .ok (.invokestatic 76, 3) := by decide +kernel
theorem dX6_copy_9 : decode cX6_copy 9 = .ok (.ifCond .eq 10, 3) := by decide +kernel
theorem dX6_copy_12 : decode cX6_copy 12 = .ok (.iload_n 3, 1) := by decide +kernel
theorem dX6_copy_13 : decode cX6_copy 13 = .ok (.invokestatic 76, 3) := by decide +kernel
theorem dX6_copy_16 : decode cX6_copy 16 = .ok (.ifCond .ne 6, 3) := by decide +kernel
theorem dX6_copy_19 : decode cX6_copy 19 = .ok (.ldc 82, 2) := by decide +kernel
theorem dX6_copy_21 : decode cX6_copy 21 = .ok (.ireturn, 1) := by decide +kernel
theorem dX6_copy_22 : decode cX6_copy 22 = .ok (.aload_n 0, 1) := by decide +kernel
theorem dX6_copy_23 : decode cX6_copy 23 = .ok (.iconst 0, 1) := by decide +kernel
theorem dX6_copy_24 : decode cX6_copy 24 = .ok (.putfield 66, 3) := by decide +kernel
theorem dX6_copy_27 : decode cX6_copy 27 = .ok (.aload_n 0, 1) := by decide +kernel
theorem dX6_copy_28 : decode cX6_copy 28 = .ok (.getfield 7, 3) := by decide +kernel
theorem dX6_copy_31 : decode cX6_copy 31 = .ok (.iload_n 1, 1) := by decide +kernel
theorem dX6_copy_32 : decode cX6_copy 32 = .ok (.iaload, 1) := by decide +kernel
theorem dX6_copy_33 : decode cX6_copy 33 = .ok (.ifCond .lt 12, 3) := by decide +kernel
theorem dX6_copy_36 : decode cX6_copy 36 = .ok (.aload_n 0, 1) := by decide +kernel
theorem dX6_copy_37 : decode cX6_copy 37 = .ok (.getfield 7, 3) := by decide +kernel
theorem dX6_copy_40 : decode cX6_copy 40 = .ok (.iload_n 3, 1) := by decide +kernel
theorem dX6_copy_41 : decode cX6_copy 41 = .ok (.iaload, 1) := by decide +kernel
theorem dX6_copy_42 : decode cX6_copy 42 = .ok (.ifCond .ge 9, 3) := by decide +kernel
theorem dX6_copy_45 : decode cX6_copy 45 = .ok (.aload_n 0, 1) := by decide +kernel
theorem dX6_copy_46 : decode cX6_copy 46 = .ok (.iconst 1, 1) := by decide +kernel
theorem dX6_copy_47 : decode cX6_copy 47 = .ok (.invokevirtual 83, 3) := by decide +kernel
theorem dX6_copy_50 : decode cX6_copy 50 = .ok (.ireturn, 1) := by decide +kernel
theorem dX6_copy_51 : decode cX6_copy 51 = .ok (.aload_n 0, 1) := by decide +kernel
theorem dX6_copy_52 : decode cX6_copy 52 = .ok (.getfield 7, 3) := by decide +kernel
theorem dX6_copy_55 : decode cX6_copy 55 = .ok (.iload_n 1, 1) := by decide +kernel
theorem dX6_copy_56 : decode cX6_copy 56 = .ok (.iaload, 1) := by decide +kernel
theorem dX6_copy_57 : decode cX6_copy 57 = .ok (.aload_n 0, 1) := by decide +kernel
theorem dX6_copy_58 : decode cX6_copy 58 = .ok (.getfield 7, 3) := by decide +kernel
theorem dX6_copy_61 : decode cX6_copy 61 = .ok (.iload_n 3, 1) := by decide +kernel
theorem dX6_copy_62 : decode cX6_copy 62 = .ok (.iaload, 1) := by decide +kernel
theorem dX6_copy_63 : decode cX6_copy 63 = .ok (.if_icmp .eq 9, 3) := by decide +kernel
theorem dX6_copy_66 : decode cX6_copy 66 = .ok (.aload_n 0, 1) := by decide +kernel
theorem dX6_copy_67 : decode cX6_copy 67 = .ok (.iconst 5, 1) := by decide +kernel
theorem dX6_copy_68 : decode cX6_copy 68 = .ok (.invokevirtual 83, 3) := by decide +kernel
theorem dX6_copy_71 : decode cX6_copy 71 = .ok (.ireturn, 1) := by decide +kernel
theorem dX6_copy_72 : decode cX6_copy 72 = .ok (.iload_n 2, 1) := by decide +kernel
theorem dX6_copy_73 : decode cX6_copy 73 = .ok (.ifCond .lt 48, 3) := by decide +kernel
theorem dX6_copy_76 : decode cX6_copy 76 = .ok (.iload 4, 2) := by decide +kernel
theorem dX6_copy_78 : decode cX6_copy 78 = .ok (.ifCond .lt 43, 3) := by decide +kernel
theorem dX6_copy_81 : decode cX6_copy 81 = .ok (.iload 5, 2) := by decide +kernel
theorem dX6_copy_83 : decode cX6_copy 83 = .ok (.ifCond .lt 38, 3) := by decide +kernel
theorem dX6_copy_86 : decode cX6_copy 86 = .ok (.iload_n 2, 1) := by decide +kernel
theorem dX6_copy_87 : decode cX6_copy 87 = .ok (.i2l, 1) := by decide +kernel
theorem dX6_copy_88 : decode cX6_copy 88 = .ok (.iload 5, 2) := by decide +kernel
theorem dX6_copy_90 : decode cX6_copy 90 = .ok (.i2l, 1) := by decide +kernel
theorem dX6_copy_91 : decode cX6_copy 91 = .ok (.ladd, 1) := by decide +kernel
theorem dX6_copy_92 : decode cX6_copy 92 = .ok (.aload_n 0, 1) := by decide +kernel
theorem dX6_copy_93 : decode cX6_copy 93 = .ok (.getfield 13, 3) := by decide +kernel
theorem dX6_copy_96 : decode cX6_copy 96 = .ok (.iload_n 1, 1) := by decide +kernel
theorem dX6_copy_97 : decode cX6_copy 97 = .ok (.iaload, 1) := by decide +kernel
theorem dX6_copy_98 : decode cX6_copy 98 = .ok (.i2l, 1) := by decide +kernel
theorem dX6_copy_99 : decode cX6_copy 99 = .ok (.lcmp, 1) := by decide +kernel
theorem dX6_copy_100 : decode cX6_copy 100 = .ok (.ifCond .gt 21, 3) := by decide +kernel
theorem dX6_copy_103 : decode cX6_copy 103 = .ok (.iload 4, 2) := by decide +kernel
theorem dX6_copy_105 : decode cX6_copy 105 = .ok (.i2l, 1) := by decide +kernel
theorem dX6_copy_106 : decode cX6_copy 106 = .ok (.iload 5, 2) := by decide +kernel
theorem dX6_copy_108 : decode cX6_copy 108 = .ok (.i2l, 1) := by decide +kernel
theorem dX6_copy_109 : decode cX6_copy 109 = .ok (.ladd, 1) := by decide +kernel
theorem dX6_copy_110 : decode cX6_copy 110 = .ok (.aload_n 0, 1) := by decide +kernel
theorem dX6_copy_111 : decode cX6_copy 111 = .ok (.getfield 13, 3) := by decide +kernel
theorem dX6_copy_114 : decode cX6_copy 114 = .ok (.iload_n 3, 1) := by decide +kernel
theorem dX6_copy_115 : decode cX6_copy 115 = .ok (.iaload, 1) := by decide +kernel
theorem dX6_copy_116 : decode cX6_copy 116 = .ok (.i2l, 1) := by decide +kernel
theorem dX6_copy_117 : decode cX6_copy 117 = .ok (.lcmp, 1) := by decide +kernel
theorem dX6_copy_118 : decode cX6_copy 118 = .ok (.ifCond .le 9, 3) := by decide +kernel
theorem dX6_copy_121 : decode cX6_copy 121 = .ok (.aload_n 0, 1) := by decide +kernel
theorem dX6_copy_122 : decode cX6_copy 122 = .ok (.iconst 2, 1) := by decide +kernel
theorem dX6_copy_123 : decode cX6_copy 123 = .ok (.invokevirtual 83, 3) := by decide +kernel
theorem dX6_copy_126 : decode cX6_copy 126 = .ok (.ireturn, 1) := by decide +kernel
theorem dX6_copy_127 : decode cX6_copy 127 = .ok (.iload_n 2, 1) := by decide +kernel
theorem dX6_copy_128 : decode cX6_copy 128 = .ok (.iload 4, 2) := by decide +kernel
theorem dX6_copy_130 : decode cX6_copy 130 = .ok (.if_icmp .lt 7, 3) := by decide +kernel
theorem dX6_copy_133 : decode cX6_copy 133 = .ok (.iconst 1, 1) := by decide +kernel
theorem dX6_copy_134 : decode cX6_copy 134 = .ok (.goto 4, 3) := by decide +kernel
theorem dX6_copy_137 : decode cX6_copy 137 = .ok (.iconst 0, 1) := by decide +kernel
theorem dX6_copy_138 : decode cX6_copy 138 = .ok (.istore 6, 2) := by decide +kernel
theorem dX6_copy_140 : decode cX6_copy 140 = .ok (.iconst 0, 1) := by decide +kernel
theorem dX6_copy_141 : decode cX6_copy 141 = .ok (.istore 7, 2) := by decide +kernel
theorem dX6_copy_143 : decode cX6_copy 143 = .ok (.iload 7, 2) := by decide +kernel
theorem dX6_copy_145 : decode cX6_copy 145 = .ok (.iload 5, 2) := by decide +kernel
theorem dX6_copy_147 : decode cX6_copy 147 = .ok (.if_icmp .ge 57, 3) := by decide +kernel
theorem dX6_copy_150 : decode cX6_copy 150 = .ok (.iload 6, 2) := by decide +kernel
theorem dX6_copy_152 : decode cX6_copy 152 = .ok (.ifCond .eq 8, 3) := by decide +kernel
theorem dX6_copy_155 : decode cX6_copy 155 = .ok (.iload 7, 2) := by decide +kernel
theorem dX6_copy_157 : decode cX6_copy 157 = .ok (.goto 10, 3) := by decide +kernel
theorem dX6_copy_160 : decode cX6_copy 160 = .ok (.iload 5, 2) := by decide +kernel
theorem dX6_copy_162 : decode cX6_copy 162 = .ok (.iconst 1, 1) := by decide +kernel
theorem dX6_copy_163 : decode cX6_copy 163 = .ok (.isub, 1) := by decide +kernel
theorem dX6_copy_164 : decode cX6_copy 164 = .ok (.iload 7, 2) := by decide +kernel
theorem dX6_copy_166 : decode cX6_copy 166 = .ok (.isub, 1) := by decide +kernel
theorem dX6_copy_167 : decode cX6_copy 167 = .ok (.istore 8, 2) := by decide +kernel
theorem dX6_copy_169 : decode cX6_copy 169 = .ok (.aload_n 0, 1) := by decide +kernel
theorem dX6_copy_170 : decode cX6_copy 170 = .ok (.getfield 16, 3) := by decide +kernel
theorem dX6_copy_173 : decode cX6_copy 173 = .ok (.bipush 60, 2) := by decide +kernel
theorem dX6_copy_175 : decode cX6_copy 175 = .ok (.iload_n 3, 1) := by decide +kernel
theorem dX6_copy_176 : decode cX6_copy 176 = .ok (.imul, 1) := by decide +kernel
theorem dX6_copy_177 : decode cX6_copy 177 = .ok (.iload 4, 2) := by decide +kernel
theorem dX6_copy_179 : decode cX6_copy 179 = .ok (.iadd, 1) := by decide +kernel
theorem dX6_copy_180 : decode cX6_copy 180 = .ok (.iload 8, 2) := by decide +kernel
theorem dX6_copy_182 : decode cX6_copy 182 = .ok (.iadd, 1) := by decide +kernel
theorem dX6_copy_183 : decode cX6_copy 183 = .ok (.aload_n 0, 1) := by decide +kernel
theorem dX6_copy_184 : decode cX6_copy 184 = .ok (.getfield 16, 3) := by decide +kernel
theorem dX6_copy_187 : decode cX6_copy 187 = .ok (.bipush 60, 2) := by decide +kernel
theorem dX6_copy_189 : decode cX6_copy 189 = .ok (.iload_n 1, 1) := by decide +kernel
theorem dX6_copy_190 : decode cX6_copy 190 = .ok (.imul, 1) := by decide +kernel
theorem dX6_copy_191 : decode cX6_copy 191 = .ok (.iload_n 2, 1) := by decide +kernel
theorem dX6_copy_192 : decode cX6_copy 192 = .ok (.iadd, 1) := by decide +kernel
theorem dX6_copy_193 : decode cX6_copy 193 = .ok (.iload 8, 2) := by decide +kernel
theorem dX6_copy_195 : decode cX6_copy 195 = .ok (.iadd, 1) := by decide +kernel
theorem dX6_copy_196 : decode cX6_copy 196 = .ok (.iaload, 1) := by decide +kernel
theorem dX6_copy_197 : decode cX6_copy 197 = .ok (.iastore, 1) := by decide +kernel
theorem dX6_copy_198 : decode cX6_copy 198 = .ok (.iinc 7 1, 3) := by decide +kernel
theorem dX6_copy_201 : decode cX6_copy 201 = .ok (.goto (-58), 3) := by decide +kernel
theorem dX6_copy_204 : decode cX6_copy 204 = .ok (.iload 5, 2) := by decide +kernel
theorem dX6_copy_206 : decode cX6_copy 206 = .ok (.ireturn, 1) := by decide +kernel
theorem dX6_drop_0 : decode cX6_drop 0 = .ok (.aload_n 0, 1) := by decide +kernel
theorem dX6_drop_1 : decode cX6_drop 1 = .ok (.iconst 0, 1) := by decide +kernel
theorem dX6_drop_2 : decode cX6_drop 2 = .ok (.putfield 62, 3) := by decide +kernel
theorem dX6_drop_5 : decode cX6_drop 5 = .ok (.iload_n 1, 1) := by decide +kernel
theorem dX6_drop_6 : decode cX6_drop 6 = .ok (.invokestatic 76, 3) := by decide +kernel
theorem dX6_drop_9 : decode cX6_drop 9 = .ok (.ifCond .ne 6, 3) := by decide +kernel
theorem dX6_drop_12 : decode cX6_drop 12 = .ok (.ldc 82, 2) := by decide +kernel
theorem dX6_drop_14 : decode cX6_drop 14 = .ok (.ireturn, 1) := by decide +kernel
theorem dX6_drop_15 : decode cX6_drop 15 = .ok (.aload_n 0, 1) := by decide +kernel
theorem dX6_drop_16 : decode cX6_drop 16 = .ok (.iconst 0, 1) := by decide +kernel
theorem dX6_drop_17 : decode cX6_drop 17 = .ok (.putfield 66, 3) := by decide +kernel
theorem dX6_drop_20 : decode cX6_drop 20 = .ok (.aload_n 0, 1) := by decide +kernel
theorem dX6_drop_21 : decode cX6_drop 21 = .ok (.getfield 7, 3) := by decide +kernel
theorem dX6_drop_24 : decode cX6_drop 24 = .ok (.iload_n 1, 1) := by decide +kernel
theorem dX6_drop_25 : decode cX6_drop 25 = .ok (.iaload, 1) := by decide +kernel
theorem dX6_drop_26 : decode cX6_drop 26 = .ok (.ifCond .ge 9, 3) := by decide +kernel
theorem dX6_drop_29 : decode cX6_drop 29 = .ok (.aload_n 0, 1) := by decide +kernel
theorem dX6_drop_30 : decode cX6_drop 30 = .ok (.iconst 1, 1) := by decide +kernel
theorem dX6_drop_31 : decode cX6_drop 31 = .ok (.invokevirtual 83, 3) := by decide +kernel
theorem dX6_drop_34 : decode cX6_drop 34 = .ok (.ireturn, 1) := by decide +kernel
theorem dX6_drop_35 : decode cX6_drop 35 = .ok (.aload_n 0, 1) := by decide +kernel
theorem dX6_drop_36 : decode cX6_drop 36 = .ok (.getfield 7, 3) := by decide +kernel
theorem dX6_drop_39 : decode cX6_drop 39 = .ok (.iload_n 1, 1) := by decide +kernel
theorem dX6_drop_40 : decode cX6_drop 40 = .ok (.iconst (-1), 1) := by decide +kernel
theorem dX6_drop_41 : decode cX6_drop 41 = .ok (.iastore, 1) := by decide +kernel
theorem dX6_drop_42 : decode cX6_drop 42 = .ok (.aload_n 0, 1) := by decide +kernel
theorem dX6_drop_43 : decode cX6_drop 43 = .ok (.getfield 13, 3) := by decide +kernel
theorem dX6_drop_46 : decode cX6_drop 46 = .ok (.iload_n 1, 1) := by decide +kernel
theorem dX6_drop_47 : decode cX6_drop 47 = .ok (.iaload, 1) := by decide +kernel
theorem dX6_drop_48 : decode cX6_drop 48 = .ok (.ireturn, 1) := by decide +kernel
theorem dX6_isOn_0 : decode cX6_isOn 0 = .ok (.iload_n 0, 1) := by decide +kernel
theorem dX6_isOn_1 : decode cX6_isOn 1 = .ok (.i2l, 1) := by decide +kernel
theorem dX6_isOn_2 : decode cX6_isOn 2 = .ok (.lconst 0, 1) := by decide +kernel
theorem dX6_isOn_3 : decode cX6_isOn 3 = .ok (.ldc2_w 87, 3) := by decide +kernel
theorem dX6_isOn_6 : decode cX6_isOn 6 = .ok (.invokestatic 72, 3) := by decide +kernel
theorem dX6_isOn_9 : decode cX6_isOn 9 = .ok (.ifCond .eq 19, 3) := by decide +kernel
theorem dX6_isOn_12 : decode cX6_isOn 12 = .ok (.iload_n 1, 1) := by decide +kernel
theorem dX6_isOn_13 : decode cX6_isOn 13 = .ok (.i2l, 1) := by decide +kernel
theorem dX6_isOn_14 : decode cX6_isOn 14 = .ok (.lconst 0, 1) := by decide +kernel
theorem dX6_isOn_15 : decode cX6_isOn 15 = .ok (.ldc2_w 87, 3) := by decide +kernel
theorem dX6_isOn_18 : decode cX6_isOn 18 = .ok (.invokestatic 72, 3) := by decide +kernel
theorem dX6_isOn_21 : decode cX6_isOn 21 = .ok (.ifCond .eq 7, 3) := by decide +kernel
theorem dX6_isOn_24 : decode cX6_isOn 24 = .ok (.iconst 1, 1) := by decide +kernel
theorem dX6_isOn_25 : decode cX6_isOn 25 = .ok (.goto 4, 3) := by decide +kernel
theorem dX6_isOn_28 : decode cX6_isOn 28 = .ok (.iconst 0, 1) := by decide +kernel
theorem dX6_isOn_29 : decode cX6_isOn 29 = .ok (.ireturn, 1) := by decide +kernel
theorem dX6_go_0 : decode cX6_go 0 = .ok (.iload_n 0, 1) := by decide +kernel
theorem dX6_go_1 : decode cX6_go 1 = .ok (.bipush 10, 2) := by decide +kernel
theorem dX6_go_3 : decode cX6_go 3 = .ok (.irem, 1) := by decide +kernel
theorem dX6_go_4 : decode cX6_go 4 = .ok (.iload_n 1, 1) := by decide +kernel
theorem dX6_go_5 : decode cX6_go 5 = .ok (.iconst 1, 1) := by decide +kernel
theorem dX6_go_6 : decode cX6_go 6 = .ok (.if_icmp .ne 7, 3) := by decide +kernel
theorem dX6_go_9 : decode cX6_go 9 = .ok (.iconst 1, 1) := by decide +kernel
theorem dX6_go_10 : decode cX6_go 10 = .ok (.goto 13, 3) := by decide +kernel
theorem dX6_go_13 : decode cX6_go 13 = .ok (.iload_n 1, 1) := by decide +kernel
theorem dX6_go_14 : decode cX6_go 14 = .ok (.iconst 3, 1) := by decide +kernel
theorem dX6_go_15 : decode cX6_go 15 = .ok (.if_icmp .ne 7, 3) := by decide +kernel
theorem dX6_go_18 : decode cX6_go 18 = .ok (.iconst (-1), 1) := by decide +kernel
theorem dX6_go_19 : decode cX6_go 19 = .ok (.goto 4, 3) := by decide +kernel
theorem dX6_go_22 : decode cX6_go 22 = .ok (.iconst 0, 1) := by decide +kernel
theorem dX6_go_23 : decode cX6_go 23 = .ok (.iadd, 1) := by decide +kernel
theorem dX6_go_24 : decode cX6_go 24 = .ok (.istore_n 2, 1) := by decide +kernel
theorem dX6_go_25 : decode cX6_go 25 = .ok (.iload_n 0, 1) := by decide +kernel
theorem dX6_go_26 : decode cX6_go 26 = .ok (.bipush 10, 2) := by decide +kernel
theorem dX6_go_28 : decode cX6_go 28 = .ok (.idiv, 1) := by decide +kernel
theorem dX6_go_29 : decode cX6_go 29 = .ok (.iload_n 1, 1) := by decide +kernel
theorem dX6_go_30 : decode cX6_go 30 = .ok (.iconst 2, 1) := by decide +kernel
theorem dX6_go_31 : decode cX6_go 31 = .ok (.if_icmp .ne 7, 3) := by decide +kernel
theorem dX6_go_34 : decode cX6_go 34 = .ok (.iconst 1, 1) := by decide +kernel
theorem dX6_go_35 : decode cX6_go 35 = .ok (.goto 12, 3) := by decide +kernel
theorem dX6_go_38 : decode cX6_go 38 = .ok (.iload_n 1, 1) := by decide +kernel
theorem dX6_go_39 : decode cX6_go 39 = .ok (.ifCond .ne 7, 3) := by decide +kernel
theorem dX6_go_42 : decode cX6_go 42 = .ok (.iconst (-1), 1) := by decide +kernel
theorem dX6_go_43 : decode cX6_go 43 = .ok (.goto 4, 3) := by decide +kernel
theorem dX6_go_46 : decode cX6_go 46 = .ok (.iconst 0, 1) := by decide +kernel
theorem dX6_go_47 : decode cX6_go 47 = .ok (.iadd, 1) := by decide +kernel
theorem dX6_go_48 : decode cX6_go 48 = .ok (.istore_n 3, 1) := by decide +kernel
theorem dX6_go_49 : decode cX6_go 49 = .ok (.iload_n 2, 1) := by decide +kernel
theorem dX6_go_50 : decode cX6_go 50 = .ok (.iload_n 3, 1) := by decide +kernel
theorem dX6_go_51 : decode cX6_go 51 = .ok (.invokestatic 89, 3) := by decide +kernel
theorem dX6_go_54 : decode cX6_go 54 = .ok (.ifCond .eq 12, 3) := by decide +kernel
theorem dX6_go_57 : decode cX6_go 57 = .ok (.bipush 10, 2) := by decide +kernel
theorem dX6_go_59 : decode cX6_go 59 = .ok (.iload_n 3, 1) := by decide +kernel
theorem dX6_go_60 : decode cX6_go 60 = .ok (.imul, 1) := by decide +kernel
theorem dX6_go_61 : decode cX6_go 61 = .ok (.iload_n 2, 1) := by decide +kernel
theorem dX6_go_62 : decode cX6_go 62 = .ok (.iadd, 1) := by decide +kernel
theorem dX6_go_63 : decode cX6_go 63 = .ok (.goto 5, 3) := by decide +kernel
theorem dX6_go_66 : decode cX6_go 66 = .ok (.ldc 93, 2) := by decide +kernel
theorem dX6_go_68 : decode cX6_go 68 = .ok (.ireturn, 1) := by decide +kernel
theorem dX6_side_0 : decode cX6_side 0 = .ok (.iload_n 0, 1) := by decide +kernel
theorem dX6_side_1 : decode cX6_side 1 = .ok (.bipush 10, 2) := by decide +kernel
theorem dX6_side_3 : decode cX6_side 3 = .ok (.irem, 1) := by decide +kernel
theorem dX6_side_4 : decode cX6_side 4 = .ok (.istore_n 2, 1) := by decide +kernel
theorem dX6_side_5 : decode cX6_side 5 = .ok (.iload_n 0, 1) := by decide +kernel
theorem dX6_side_6 : decode cX6_side 6 = .ok (.bipush 10, 2) := by decide +kernel
theorem dX6_side_8 : decode cX6_side 8 = .ok (.idiv, 1) := by decide +kernel
theorem dX6_side_9 : decode cX6_side 9 = .ok (.istore_n 3, 1) := by decide +kernel
theorem dX6_side_10 : decode cX6_side 10 = .ok (.iload_n 1, 1) := by decide +kernel
theorem dX6_side_11 : decode cX6_side 11 = .ok (.iconst 1, 1) := by decide +kernel
theorem dX6_side_12 : decode cX6_side 12 = .ok (.if_icmp .ne 12, 3) := by decide +kernel
theorem dX6_side_15 : decode cX6_side 15 = .ok (.bipush 9, 2) := by decide +kernel
theorem dX6_side_17 : decode cX6_side 17 = .ok (.iload_n 3, 1) := by decide +kernel
theorem dX6_side_18 : decode cX6_side 18 = .ok (.imul, 1) := by decide +kernel
theorem dX6_side_19 : decode cX6_side 19 = .ok (.iload_n 2, 1) := by decide +kernel
theorem dX6_side_20 : decode cX6_side 20 = .ok (.iadd, 1) := by decide +kernel
theorem dX6_side_21 : decode cX6_side 21 = .ok (.goto 47, 3) := by decide +kernel
theorem dX6_side_24 : decode cX6_side 24 = .ok (.iload_n 1, 1) := by decide +kernel
theorem dX6_side_25 : decode cX6_side 25 = .ok (.iconst 3, 1) := by decide +kernel
theorem dX6_side_26 : decode cX6_side 26 = .ok (.if_icmp .ne 14, 3) := by decide +kernel
theorem dX6_side_29 : decode cX6_side 29 = .ok (.bipush 9, 2) := by decide +kernel
theorem dX6_side_31 : decode cX6_side 31 = .ok (.iload_n 3, 1) := by decide +kernel
theorem dX6_side_32 : decode cX6_side 32 = .ok (.imul, 1) := by decide +kernel
theorem dX6_side_33 : decode cX6_side 33 = .ok (.iload_n 2, 1) := by decide +kernel
theorem dX6_side_34 : decode cX6_side 34 = .ok (.iadd, 1) := by decide +kernel
theorem dX6_side_35 : decode cX6_side 35 = .ok (.iconst 1, 1) := by decide +kernel
theorem dX6_side_36 : decode cX6_side 36 = .ok (.isub, 1) := by decide +kernel
theorem dX6_side_37 : decode cX6_side 37 = .ok (.goto 31, 3) := by decide +kernel
theorem dX6_side_40 : decode cX6_side 40 = .ok (.iload_n 1, 1) := by decide +kernel
theorem dX6_side_41 : decode cX6_side 41 = .ok (.iconst 2, 1) := by decide +kernel
theorem dX6_side_42 : decode cX6_side 42 = .ok (.if_icmp .ne 15, 3) := by decide +kernel
theorem dX6_side_45 : decode cX6_side 45 = .ok (.bipush 90, 2) := by decide +kernel
theorem dX6_side_47 : decode cX6_side 47 = .ok (.bipush 10, 2) := by decide +kernel
theorem dX6_side_49 : decode cX6_side 49 = .ok (.iload_n 3, 1) := by decide +kernel
theorem dX6_side_50 : decode cX6_side 50 = .ok (.imul, 1) := by decide +kernel
theorem dX6_side_51 : decode cX6_side 51 = .ok (.iadd, 1) := by decide +kernel
theorem dX6_side_52 : decode cX6_side 52 = .ok (.iload_n 2, 1) := by decide +kernel
theorem dX6_side_53 : decode cX6_side 53 = .ok (.iadd, 1) := by decide +kernel
theorem dX6_side_54 : decode cX6_side 54 = .ok (.goto 14, 3) := by decide +kernel
theorem dX6_side_57 : decode cX6_side 57 = .ok (.bipush 90, 2) := by decide +kernel
theorem dX6_side_59 : decode cX6_side 59 = .ok (.bipush 10, 2) := by decide +kernel
theorem dX6_side_61 : decode cX6_side 61 = .ok (.iload_n 3, 1) := by decide +kernel
theorem dX6_side_62 : decode cX6_side 62 = .ok (.iconst 1, 1) := by decide +kernel
theorem dX6_side_63 : decode cX6_side 63 = .ok (.isub, 1) := by decide +kernel
theorem dX6_side_64 : decode cX6_side 64 = .ok (.imul, 1) := by decide +kernel
theorem dX6_side_65 : decode cX6_side 65 = .ok (.iadd, 1) := by decide +kernel
theorem dX6_side_66 : decode cX6_side 66 = .ok (.iload_n 2, 1) := by decide +kernel
theorem dX6_side_67 : decode cX6_side 67 = .ok (.iadd, 1) := by decide +kernel
theorem dX6_side_68 : decode cX6_side 68 = .ok (.ireturn, 1) := by decide +kernel
theorem dX6_pointOn_0 : decode cX6_pointOn 0 = .ok (.ldc 93, 2) := by decide +kernel
theorem dX6_pointOn_2 : decode cX6_pointOn 2 = .ok (.istore_n 2, 1) := by decide +kernel
theorem dX6_pointOn_3 : decode cX6_pointOn 3 = .ok (.iconst 0, 1) := by decide +kernel
theorem dX6_pointOn_4 : decode cX6_pointOn 4 = .ok (.istore_n 3, 1) := by decide +kernel
theorem dX6_pointOn_5 : decode cX6_pointOn 5 = .ok (.iload_n 3, 1) := by decide +kernel
theorem dX6_pointOn_6 : decode cX6_pointOn 6 = .ok (.aload_n 0, 1) := by decide +kernel
theorem dX6_pointOn_7 : decode cX6_pointOn 7 = .ok (.getfield 94, 3) := by decide +kernel
theorem dX6_pointOn_10 : decode cX6_pointOn 10 = .ok (.if_icmp .ge 25, 3) := by decide +kernel
theorem dX6_pointOn_13 : decode cX6_pointOn 13 = .ok (.aload_n 0, 1) := by decide +kernel
theorem dX6_pointOn_14 : decode cX6_pointOn 14 = .ok (.getfield 23, 3) := by decide +kernel
theorem dX6_pointOn_17 : decode cX6_pointOn 17 = .ok (.iload_n 3, 1) := by decide +kernel
theorem dX6_pointOn_18 : decode cX6_pointOn 18 = .ok (.iaload, 1) := by decide +kernel
theorem dX6_pointOn_19 : decode cX6_pointOn 19 = .ok (.iload_n 1, 1) := by decide +kernel
theorem dX6_pointOn_20 : decode cX6_pointOn 20 = .ok (.if_icmp .ne 7, 3) := by decide +kernel
theorem dX6_pointOn_23 : decode cX6_pointOn 23 = .ok (.iload_n 3, 1) := by decide +kernel
theorem dX6_pointOn_24 : decode cX6_pointOn 24 = .ok (.goto 4, 3) := by decide +kernel
theorem dX6_pointOn_27 : decode cX6_pointOn 27 = .ok (.iload_n 2, 1) := by decide +kernel
theorem dX6_pointOn_28 : decode cX6_pointOn 28 = .ok (.istore_n 2, 1) := by decide +kernel
theorem dX6_pointOn_29 : decode cX6_pointOn 29 = .ok (.iinc 3 1, 3) := by decide +kernel
theorem dX6_pointOn_32 : decode cX6_pointOn 32 = .ok (.goto (-27), 3) := by decide +kernel
theorem dX6_pointOn_35 : decode cX6_pointOn 35 = .ok (.iload_n 2, 1) := by decide +kernel
theorem dX6_pointOn_36 : decode cX6_pointOn 36 = .ok (.ireturn, 1) := by decide +kernel
theorem dX6_point_0 : decode cX6_point 0 = .ok (.aload_n 0, 1) := by decide +kernel
theorem dX6_point_1 : decode cX6_point 1 = .ok (.iconst 0, 1) := by decide +kernel
theorem dX6_point_2 : decode cX6_point 2 = .ok (.putfield 62, 3) := by decide +kernel
theorem dX6_point_5 : decode cX6_point 5 = .ok (.iload_n 1, 1) := by decide +kernel
theorem dX6_point_6 : decode cX6_point 6 = .ok (.iload_n 2, 1) := by decide +kernel
theorem dX6_point_7 : decode cX6_point 7 = .ok (.invokestatic 89, 3) := by decide +kernel
theorem dX6_point_10 : decode cX6_point 10 = .ok (.ifCond .ne 6, 3) := by decide +kernel
theorem dX6_point_13 : decode cX6_point 13 = .ok (.ldc 82, 2) := by decide +kernel
theorem dX6_point_15 : decode cX6_point 15 = .ok (.ireturn, 1) := by decide +kernel
theorem dX6_point_16 : decode cX6_point 16 = .ok (.bipush 10, 2) := by decide +kernel
theorem dX6_point_18 : decode cX6_point 18 = .ok (.iload_n 2, 1) := by decide +kernel
theorem dX6_point_19 : decode cX6_point 19 = .ok (.imul, 1) := by decide +kernel
theorem dX6_point_20 : decode cX6_point 20 = .ok (.iload_n 1, 1) := by decide +kernel
theorem dX6_point_21 : decode cX6_point 21 = .ok (.iadd, 1) := by decide +kernel
theorem dX6_point_22 : decode cX6_point 22 = .ok (.istore_n 3, 1) := by decide +kernel
theorem dX6_point_23 : decode cX6_point 23 = .ok (.aload_n 0, 1) := by decide +kernel
theorem dX6_point_24 : decode cX6_point 24 = .ok (.getfield 19, 3) := by decide +kernel
theorem dX6_point_27 : decode cX6_point 27 = .ok (.iload_n 3, 1) := by decide +kernel
theorem dX6_point_28 : decode cX6_point 28 = .ok (.baload, 1) := by decide +kernel
theorem dX6_point_29 : decode cX6_point 29 = .ok (.ifCond .ne 13, 3) := by decide +kernel
theorem dX6_point_32 : decode cX6_point 32 = .ok (.aload_n 0, 1) := by decide +kernel
theorem dX6_point_33 : decode cX6_point 33 = .ok (.iload_n 3, 1) := by decide +kernel
theorem dX6_point_34 : decode cX6_point 34 = .ok (.invokevirtual 97, 3) := by decide +kernel
theorem dX6_point_37 : decode cX6_point 37 = .ok (.ldc 93, 2) := by decide +kernel
theorem dX6_point_39 : decode cX6_point 39 = .ok (.if_icmp .eq 6, 3) := by decide +kernel
theorem dX6_point_42 : decode cX6_point 42 = .ok (.ldc 100, 2) := by decide +kernel
theorem dX6_point_44 : decode cX6_point 44 = .ok (.ireturn, 1) := by decide +kernel
theorem dX6_point_45 : decode cX6_point 45 = .ok (.aload_n 0, 1) := by decide +kernel
theorem dX6_point_46 : decode cX6_point 46 = .ok (.getfield 94, 3) := by decide +kernel
theorem dX6_point_49 : decode cX6_point 49 = .ok (.bipush 12, 2) := by decide +kernel
theorem dX6_point_51 : decode cX6_point 51 = .ok (.if_icmp .ne 6, 3) := by decide +kernel
theorem dX6_point_54 : decode cX6_point 54 = .ok (.ldc 101, 2) := by decide +kernel
theorem dX6_point_56 : decode cX6_point 56 = .ok (.ireturn, 1) := by decide +kernel
theorem dX6_point_57 : decode cX6_point 57 = .ok (.aload_n 0, 1) := by decide +kernel
theorem dX6_point_58 : decode cX6_point 58 = .ok (.getfield 23, 3) := by decide +kernel
theorem dX6_point_61 : decode cX6_point 61 = .ok (.aload_n 0, 1) := by decide +kernel
theorem dX6_point_62 : decode cX6_point 62 = .ok (.getfield 94, 3) := by decide +kernel
theorem dX6_point_65 : decode cX6_point 65 = .ok (.iload_n 3, 1) := by decide +kernel
theorem dX6_point_66 : decode cX6_point 66 = .ok (.iastore, 1) := by decide +kernel
theorem dX6_point_67 : decode cX6_point 67 = .ok (.aload_n 0, 1) := by decide +kernel
theorem dX6_point_68 : decode cX6_point 68 = .ok (.dup, 1) := by decide +kernel
theorem dX6_point_69 : decode cX6_point 69 = .ok (.getfield 94, 3) := by decide +kernel
theorem dX6_point_72 : decode cX6_point 72 = .ok (.iconst 1, 1) := by decide +kernel
theorem dX6_point_73 : decode cX6_point 73 = .ok (.iadd, 1) := by decide +kernel
theorem dX6_point_74 : decode cX6_point 74 = .ok (.putfield 94, 3) := by decide +kernel
theorem dX6_point_77 : decode cX6_point 77 = .ok (.aload_n 0, 1) := by decide +kernel
theorem dX6_point_78 : decode cX6_point 78 = .ok (.getfield 94, 3) := by decide +kernel
theorem dX6_point_81 : decode cX6_point 81 = .ok (.iconst 1, 1) := by decide +kernel
theorem dX6_point_82 : decode cX6_point 82 = .ok (.isub, 1) := by decide +kernel
theorem dX6_point_83 : decode cX6_point 83 = .ok (.ireturn, 1) := by decide +kernel
theorem dX6_widthOf_0 : decode cX6_widthOf 0 = .ok (.iconst 0, 1) := by decide +kernel
theorem dX6_widthOf_1 : decode cX6_widthOf 1 = .ok (.istore_n 2, 1) := by decide +kernel
theorem dX6_widthOf_2 : decode cX6_widthOf 2 = .ok (.iconst 0, 1) := by decide +kernel
theorem dX6_widthOf_3 : decode cX6_widthOf 3 = .ok (.istore_n 3, 1) := by decide +kernel
theorem dX6_widthOf_4 : decode cX6_widthOf 4 = .ok (.iload_n 3, 1) := by decide +kernel
theorem dX6_widthOf_5 : decode cX6_widthOf 5 = .ok (.aload_n 0, 1) := by decide +kernel
theorem dX6_widthOf_6 : decode cX6_widthOf 6 = .ok (.getfield 102, 3) := by decide +kernel
theorem dX6_widthOf_9 : decode cX6_widthOf 9 = .ok (.if_icmp .ge 32, 3) := by decide +kernel
theorem dX6_widthOf_12 : decode cX6_widthOf 12 = .ok (.iload_n 2, 1) := by decide +kernel
theorem dX6_widthOf_13 : decode cX6_widthOf 13 = .ok (.aload_n 0, 1) := by decide +kernel
theorem dX6_widthOf_14 : decode cX6_widthOf 14 = .ok (.getfield 38, 3) := by decide +kernel
theorem dX6_widthOf_17 : decode cX6_widthOf 17 = .ok (.sipush 180, 3) := by decide +kernel
theorem dX6_widthOf_20 : decode cX6_widthOf 20 = .ok (.iload_n 3, 1) := by decide +kernel
theorem dX6_widthOf_21 : decode cX6_widthOf 21 = .ok (.imul, 1) := by decide +kernel
theorem dX6_widthOf_22 : decode cX6_widthOf 22 = .ok (.iload_n 1, 1) := by decide +kernel
theorem dX6_widthOf_23 : decode cX6_widthOf 23 = .ok (.iadd, 1) := by decide +kernel
theorem dX6_widthOf_24 : decode cX6_widthOf 24 = .ok (.baload, 1) := by decide +kernel
theorem dX6_widthOf_25 : decode cX6_widthOf 25 = .ok (.ifCond .eq 7, 3) := by decide +kernel
theorem dX6_widthOf_28 : decode cX6_widthOf 28 = .ok (.iconst 1, 1) := by decide +kernel
theorem dX6_widthOf_29 : decode cX6_widthOf 29 = .ok (.goto 4, 3) := by decide +kernel
theorem dX6_widthOf_32 : decode cX6_widthOf 32 = .ok (.iconst 0, 1) := by decide +kernel
theorem dX6_widthOf_33 : decode cX6_widthOf 33 = .ok (.iadd, 1) := by decide +kernel
theorem dX6_widthOf_34 : decode cX6_widthOf 34 = .ok (.istore_n 2, 1) := by decide +kernel
theorem dX6_widthOf_35 : decode cX6_widthOf 35 = .ok (.iinc 3 1, 3) := by decide +kernel
theorem dX6_widthOf_38 : decode cX6_widthOf 38 = .ok (.goto (-34), 3) := by decide +kernel
theorem dX6_widthOf_41 : decode cX6_widthOf 41 = .ok (.iload_n 2, 1) := by decide +kernel
theorem dX6_widthOf_42 : decode cX6_widthOf 42 = .ok (.ireturn, 1) := by decide +kernel
theorem dX6_isOfWay_0 : decode cX6_isOfWay 0 = .ok (.iconst 0, 1) := by decide +kernel
theorem dX6_isOfWay_1 : decode cX6_isOfWay 1 = .ok (.istore_n 2, 1) := by decide +kernel
theorem dX6_isOfWay_2 : decode cX6_isOfWay 2 = .ok (.iconst 0, 1) := by decide +kernel
theorem dX6_isOfWay_3 : decode cX6_isOfWay 3 = .ok (.istore_n 3, 1) := by decide +kernel
theorem dX6_isOfWay_4 : decode cX6_isOfWay 4 = .ok (.iload_n 3, 1) := by decide +kernel
theorem dX6_isOfWay_5 : decode cX6_isOfWay 5 = .ok (.iconst 4, 1) := by decide +kernel
theorem dX6_isOfWay_6 : decode cX6_isOfWay 6 = .ok (.if_icmp .ge 41, 3) := by decide +kernel
theorem dX6_isOfWay_9 : decode cX6_isOfWay 9 = .ok (.iload_n 2, 1) := by decide +kernel
theorem dX6_isOfWay_10 : decode cX6_isOfWay 10 = .ok (.ifCond .ne 25, 3) := by decide +kernel
theorem dX6_isOfWay_13 : decode cX6_isOfWay 13 = .ok (.iload_n 1, 1) := by decide +kernel
theorem dX6_isOfWay_14 : decode cX6_isOfWay 14 = .ok (.iload_n 3, 1) := by decide +kernel
theorem dX6_isOfWay_15 : decode cX6_isOfWay 15 = .ok (.invokestatic 105, 3) := by decide +kernel
theorem dX6_isOfWay_18 : decode cX6_isOfWay 18 = .ok (.ldc 93, 2) := by decide +kernel
theorem dX6_isOfWay_20 : decode cX6_isOfWay 20 = .ok (.if_icmp .eq 19, 3) := by decide +kernel
theorem dX6_isOfWay_23 : decode cX6_isOfWay 23 = .ok (.aload_n 0, 1) := by decide +kernel
theorem dX6_isOfWay_24 : decode cX6_isOfWay 24 = .ok (.iload_n 1, 1) := by decide +kernel
theorem dX6_isOfWay_25 : decode cX6_isOfWay 25 = .ok (.iload_n 3, 1) := by decide +kernel
theorem dX6_isOfWay_26 : decode cX6_isOfWay 26 = .ok (.invokestatic 109, 3) := by decide +kernel
theorem dX6_isOfWay_29 : decode cX6_isOfWay 29 = .ok (.invokevirtual 112, 3) := by decide +kernel
theorem dX6_isOfWay_32 : decode cX6_isOfWay 32 = .ok (.ifCond .le 7, 3) := by decide +kernel
theorem dX6_isOfWay_35 : decode cX6_isOfWay 35 = .ok (.iconst 1, 1) := by decide +kernel
theorem dX6_isOfWay_36 : decode cX6_isOfWay 36 = .ok (.goto 4, 3) := by decide +kernel
theorem dX6_isOfWay_39 : decode cX6_isOfWay 39 = .ok (.iconst 0, 1) := by decide +kernel
theorem dX6_isOfWay_40 : decode cX6_isOfWay 40 = .ok (.istore_n 2, 1) := by decide +kernel
theorem dX6_isOfWay_41 : decode cX6_isOfWay 41 = .ok (.iinc 3 1, 3) := by decide +kernel
theorem dX6_isOfWay_44 : decode cX6_isOfWay 44 = .ok (.goto (-40), 3) := by decide +kernel
theorem dX6_isOfWay_47 : decode cX6_isOfWay 47 = .ok (.iload_n 2, 1) := by decide +kernel
theorem dX6_isOfWay_48 : decode cX6_isOfWay 48 = .ok (.ireturn, 1) := by decide +kernel
theorem dX6_shut_0 : decode cX6_shut 0 = .ok (.aload_n 0, 1) := by decide +kernel
theorem dX6_shut_1 : decode cX6_shut 1 = .ok (.iconst 0, 1) := by decide +kernel
theorem dX6_shut_2 : decode cX6_shut 2 = .ok (.putfield 62, 3) := by decide +kernel
theorem dX6_shut_5 : decode cX6_shut 5 = .ok (.iload_n 1, 1) := by decide +kernel
theorem dX6_shut_6 : decode cX6_shut 6 = .ok (.iload_n 2, 1) := by decide +kernel
theorem dX6_shut_7 : decode cX6_shut 7 = .ok (.invokestatic 89, 3) := by decide +kernel
theorem dX6_shut_10 : decode cX6_shut 10 = .ok (.ifCond .ne 6, 3) := by decide +kernel
theorem dX6_shut_13 : decode cX6_shut 13 = .ok (.ldc 82, 2) := by decide +kernel
theorem dX6_shut_15 : decode cX6_shut 15 = .ok (.ireturn, 1) := by decide +kernel
theorem dX6_shut_16 : decode cX6_shut 16 = .ok (.bipush 10, 2) := by decide +kernel
theorem dX6_shut_18 : decode cX6_shut 18 = .ok (.iload_n 2, 1) := by decide +kernel
theorem dX6_shut_19 : decode cX6_shut 19 = .ok (.imul, 1) := by decide +kernel
theorem dX6_shut_20 : decode cX6_shut 20 = .ok (.iload_n 1, 1) := by decide +kernel
theorem dX6_shut_21 : decode cX6_shut 21 = .ok (.iadd, 1) := by decide +kernel
theorem dX6_shut_22 : decode cX6_shut 22 = .ok (.istore_n 3, 1) := by decide +kernel
theorem dX6_shut_23 : decode cX6_shut 23 = .ok (.aload_n 0, 1) := by decide +kernel
theorem dX6_shut_24 : decode cX6_shut 24 = .ok (.getfield 19, 3) := by decide +kernel
theorem dX6_shut_27 : decode cX6_shut 27 = .ok (.iload_n 3, 1) := by decide +kernel
theorem dX6_shut_28 : decode cX6_shut 28 = .ok (.baload, 1) := by decide +kernel
theorem dX6_shut_29 : decode cX6_shut 29 = .ok (.ifCond .eq 5, 3) := by decide +kernel
theorem dX6_shut_32 : decode cX6_shut 32 = .ok (.iconst 0, 1) := by decide +kernel
theorem dX6_shut_33 : decode cX6_shut 33 = .ok (.ireturn, 1) := by decide +kernel
theorem dX6_shut_34 : decode cX6_shut 34 = .ok (.aload_n 0, 1) := by decide +kernel
theorem dX6_shut_35 : decode cX6_shut 35 = .ok (.iload_n 3, 1) := by decide +kernel
theorem dX6_shut_36 : decode cX6_shut 36 = .ok (.invokevirtual 97, 3) := by decide +kernel
theorem dX6_shut_39 : decode cX6_shut 39 = .ok (.ldc 93, 2) := by decide +kernel
theorem dX6_shut_41 : decode cX6_shut 41 = .ok (.if_icmp .ne 11, 3) := by decide +kernel
theorem dX6_shut_44 : decode cX6_shut 44 = .ok (.aload_n 0, 1) := by decide +kernel
theorem dX6_shut_45 : decode cX6_shut 45 = .ok (.iload_n 3, 1) := by decide +kernel
theorem dX6_shut_46 : decode cX6_shut 46 = .ok (.invokevirtual 115, 3) := by decide +kernel
theorem dX6_shut_49 : decode cX6_shut 49 = .ok (.ifCond .eq 6, 3) := by decide +kernel
theorem dX6_shut_52 : decode cX6_shut 52 = .ok (.ldc 100, 2) := by decide +kernel
theorem dX6_shut_54 : decode cX6_shut 54 = .ok (.ireturn, 1) := by decide +kernel
theorem dX6_shut_55 : decode cX6_shut 55 = .ok (.aload_n 0, 1) := by decide +kernel
theorem dX6_shut_56 : decode cX6_shut 56 = .ok (.getfield 19, 3) := by decide +kernel
theorem dX6_shut_59 : decode cX6_shut 59 = .ok (.iload_n 3, 1) := by decide +kernel
theorem dX6_shut_60 : decode cX6_shut 60 = .ok (.iconst 1, 1) := by decide +kernel
theorem dX6_shut_61 : decode cX6_shut 61 = .ok (.bastore, 1) := by decide +kernel
theorem dX6_shut_62 : decode cX6_shut 62 = .ok (.iconst 1, 1) := by decide +kernel
theorem dX6_shut_63 : decode cX6_shut 63 = .ok (.ireturn, 1) := by decide +kernel
theorem dX6_open_0 : decode cX6_open 0 = .ok (.aload_n 0, 1) := by decide +kernel
theorem dX6_open_1 : decode cX6_open 1 = .ok (.iconst 0, 1) := by decide +kernel
theorem dX6_open_2 : decode cX6_open 2 = .ok (.putfield 62, 3) := by decide +kernel
theorem dX6_open_5 : decode cX6_open 5 = .ok (.iload_n 1, 1) := by decide +kernel
theorem dX6_open_6 : decode cX6_open 6 = .ok (.iload_n 2, 1) := by decide +kernel
theorem dX6_open_7 : decode cX6_open 7 = .ok (.invokestatic 89, 3) := by decide +kernel
theorem dX6_open_10 : decode cX6_open 10 = .ok (.ifCond .ne 6, 3) := by decide +kernel
theorem dX6_open_13 : decode cX6_open 13 = .ok (.ldc 82, 2) := by decide +kernel
theorem dX6_open_15 : decode cX6_open 15 = .ok (.ireturn, 1) := by decide +kernel
theorem dX6_open_16 : decode cX6_open 16 = .ok (.aload_n 0, 1) := by decide +kernel
theorem dX6_open_17 : decode cX6_open 17 = .ok (.getfield 19, 3) := by decide +kernel
theorem dX6_open_20 : decode cX6_open 20 = .ok (.bipush 10, 2) := by decide +kernel
theorem dX6_open_22 : decode cX6_open 22 = .ok (.iload_n 2, 1) := by decide +kernel
theorem dX6_open_23 : decode cX6_open 23 = .ok (.imul, 1) := by decide +kernel
theorem dX6_open_24 : decode cX6_open 24 = .ok (.iload_n 1, 1) := by decide +kernel
theorem dX6_open_25 : decode cX6_open 25 = .ok (.iadd, 1) := by decide +kernel
theorem dX6_open_26 : decode cX6_open 26 = .ok (.baload, 1) := by decide +kernel
theorem dX6_open_27 : decode cX6_open 27 = .ok (.istore_n 3, 1) := by decide +kernel
theorem dX6_open_28 : decode cX6_open 28 = .ok (.aload_n 0, 1) := by decide +kernel
theorem dX6_open_29 : decode cX6_open 29 = .ok (.getfield 19, 3) := by decide +kernel
theorem dX6_open_32 : decode cX6_open 32 = .ok (.bipush 10, 2) := by decide +kernel
theorem dX6_open_34 : decode cX6_open 34 = .ok (.iload_n 2, 1) := by decide +kernel
theorem dX6_open_35 : decode cX6_open 35 = .ok (.imul, 1) := by decide +kernel
theorem dX6_open_36 : decode cX6_open 36 = .ok (.iload_n 1, 1) := by decide +kernel
theorem dX6_open_37 : decode cX6_open 37 = .ok (.iadd, 1) := by decide +kernel
theorem dX6_open_38 : decode cX6_open 38 = .ok (.iconst 0, 1) := by decide +kernel
theorem dX6_open_39 : decode cX6_open 39 = .ok (.bastore, 1) := by decide +kernel
theorem dX6_open_40 : decode cX6_open 40 = .ok (.iload_n 3, 1) := by decide +kernel
theorem dX6_open_41 : decode cX6_open 41 = .ok (.ifCond .eq 7, 3) := by decide +kernel
theorem dX6_open_44 : decode cX6_open 44 = .ok (.iconst 1, 1) := by decide +kernel
theorem dX6_open_45 : decode cX6_open 45 = .ok (.goto 4, 3) := by decide +kernel
theorem dX6_open_48 : decode cX6_open 48 = .ok (.iconst 0, 1) := by decide +kernel
theorem dX6_open_49 : decode cX6_open 49 = .ok (.ireturn, 1) := by decide +kernel
theorem dX6_isPoint_0 : decode cX6_isPoint 0 = .ok (.iload_n 1, 1) := by decide +kernel
theorem dX6_isPoint_1 : decode cX6_isPoint 1 = .ok (.i2l, 1) := by decide +kernel
theorem dX6_isPoint_2 : decode cX6_isPoint 2 = .ok (.lconst 0, 1) := by decide +kernel
theorem dX6_isPoint_3 : decode cX6_isPoint 3 = .ok (.aload_n 0, 1) := by decide +kernel
theorem dX6_isPoint_4 : decode cX6_isPoint 4 = .ok (.getfield 94, 3) := by decide +kernel
theorem dX6_isPoint_7 : decode cX6_isPoint 7 = .ok (.iconst 1, 1) := by decide +kernel
theorem dX6_isPoint_8 : decode cX6_isPoint 8 = .ok (.isub, 1) := by decide +kernel
theorem dX6_isPoint_9 : decode cX6_isPoint 9 = .ok (.i2l, 1) := by decide +kernel
theorem dX6_isPoint_10 : decode cX6_isPoint 10 = .ok (.invokestatic 72, 3) := by decide +kernel
theorem dX6_isPoint_13 : decode cX6_isPoint 13 = .ok (.ireturn, 1) := by decide +kernel
theorem dX6_isLine_0 : decode cX6_isLine 0 = .ok (.iload_n 1, 1) := by decide +kernel
theorem dX6_isLine_1 : decode cX6_isLine 1 = .ok (.i2l, 1) := by decide +kernel
theorem dX6_isLine_2 : decode cX6_isLine 2 = .ok (.lconst 0, 1) := by decide +kernel
theorem dX6_isLine_3 : decode cX6_isLine 3 = .ok (.aload_n 0, 1) := by decide +kernel
theorem dX6_isLine_4 : decode cX6_isLine 4 = .ok (.getfield 102, 3) := by decide +kernel
theorem dX6_isLine_7 : decode cX6_isLine 7 = .ok (.iconst 1, 1) := by decide +kernel
theorem dX6_isLine_8 : decode cX6_isLine 8 = .ok (.isub, 1) := by decide +kernel
theorem dX6_isLine_9 : decode cX6_isLine 9 = .ok (.i2l, 1) := by decide +kernel
theorem dX6_isLine_10 : decode cX6_isLine 10 = .ok (.invokestatic 72, 3) := by decide +kernel
theorem dX6_isLine_13 : decode cX6_isLine 13 = .ok (.ireturn, 1) := by decide +kernel
theorem dX6_line_0 : decode cX6_line 0 = .ok (.aload_n 0, 1) := by decide +kernel
theorem dX6_line_1 : decode cX6_line 1 = .ok (.iconst 0, 1) := by decide +kernel
theorem dX6_line_2 : decode cX6_line 2 = .ok (.putfield 62, 3) := by decide +kernel
theorem dX6_line_5 : decode cX6_line 5 = .ok (.aload_n 0, 1) := by decide +kernel
theorem dX6_line_6 : decode cX6_line 6 = .ok (.iload_n 1, 1) := by decide +kernel
theorem dX6_line_7 : decode cX6_line 7 = .ok (.invokevirtual 118, 3) := by decide +kernel
theorem dX6_line_10 : decode cX6_line 10 = .ok (.ifCond .eq 16, 3) := by decide +kernel
theorem dX6_line_13 : decode cX6_line 13 = .ok (.aload_n 0, 1) := by decide +kernel
theorem dX6_line_14 : decode cX6_line 14 = .ok (.iload_n 2, 1) := by decide +kernel
theorem dX6_line_15 : decode cX6_line 15 = .ok (.invokevirtual 118, 3) := by decide +kernel
theorem dX6_line_18 : decode cX6_line 18 = .ok (.ifCond .eq 8, 3) := by decide +kernel
theorem dX6_line_21 : decode cX6_line 21 = .ok (.iload_n 1, 1) := by decide +kernel
theorem dX6_line_22 : decode cX6_line 22 = .ok (.iload_n 2, 1) := by decide +kernel
theorem dX6_line_23 : decode cX6_line 23 = .ok (.if_icmp .ne 6, 3) := by decide +kernel
theorem dX6_line_26 : decode cX6_line 26 = .ok (.ldc 82, 2) := by decide +kernel
theorem dX6_line_28 : decode cX6_line 28 = .ok (.ireturn, 1) := by decide +kernel
theorem dX6_line_29 : decode cX6_line 29 = .ok (.aload_n 0, 1) := by decide +kernel
theorem dX6_line_30 : decode cX6_line 30 = .ok (.getfield 102, 3) := by decide +kernel
theorem dX6_line_33 : decode cX6_line 33 = .ok (.bipush 12, 2) := by decide +kernel
theorem dX6_line_35 : decode cX6_line 35 = .ok (.if_icmp .ne 6, 3) := by decide +kernel
theorem dX6_line_38 : decode cX6_line 38 = .ok (.ldc 101, 2) := by decide +kernel
theorem dX6_line_40 : decode cX6_line 40 = .ok (.ireturn, 1) := by decide +kernel
theorem dX6_line_41 : decode cX6_line 41 = .ok (.aload_n 0, 1) := by decide +kernel
theorem dX6_line_42 : decode cX6_line 42 = .ok (.getfield 26, 3) := by decide +kernel
theorem dX6_line_45 : decode cX6_line 45 = .ok (.aload_n 0, 1) := by decide +kernel
theorem dX6_line_46 : decode cX6_line 46 = .ok (.getfield 102, 3) := by decide +kernel
theorem dX6_line_49 : decode cX6_line 49 = .ok (.iload_n 1, 1) := by decide +kernel
theorem dX6_line_50 : decode cX6_line 50 = .ok (.iastore, 1) := by decide +kernel
theorem dX6_line_51 : decode cX6_line 51 = .ok (.aload_n 0, 1) := by decide +kernel
theorem dX6_line_52 : decode cX6_line 52 = .ok (.getfield 29, 3) := by decide +kernel
theorem dX6_line_55 : decode cX6_line 55 = .ok (.aload_n 0, 1) := by decide +kernel
theorem dX6_line_56 : decode cX6_line 56 = .ok (.getfield 102, 3) := by decide +kernel
theorem dX6_line_59 : decode cX6_line 59 = .ok (.iload_n 2, 1) := by decide +kernel
theorem dX6_line_60 : decode cX6_line 60 = .ok (.iastore, 1) := by decide +kernel
theorem dX6_line_61 : decode cX6_line 61 = .ok (.aload_n 0, 1) := by decide +kernel
theorem dX6_line_62 : decode cX6_line 62 = .ok (.dup, 1) := by decide +kernel
theorem dX6_line_63 : decode cX6_line 63 = .ok (.getfield 102, 3) := by decide +kernel
theorem dX6_line_66 : decode cX6_line 66 = .ok (.iconst 1, 1) := by decide +kernel
theorem dX6_line_67 : decode cX6_line 67 = .ok (.iadd, 1) := by decide +kernel
theorem dX6_line_68 : decode cX6_line 68 = .ok (.putfield 102, 3) := by decide +kernel
theorem dX6_line_71 : decode cX6_line 71 = .ok (.aload_n 0, 1) := by decide +kernel
theorem dX6_line_72 : decode cX6_line 72 = .ok (.getfield 102, 3) := by decide +kernel
theorem dX6_line_75 : decode cX6_line 75 = .ok (.iconst 1, 1) := by decide +kernel
theorem dX6_line_76 : decode cX6_line 76 = .ok (.isub, 1) := by decide +kernel
theorem dX6_line_77 : decode cX6_line 77 = .ok (.ireturn, 1) := by decide +kernel
theorem dX6_rule_0 : decode cX6_rule 0 = .ok (.aload_n 0, 1) := by decide +kernel
theorem dX6_rule_1 : decode cX6_rule 1 = .ok (.iconst 0, 1) := by decide +kernel
theorem dX6_rule_2 : decode cX6_rule 2 = .ok (.putfield 62, 3) := by decide +kernel
theorem dX6_rule_5 : decode cX6_rule 5 = .ok (.iload_n 1, 1) := by decide +kernel
theorem dX6_rule_6 : decode cX6_rule 6 = .ok (.i2l, 1) := by decide +kernel
theorem dX6_rule_7 : decode cX6_rule 7 = .ok (.lconst 0, 1) := by decide +kernel
theorem dX6_rule_8 : decode cX6_rule 8 = .ok (.lconst 1, 1) := by decide +kernel
theorem dX6_rule_9 : decode cX6_rule 9 = .ok (.invokestatic 72, 3) := by decide +kernel
theorem dX6_rule_12 : decode cX6_rule 12 = .ok (.ifCond .eq 34, 3) := by decide +kernel
theorem dX6_rule_15 : decode cX6_rule 15 = .ok (.iload_n 1, 1) := by decide +kernel
theorem dX6_rule_16 : decode cX6_rule 16 = .ok (.ifCond .ne 18, 3) := by decide +kernel
theorem dX6_rule_19 : decode cX6_rule 19 = .ok (.iload_n 2, 1) := by decide +kernel
theorem dX6_rule_20 : decode cX6_rule 20 = .ok (.i2l, 1) := by decide +kernel
theorem dX6_rule_21 : decode cX6_rule 21 = .ok (.lconst 1, 1) := by decide +kernel
theorem dX6_rule_22 : decode cX6_rule 22 = .ok (.ldc2_w 121, 3) := by decide +kernel
theorem dX6_rule_25 : decode cX6_rule 25 = .ok (.invokestatic 72, 3) := by decide +kernel
theorem dX6_rule_28 : decode cX6_rule 28 = .ok (.ifCond .ne 21, 3) := by decide +kernel
theorem dX6_rule_31 : decode cX6_rule 31 = .ok (.goto 15, 3) := by decide +kernel
theorem dX6_rule_34 : decode cX6_rule 34 = .ok (.iload_n 2, 1) := by decide +kernel
theorem dX6_rule_35 : decode cX6_rule 35 = .ok (.i2l, 1) := by decide +kernel
theorem dX6_rule_36 : decode cX6_rule 36 = .ok (.lconst 0, 1) := by decide +kernel
theorem dX6_rule_37 : decode cX6_rule 37 = .ok (.ldc2_w 123, 3) := by decide +kernel
theorem dX6_rule_40 : decode cX6_rule 40 = .ok (.invokestatic 72, 3) := by decide +kernel
theorem dX6_rule_43 : decode cX6_rule 43 = .ok (.ifCond .ne 6, 3) := by decide +kernel
theorem dX6_rule_46 : decode cX6_rule 46 = .ok (.ldc 82, 2) := by decide +kernel
theorem dX6_rule_48 : decode cX6_rule 48 = .ok (.ireturn, 1) := by decide +kernel
theorem dX6_rule_49 : decode cX6_rule 49 = .ok (.aload_n 0, 1) := by decide +kernel
theorem dX6_rule_50 : decode cX6_rule 50 = .ok (.getfield 41, 3) := by decide +kernel
theorem dX6_rule_53 : decode cX6_rule 53 = .ok (.iload_n 1, 1) := by decide +kernel
theorem dX6_rule_54 : decode cX6_rule 54 = .ok (.iaload, 1) := by decide +kernel
theorem dX6_rule_55 : decode cX6_rule 55 = .ok (.istore_n 3, 1) := by decide +kernel
theorem dX6_rule_56 : decode cX6_rule 56 = .ok (.aload_n 0, 1) := by decide +kernel
theorem dX6_rule_57 : decode cX6_rule 57 = .ok (.getfield 41, 3) := by decide +kernel
theorem dX6_rule_60 : decode cX6_rule 60 = .ok (.iload_n 1, 1) := by decide +kernel
theorem dX6_rule_61 : decode cX6_rule 61 = .ok (.iload_n 2, 1) := by decide +kernel
theorem dX6_rule_62 : decode cX6_rule 62 = .ok (.iastore, 1) := by decide +kernel
theorem dX6_rule_63 : decode cX6_rule 63 = .ok (.iload_n 3, 1) := by decide +kernel
theorem dX6_rule_64 : decode cX6_rule 64 = .ok (.ireturn, 1) := by decide +kernel
theorem dX6_costOf_0 : decode cX6_costOf 0 = .ok (.aload_n 0, 1) := by decide +kernel
theorem dX6_costOf_1 : decode cX6_costOf 1 = .ok (.getfield 41, 3) := by decide +kernel
theorem dX6_costOf_4 : decode cX6_costOf 4 = .ok (.iconst 0, 1) := by decide +kernel
theorem dX6_costOf_5 : decode cX6_costOf 5 = .ok (.iaload, 1) := by decide +kernel
theorem dX6_costOf_6 : decode cX6_costOf 6 = .ok (.iload_n 1, 1) := by decide +kernel
theorem dX6_costOf_7 : decode cX6_costOf 7 = .ok (.aload_n 0, 1) := by decide +kernel
theorem dX6_costOf_8 : decode cX6_costOf 8 = .ok (.getfield 41, 3) := by decide +kernel
theorem dX6_costOf_11 : decode cX6_costOf 11 = .ok (.iconst 1, 1) := by decide +kernel
theorem dX6_costOf_12 : decode cX6_costOf 12 = .ok (.iaload, 1) := by decide +kernel
theorem dX6_costOf_13 : decode cX6_costOf 13 = .ok (.imul, 1) := by decide +kernel
theorem dX6_costOf_14 : decode cX6_costOf 14 = .ok (.isub, 1) := by decide +kernel
theorem dX6_costOf_15 : decode cX6_costOf 15 = .ok (.istore_n 2, 1) := by decide +kernel
theorem dX6_costOf_16 : decode cX6_costOf 16 = .ok (.iload_n 2, 1) := by decide +kernel
theorem dX6_costOf_17 : decode cX6_costOf 17 = .ok (.iconst 1, 1) := by decide +kernel
theorem dX6_costOf_18 : decode cX6_costOf 18 = .ok (.if_icmp .ge 7, 3) := by decide +kernel
theorem dX6_costOf_21 : decode cX6_costOf 21 = .ok (.iconst 1, 1) := by decide +kernel
theorem dX6_costOf_22 : decode cX6_costOf 22 = .ok (.goto 4, 3) := by decide +kernel
theorem dX6_costOf_25 : decode cX6_costOf 25 = .ok (.iload_n 2, 1) := by decide +kernel
theorem dX6_costOf_26 : decode cX6_costOf 26 = .ok (.ireturn, 1) := by decide +kernel
theorem dX6_wipe_0 : decode cX6_wipe 0 = .ok (.aload_n 0, 1) := by decide +kernel
theorem dX6_wipe_1 : decode cX6_wipe 1 = .ok (.getfield 32, 3) := by decide +kernel
theorem dX6_wipe_4 : decode cX6_wipe 4 = .ok (.iload_n 1, 1) := by decide +kernel
theorem dX6_wipe_5 : decode cX6_wipe 5 = .ok (.iconst 0, 1) := by decide +kernel
theorem dX6_wipe_6 : decode cX6_wipe 6 = .ok (.iastore, 1) := by decide +kernel
theorem dX6_wipe_7 : decode cX6_wipe 7 = .ok (.iconst 0, 1) := by decide +kernel
theorem dX6_wipe_8 : decode cX6_wipe 8 = .ok (.istore_n 2, 1) := by decide +kernel
theorem dX6_wipe_9 : decode cX6_wipe 9 = .ok (.iload_n 2, 1) := by decide +kernel
theorem dX6_wipe_10 : decode cX6_wipe 10 = .ok (.sipush 180, 3) := by decide +kernel
theorem dX6_wipe_13 : decode cX6_wipe 13 = .ok (.if_icmp .ge 22, 3) := by decide +kernel
theorem dX6_wipe_16 : decode cX6_wipe 16 = .ok (.aload_n 0, 1) := by decide +kernel
theorem dX6_wipe_17 : decode cX6_wipe 17 = .ok (.getfield 38, 3) := by decide +kernel
theorem dX6_wipe_20 : decode cX6_wipe 20 = .ok (.sipush 180, 3) := by decide +kernel
theorem dX6_wipe_23 : decode cX6_wipe 23 = .ok (.iload_n 1, 1) := by decide +kernel
theorem dX6_wipe_24 : decode cX6_wipe 24 = .ok (.imul, 1) := by decide +kernel
theorem dX6_wipe_25 : decode cX6_wipe 25 = .ok (.iload_n 2, 1) := by decide +kernel
theorem dX6_wipe_26 : decode cX6_wipe 26 = .ok (.iadd, 1) := by decide +kernel
theorem dX6_wipe_27 : decode cX6_wipe 27 = .ok (.iconst 0, 1) := by decide +kernel
theorem dX6_wipe_28 : decode cX6_wipe 28 = .ok (.bastore, 1) := by decide +kernel
theorem dX6_wipe_29 : decode cX6_wipe 29 = .ok (.iinc 2 1, 3) := by decide +kernel
theorem dX6_wipe_32 : decode cX6_wipe 32 = .ok (.goto (-23), 3) := by decide +kernel
theorem dX6_wipe_35 : decode cX6_wipe 35 = .ok (.return_, 1) := by decide +kernel
theorem dX6_ownCost_0 : decode cX6_ownCost 0 = .ok (.iconst 0, 1) := by decide +kernel
theorem dX6_ownCost_1 : decode cX6_ownCost 1 = .ok (.istore_n 2, 1) := by decide +kernel
theorem dX6_ownCost_2 : decode cX6_ownCost 2 = .ok (.iconst 0, 1) := by decide +kernel
theorem dX6_ownCost_3 : decode cX6_ownCost 3 = .ok (.istore_n 3, 1) := by decide +kernel
theorem dX6_ownCost_4 : decode cX6_ownCost 4 = .ok (.iload_n 3, 1) := by decide +kernel
theorem dX6_ownCost_5 : decode cX6_ownCost 5 = .ok (.sipush 180, 3) := by decide +kernel
theorem dX6_ownCost_8 : decode cX6_ownCost 8 = .ok (.if_icmp .ge 42, 3) := by decide +kernel
theorem dX6_ownCost_11 : decode cX6_ownCost 11 = .ok (.iload_n 2, 1) := by decide +kernel
theorem dX6_ownCost_12 : decode cX6_ownCost 12 = .ok (.aload_n 0, 1) := by decide +kernel
theorem dX6_ownCost_13 : decode cX6_ownCost 13 = .ok (.getfield 38, 3) := by decide +kernel
theorem dX6_ownCost_16 : decode cX6_ownCost 16 = .ok (.sipush 180, 3) := by decide +kernel
theorem dX6_ownCost_19 : decode cX6_ownCost 19 = .ok (.iload_n 1, 1) := by decide +kernel
theorem dX6_ownCost_20 : decode cX6_ownCost 20 = .ok (.imul, 1) := by decide +kernel
theorem dX6_ownCost_21 : decode cX6_ownCost 21 = .ok (.iload_n 3, 1) := by decide +kernel
theorem dX6_ownCost_22 : decode cX6_ownCost 22 = .ok (.iadd, 1) := by decide +kernel
theorem dX6_ownCost_23 : decode cX6_ownCost 23 = .ok (.baload, 1) := by decide +kernel
theorem dX6_ownCost_24 : decode cX6_ownCost 24 = .ok (.ifCond .eq 17, 3) := by decide +kernel
theorem dX6_ownCost_27 : decode cX6_ownCost 27 = .ok (.aload_n 0, 1) := by decide +kernel
theorem dX6_ownCost_28 : decode cX6_ownCost 28 = .ok (.aload_n 0, 1) := by decide +kernel
theorem dX6_ownCost_29 : decode cX6_ownCost 29 = .ok (.iload_n 3, 1) := by decide +kernel
theorem dX6_ownCost_30 : decode cX6_ownCost 30 = .ok (.invokevirtual 112, 3) := by decide +kernel
theorem dX6_ownCost_33 : decode cX6_ownCost 33 = .ok (.iconst 1, 1) := by decide +kernel
theorem dX6_ownCost_34 : decode cX6_ownCost 34 = .ok (.isub, 1) := by decide +kernel
theorem dX6_ownCost_35 : decode cX6_ownCost 35 = .ok (.invokevirtual 125, 3) := by decide +kernel
theorem dX6_ownCost_38 : decode cX6_ownCost 38 = .ok (.goto 4, 3) := by decide +kernel
theorem dX6_ownCost_41 : decode cX6_ownCost 41 = .ok (.iconst 0, 1) := by decide +kernel
theorem dX6_ownCost_42 : decode cX6_ownCost 42 = .ok (.iadd, 1) := by decide +kernel
theorem dX6_ownCost_43 : decode cX6_ownCost 43 = .ok (.istore_n 2, 1) := by decide +kernel
theorem dX6_ownCost_44 : decode cX6_ownCost 44 = .ok (.iinc 3 1, 3) := by decide +kernel
theorem dX6_ownCost_47 : decode cX6_ownCost 47 = .ok (.goto (-43), 3) := by decide +kernel
theorem dX6_ownCost_50 : decode cX6_ownCost 50 = .ok (.iload_n 2, 1) := by decide +kernel
theorem dX6_ownCost_51 : decode cX6_ownCost 51 = .ok (.ireturn, 1) := by decide +kernel
theorem dX6_find_0 : decode cX6_find 0 = .ok (.iconst 0, 1) := by decide +kernel
theorem dX6_find_1 : decode cX6_find 1 = .ok (.istore_n 2, 1) := by decide +kernel
theorem dX6_find_2 : decode cX6_find 2 = .ok (.iload_n 2, 1) := by decide +kernel
theorem dX6_find_3 : decode cX6_find 3 = .ok (.sipush 180, 3) := by decide +kernel
theorem dX6_find_6 : decode cX6_find 6 = .ok (.if_icmp .ge 24, 3) := by decide +kernel
theorem dX6_find_9 : decode cX6_find 9 = .ok (.aload_n 0, 1) := by decide +kernel
theorem dX6_find_10 : decode cX6_find 10 = .ok (.getfield 50, 3) := by decide +kernel
theorem dX6_find_13 : decode cX6_find 13 = .ok (.iload_n 2, 1) := by decide +kernel
theorem dX6_find_14 : decode cX6_find 14 = .ok (.aload_n 0, 1) := by decide +kernel
theorem dX6_find_15 : decode cX6_find 15 = .ok (.aload_n 0, 1) := by decide +kernel
theorem dX6_find_16 : decode cX6_find 16 = .ok (.iload_n 2, 1) := by decide +kernel
theorem dX6_find_17 : decode cX6_find 17 = .ok (.invokevirtual 112, 3) := by decide +kernel
theorem dX6_find_20 : decode cX6_find 20 = .ok (.invokevirtual 125, 3) := by decide +kernel
theorem dX6_find_23 : decode cX6_find 23 = .ok (.iastore, 1) := by decide +kernel
theorem dX6_find_24 : decode cX6_find 24 = .ok (.iinc 2 1, 3) := by decide +kernel
theorem dX6_find_27 : decode cX6_find 27 = .ok (.goto (-25), 3) := by decide +kernel
theorem dX6_find_30 : decode cX6_find 30 = .ok (.iconst 0, 1) := by decide +kernel
theorem dX6_find_31 : decode cX6_find 31 = .ok (.istore_n 2, 1) := by decide +kernel
theorem dX6_find_32 : decode cX6_find 32 = .ok (.iload_n 2, 1) := by decide +kernel
theorem dX6_find_33 : decode cX6_find 33 = .ok (.bipush 100, 2) := by decide +kernel
theorem dX6_find_35 : decode cX6_find 35 = .ok (.if_icmp .ge 17, 3) := by decide +kernel
theorem dX6_find_38 : decode cX6_find 38 = .ok (.aload_n 0, 1) := by decide +kernel
theorem dX6_find_39 : decode cX6_find 39 = .ok (.getfield 44, 3) := by decide +kernel
theorem dX6_find_42 : decode cX6_find 42 = .ok (.iload_n 2, 1) := by decide +kernel
theorem dX6_find_43 : decode cX6_find 43 = .ok (.ldc 93, 2) := by decide +kernel
theorem dX6_find_45 : decode cX6_find 45 = .ok (.iastore, 1) := by decide +kernel
theorem dX6_find_46 : decode cX6_find 46 = .ok (.iinc 2 1, 3) := by decide +kernel
theorem dX6_find_49 : decode cX6_find 49 = .ok (.goto (-17), 3) := by decide +kernel
theorem dX6_find_52 : decode cX6_find 52 = .ok (.aload_n 0, 1) := by decide +kernel
theorem dX6_find_53 : decode cX6_find 53 = .ok (.getfield 44, 3) := by decide +kernel
theorem dX6_find_56 : decode cX6_find 56 = .ok (.aload_n 0, 1) := by decide +kernel
theorem dX6_find_57 : decode cX6_find 57 = .ok (.getfield 23, 3) := by decide +kernel
theorem dX6_find_60 : decode cX6_find 60 = .ok (.aload_n 0, 1) := by decide +kernel
theorem dX6_find_61 : decode cX6_find 61 = .ok (.getfield 29, 3) := by decide +kernel
theorem dX6_find_64 : decode cX6_find 64 = .ok (.iload_n 1, 1) := by decide +kernel
theorem dX6_find_65 : decode cX6_find 65 = .ok (.iaload, 1) := by decide +kernel
theorem dX6_find_66 : decode cX6_find 66 = .ok (.iaload, 1) := by decide +kernel
theorem dX6_find_67 : decode cX6_find 67 = .ok (.iconst 0, 1) := by decide +kernel
theorem dX6_find_68 : decode cX6_find 68 = .ok (.iastore, 1) := by decide +kernel
theorem dX6_find_69 : decode cX6_find 69 = .ok (.aload_n 0, 1) := by decide +kernel
theorem dX6_find_70 : decode cX6_find 70 = .ok (.getfield 47, 3) := by decide +kernel
theorem dX6_find_73 : decode cX6_find 73 = .ok (.aload_n 0, 1) := by decide +kernel
theorem dX6_find_74 : decode cX6_find 74 = .ok (.getfield 23, 3) := by decide +kernel
theorem dX6_find_77 : decode cX6_find 77 = .ok (.aload_n 0, 1) := by decide +kernel
theorem dX6_find_78 : decode cX6_find 78 = .ok (.getfield 29, 3) := by decide +kernel
theorem dX6_find_81 : decode cX6_find 81 = .ok (.iload_n 1, 1) := by decide +kernel
theorem dX6_find_82 : decode cX6_find 82 = .ok (.iaload, 1) := by decide +kernel
theorem dX6_find_83 : decode cX6_find 83 = .ok (.iaload, 1) := by decide +kernel
theorem dX6_find_84 : decode cX6_find 84 = .ok (.iconst 0, 1) := by decide +kernel
theorem dX6_find_85 : decode cX6_find 85 = .ok (.iastore, 1) := by decide +kernel
theorem dX6_find_86 : decode cX6_find 86 = .ok (.iconst 1, 1) := by decide +kernel
theorem dX6_find_87 : decode cX6_find 87 = .ok (.istore_n 2, 1) := by decide +kernel
theorem dX6_find_88 : decode cX6_find 88 = .ok (.iload_n 2, 1) := by decide +kernel
theorem dX6_find_89 : decode cX6_find 89 = .ok (.ifCond .eq 167, 3) := by decide +kernel
end
section
theorem dX6_find_92 : decode cX6_find 92 = .ok (.iconst 0, 1) := by decide +kernel
theorem dX6_find_93 : decode cX6_find 93 = .ok (.istore_n 2, 1) := by decide +kernel
theorem dX6_find_94 : decode cX6_find 94 = .ok (.iconst 0, 1) := by decide +kernel
theorem dX6_find_95 : decode cX6_find 95 = .ok (.istore_n 3, 1) := by decide +kernel
theorem dX6_find_96 : decode cX6_find 96 = .ok (.iload_n 3, 1) := by decide +kernel
theorem dX6_find_97 : decode cX6_find 97 = .ok (.bipush 100, 2) := by decide +kernel
theorem dX6_find_99 : decode cX6_find 99 = .ok (.if_icmp .ge 154, 3) := by decide +kernel
theorem dX6_find_102 : decode cX6_find 102 = .ok (.iconst 0, 1) := by decide +kernel
theorem dX6_find_103 : decode cX6_find 103 = .ok (.istore 4, 2) := by decide +kernel
theorem dX6_find_105 : decode cX6_find 105 = .ok (.iload 4, 2) := by decide +kernel
theorem dX6_find_107 : decode cX6_find 107 = .ok (.iconst 4, 1) := by decide +kernel
theorem dX6_find_108 : decode cX6_find 108 = .ok (.if_icmp .ge 139, 3) := by decide +kernel
theorem dX6_find_111 : decode cX6_find 111 = .ok (.aload_n 0, 1) := by decide +kernel
theorem dX6_find_112 : decode cX6_find 112 = .ok (.getfield 19, 3) := by decide +kernel
theorem dX6_find_115 : decode cX6_find 115 = .ok (.iload_n 3, 1) := by decide +kernel
theorem dX6_find_116 : decode cX6_find 116 = .ok (.baload, 1) := by decide +kernel
theorem dX6_find_117 : decode cX6_find 117 = .ok (.ifCond .ne 130, 3) := by decide +kernel
theorem dX6_find_120 : decode cX6_find 120 = .ok (.iload_n 3, 1) := by decide +kernel
theorem dX6_find_121 : decode cX6_find 121 = .ok (.iload 4, 2) := by decide +kernel
theorem dX6_find_123 : decode cX6_find 123 = .ok (.invokestatic 105, 3) := by decide +kernel
theorem dX6_find_126 : decode cX6_find 126 = .ok (.istore 5, 2) := by decide +kernel
theorem dX6_find_128 : decode cX6_find 128 = .ok (.iload 5, 2) := by decide +kernel
theorem dX6_find_130 : decode cX6_find 130 = .ok (.ldc 93, 2) := by decide +kernel
theorem dX6_find_132 : decode cX6_find 132 = .ok (.if_icmp .eq 109, 3) := by decide +kernel
theorem dX6_find_135 : decode cX6_find 135 = .ok (.aload_n 0, 1) := by decide +kernel
theorem dX6_find_136 : decode cX6_find 136 = .ok (.getfield 44, 3) := by decide +kernel
theorem dX6_find_139 : decode cX6_find 139 = .ok (.iload 5, 2) := by decide +kernel
theorem dX6_find_141 : decode cX6_find 141 = .ok (.iaload, 1) := by decide +kernel
theorem dX6_find_142 : decode cX6_find 142 = .ok (.ldc 93, 2) := by decide +kernel
theorem dX6_find_144 : decode cX6_find 144 = .ok (.if_icmp .eq 97, 3) := by decide +kernel
theorem dX6_find_147 : decode cX6_find 147 = .ok (.aload_n 0, 1) := by decide +kernel
theorem dX6_find_148 : decode cX6_find 148 = .ok (.getfield 44, 3) := by decide +kernel
theorem dX6_find_151 : decode cX6_find 151 = .ok (.iload 5, 2) := by decide +kernel
theorem dX6_find_153 : decode cX6_find 153 = .ok (.iaload, 1) := by decide +kernel
theorem dX6_find_154 : decode cX6_find 154 = .ok (.aload_n 0, 1) := by decide +kernel
theorem dX6_find_155 : decode cX6_find 155 = .ok (.getfield 50, 3) := by decide +kernel
theorem dX6_find_158 : decode cX6_find 158 = .ok (.iload_n 3, 1) := by decide +kernel
theorem dX6_find_159 : decode cX6_find 159 = .ok (.iload 4, 2) := by decide +kernel
theorem dX6_find_161 : decode cX6_find 161 = .ok (.invokestatic 109, 3) := by decide +kernel
theorem dX6_find_164 : decode cX6_find 164 = .ok (.iaload, 1) := by decide +kernel
theorem dX6_find_165 : decode cX6_find 165 = .ok (.iadd, 1) := by decide +kernel
theorem dX6_find_166 : decode cX6_find 166 = .ok (.istore 6, 2) := by decide +kernel
theorem dX6_find_168 : decode cX6_find 168 = .ok (.aload_n 0, 1) := by decide +kernel
theorem dX6_find_169 : decode cX6_find 169 = .ok (.getfield 47, 3) := by decide +kernel
theorem dX6_find_172 : decode cX6_find 172 = .ok (.iload 5, 2) := by decide +kernel
theorem dX6_find_174 : decode cX6_find 174 = .ok (.iaload, 1) := by decide +kernel
theorem dX6_find_175 : decode cX6_find 175 = .ok (.iconst 1, 1) := by decide +kernel
theorem dX6_find_176 : decode cX6_find 176 = .ok (.iadd, 1) := by decide +kernel
theorem dX6_find_177 : decode cX6_find 177 = .ok (.istore 7, 2) := by decide +kernel
theorem dX6_find_179 : decode cX6_find 179 = .ok (.aload_n 0, 1) := by decide +kernel
theorem dX6_find_180 : decode cX6_find 180 = .ok (.getfield 44, 3) := by decide +kernel
theorem dX6_find_183 : decode cX6_find 183 = .ok (.iload_n 3, 1) := by decide +kernel
theorem dX6_find_184 : decode cX6_find 184 = .ok (.iaload, 1) := by decide +kernel
theorem dX6_find_185 : decode cX6_find 185 = .ok (.ldc 93, 2) := by decide +kernel
theorem dX6_find_187 : decode cX6_find 187 = .ok (.if_icmp .eq 36, 3) := by decide +kernel
theorem dX6_find_190 : decode cX6_find 190 = .ok (.iload 6, 2) := by decide +kernel
theorem dX6_find_192 : decode cX6_find 192 = .ok (.aload_n 0, 1) := by decide +kernel
theorem dX6_find_193 : decode cX6_find 193 = .ok (.getfield 44, 3) := by decide +kernel
theorem dX6_find_196 : decode cX6_find 196 = .ok (.iload_n 3, 1) := by decide +kernel
theorem dX6_find_197 : decode cX6_find 197 = .ok (.iaload, 1) := by decide +kernel
theorem dX6_find_198 : decode cX6_find 198 = .ok (.if_icmp .lt 25, 3) := by decide +kernel
theorem dX6_find_201 : decode cX6_find 201 = .ok (.iload 6, 2) := by decide +kernel
theorem dX6_find_203 : decode cX6_find 203 = .ok (.aload_n 0, 1) := by decide +kernel
theorem dX6_find_204 : decode cX6_find 204 = .ok (.getfield 44, 3) := by decide +kernel
theorem dX6_find_207 : decode cX6_find 207 = .ok (.iload_n 3, 1) := by decide +kernel
theorem dX6_find_208 : decode cX6_find 208 = .ok (.iaload, 1) := by decide +kernel
theorem dX6_find_209 : decode cX6_find 209 = .ok (.if_icmp .ne 32, 3) := by decide +kernel
theorem dX6_find_212 : decode cX6_find 212 = .ok (.iload 7, 2) := by decide +kernel
theorem dX6_find_214 : decode cX6_find 214 = .ok (.aload_n 0, 1) := by decide +kernel
theorem dX6_find_215 : decode cX6_find 215 = .ok (.getfield 47, 3) := by decide +kernel
theorem dX6_find_218 : decode cX6_find 218 = .ok (.iload_n 3, 1) := by decide +kernel
theorem dX6_find_219 : decode cX6_find 219 = .ok (.iaload, 1) := by decide +kernel
theorem dX6_find_220 : decode cX6_find 220 = .ok (.if_icmp .ge 21, 3) := by decide +kernel
theorem dX6_find_223 : decode cX6_find 223 = .ok (.aload_n 0, 1) := by decide +kernel
theorem dX6_find_224 : decode cX6_find 224 = .ok (.getfield 44, 3) := by decide +kernel
theorem dX6_find_227 : decode cX6_find 227 = .ok (.iload_n 3, 1) := by decide +kernel
theorem dX6_find_228 : decode cX6_find 228 = .ok (.iload 6, 2) := by decide +kernel
theorem dX6_find_230 : decode cX6_find 230 = .ok (.iastore, 1) := by decide +kernel
theorem dX6_find_231 : decode cX6_find 231 = .ok (.aload_n 0, 1) := by decide +kernel
theorem dX6_find_232 : decode cX6_find 232 = .ok (.getfield 47, 3) := by decide +kernel
theorem dX6_find_235 : decode cX6_find 235 = .ok (.iload_n 3, 1) := by decide +kernel
theorem dX6_find_236 : decode cX6_find 236 = .ok (.iload 7, 2) := by decide +kernel
theorem dX6_find_238 : decode cX6_find 238 = .ok (.iastore, 1) := by decide +kernel
theorem dX6_find_239 : decode cX6_find 239 = .ok (.iconst 1, 1) := by decide +kernel
theorem dX6_find_240 : decode cX6_find 240 = .ok (.istore_n 2, 1) := by decide +kernel
theorem dX6_find_241 : decode cX6_find 241 = .ok (.iinc 4 1, 3) := by decide +kernel
theorem dX6_find_244 : decode cX6_find 244 = .ok (.goto (-139), 3) := by decide +kernel
theorem dX6_find_247 : decode cX6_find 247 = .ok (.iinc 3 1, 3) := by decide +kernel
theorem dX6_find_250 : decode cX6_find 250 = .ok (.goto (-154), 3) := by decide +kernel
theorem dX6_find_253 : decode cX6_find 253 = .ok (.goto (-165), 3) := by decide +kernel
theorem dX6_find_256 : decode cX6_find 256 = .ok (.aload_n 0, 1) := by decide +kernel
theorem dX6_find_257 : decode cX6_find 257 = .ok (.getfield 44, 3) := by decide +kernel
theorem dX6_find_260 : decode cX6_find 260 = .ok (.aload_n 0, 1) := by decide +kernel
theorem dX6_find_261 : decode cX6_find 261 = .ok (.getfield 23, 3) := by decide +kernel
theorem dX6_find_264 : decode cX6_find 264 = .ok (.aload_n 0, 1) := by decide +kernel
theorem dX6_find_265 : decode cX6_find 265 = .ok (.getfield 26, 3) := by decide +kernel
theorem dX6_find_268 : decode cX6_find 268 = .ok (.iload_n 1, 1) := by decide +kernel
theorem dX6_find_269 : decode cX6_find 269 = .ok (.iaload, 1) := by decide +kernel
theorem dX6_find_270 : decode cX6_find 270 = .ok (.iaload, 1) := by decide +kernel
theorem dX6_find_271 : decode cX6_find 271 = .ok (.iaload, 1) := by decide +kernel
theorem dX6_find_272 : decode cX6_find 272 = .ok (.ldc 93, 2) := by decide +kernel
theorem dX6_find_274 : decode cX6_find 274 = .ok (.if_icmp .eq 7, 3) := by decide +kernel
theorem dX6_find_277 : decode cX6_find 277 = .ok (.iconst 1, 1) := by decide +kernel
theorem dX6_find_278 : decode cX6_find 278 = .ok (.goto 4, 3) := by decide +kernel
theorem dX6_find_281 : decode cX6_find 281 = .ok (.iconst 0, 1) := by decide +kernel
theorem dX6_find_282 : decode cX6_find 282 = .ok (.ireturn, 1) := by decide +kernel
theorem dX6_follow_0 : decode cX6_follow 0 = .ok (.aload_n 0, 1) := by decide +kernel
theorem dX6_follow_1 : decode cX6_follow 1 = .ok (.getfield 23, 3) := by decide +kernel
theorem dX6_follow_4 : decode cX6_follow 4 = .ok (.aload_n 0, 1) := by decide +kernel
theorem dX6_follow_5 : decode cX6_follow 5 = .ok (.getfield 26, 3) := by decide +kernel
theorem dX6_follow_8 : decode cX6_follow 8 = .ok (.iload_n 1, 1) := by decide +kernel
theorem dX6_follow_9 : decode cX6_follow 9 = .ok (.iaload, 1) := by decide +kernel
theorem dX6_follow_10 : decode cX6_follow 10 = .ok (.iaload, 1) := by decide +kernel
theorem dX6_follow_11 : decode cX6_follow 11 = .ok (.istore_n 2, 1) := by decide +kernel
theorem dX6_follow_12 : decode cX6_follow 12 = .ok (.iconst 0, 1) := by decide +kernel
theorem dX6_follow_13 : decode cX6_follow 13 = .ok (.istore_n 3, 1) := by decide +kernel
theorem dX6_follow_14 : decode cX6_follow 14 = .ok (.iload_n 2, 1) := by decide +kernel
theorem dX6_follow_15 : decode cX6_follow 15 = .ok (.aload_n 0, 1) := by decide +kernel
theorem dX6_follow_16 : decode cX6_follow 16 = .ok (.getfield 23, 3) := by decide +kernel
theorem dX6_follow_19 : decode cX6_follow 19 = .ok (.aload_n 0, 1) := by decide +kernel
theorem dX6_follow_20 : decode cX6_follow 20 = .ok (.getfield 29, 3) := by decide +kernel
theorem dX6_follow_23 : decode cX6_follow 23 = .ok (.iload_n 1, 1) := by decide +kernel
theorem dX6_follow_24 : decode cX6_follow 24 = .ok (.iaload, 1) := by decide +kernel
theorem dX6_follow_25 : decode cX6_follow 25 = .ok (.iaload, 1) := by decide +kernel
theorem dX6_follow_26 : decode cX6_follow 26 = .ok (.if_icmp .eq 147, 3) := by decide +kernel
theorem dX6_follow_29 : decode cX6_follow 29 = .ok (.ldc 93, 2) := by decide +kernel
theorem dX6_follow_31 : decode cX6_follow 31 = .ok (.istore 4, 2) := by decide +kernel
theorem dX6_follow_33 : decode cX6_follow 33 = .ok (.iconst 3, 1) := by decide +kernel
theorem dX6_follow_34 : decode cX6_follow 34 = .ok (.istore 5, 2) := by decide +kernel
theorem dX6_follow_36 : decode cX6_follow 36 = .ok (.iload 5, 2) := by decide +kernel
theorem dX6_follow_38 : decode cX6_follow 38 = .ok (.ifCond .lt 91, 3) := by decide +kernel
theorem dX6_follow_41 : decode cX6_follow 41 = .ok (.iload_n 2, 1) := by decide +kernel
theorem dX6_follow_42 : decode cX6_follow 42 = .ok (.iload 5, 2) := by decide +kernel
theorem dX6_follow_44 : decode cX6_follow 44 = .ok (.invokestatic 105, 3) := by decide +kernel
theorem dX6_follow_47 : decode cX6_follow 47 = .ok (.istore 6, 2) := by decide +kernel
theorem dX6_follow_49 : decode cX6_follow 49 = .ok (.iload 6, 2) := by decide +kernel
theorem dX6_follow_51 : decode cX6_follow 51 = .ok (.ldc 93, 2) := by decide +kernel
theorem dX6_follow_53 : decode cX6_follow 53 = .ok (.if_icmp .eq 66, 3) := by decide +kernel
theorem dX6_follow_56 : decode cX6_follow 56 = .ok (.aload_n 0, 1) := by decide +kernel
theorem dX6_follow_57 : decode cX6_follow 57 = .ok (.getfield 44, 3) := by decide +kernel
theorem dX6_follow_60 : decode cX6_follow 60 = .ok (.iload 6, 2) := by decide +kernel
theorem dX6_follow_62 : decode cX6_follow 62 = .ok (.iaload, 1) := by decide +kernel
theorem dX6_follow_63 : decode cX6_follow 63 = .ok (.ldc 93, 2) := by decide +kernel
theorem dX6_follow_65 : decode cX6_follow 65 = .ok (.if_icmp .eq 54, 3) := by decide +kernel
theorem dX6_follow_68 : decode cX6_follow 68 = .ok (.aload_n 0, 1) := by decide +kernel
theorem dX6_follow_69 : decode cX6_follow 69 = .ok (.getfield 44, 3) := by decide +kernel
theorem dX6_follow_72 : decode cX6_follow 72 = .ok (.iload 6, 2) := by decide +kernel
theorem dX6_follow_74 : decode cX6_follow 74 = .ok (.iaload, 1) := by decide +kernel
theorem dX6_follow_75 : decode cX6_follow 75 = .ok (.aload_n 0, 1) := by decide +kernel
theorem dX6_follow_76 : decode cX6_follow 76 = .ok (.getfield 50, 3) := by decide +kernel
theorem dX6_follow_79 : decode cX6_follow 79 = .ok (.iload_n 2, 1) := by decide +kernel
theorem dX6_follow_80 : decode cX6_follow 80 = .ok (.iload 5, 2) := by decide +kernel
theorem dX6_follow_82 : decode cX6_follow 82 = .ok (.invokestatic 109, 3) := by decide +kernel
theorem dX6_follow_85 : decode cX6_follow 85 = .ok (.iaload, 1) := by decide +kernel
theorem dX6_follow_86 : decode cX6_follow 86 = .ok (.iadd, 1) := by decide +kernel
theorem dX6_follow_87 : decode cX6_follow 87 = .ok (.aload_n 0, 1) := by decide +kernel
theorem dX6_follow_88 : decode cX6_follow 88 = .ok (.getfield 44, 3) := by decide +kernel
theorem dX6_follow_91 : decode cX6_follow 91 = .ok (.iload_n 2, 1) := by decide +kernel
theorem dX6_follow_92 : decode cX6_follow 92 = .ok (.iaload, 1) := by decide +kernel
theorem dX6_follow_93 : decode cX6_follow 93 = .ok (.if_icmp .ne 26, 3) := by decide +kernel
theorem dX6_follow_96 : decode cX6_follow 96 = .ok (.aload_n 0, 1) := by decide +kernel
theorem dX6_follow_97 : decode cX6_follow 97 = .ok (.getfield 47, 3) := by decide +kernel
theorem dX6_follow_100 : decode cX6_follow 100 = .ok (.iload 6, 2) := by decide +kernel
theorem dX6_follow_102 : decode cX6_follow 102 = .ok (.iaload, 1) := by decide +kernel
theorem dX6_follow_103 : decode cX6_follow 103 = .ok (.iconst 1, 1) := by decide +kernel
theorem dX6_follow_104 : decode cX6_follow 104 = .ok (.iadd, 1) := by decide +kernel
theorem dX6_follow_105 : decode cX6_follow 105 = .ok (.aload_n 0, 1) := by decide +kernel
theorem dX6_follow_106 : decode cX6_follow 106 = .ok (.getfield 47, 3) := by decide +kernel
theorem dX6_follow_109 : decode cX6_follow 109 = .ok (.iload_n 2, 1) := by decide +kernel
theorem dX6_follow_110 : decode cX6_follow 110 = .ok (.iaload, 1) := by decide +kernel
theorem dX6_follow_111 : decode cX6_follow 111 = .ok (.if_icmp .ne 8, 3) := by decide +kernel
theorem dX6_follow_114 : decode cX6_follow 114 = .ok (.iload 5, 2) := by decide +kernel
theorem dX6_follow_116 : decode cX6_follow 116 = .ok (.goto 5, 3) := by decide +kernel
theorem dX6_follow_119 : decode cX6_follow 119 = .ok (.iload 4, 2) := by decide +kernel
theorem dX6_follow_121 : decode cX6_follow 121 = .ok (.istore 4, 2) := by decide +kernel
theorem dX6_follow_123 : decode cX6_follow 123 = .ok (.iinc 5 (-1), 3) := by decide +kernel
theorem dX6_follow_126 : decode cX6_follow 126 = .ok (.goto (-90), 3) := by decide +kernel
theorem dX6_follow_129 : decode cX6_follow 129 = .ok (.aload_n 0, 1) := by decide +kernel
theorem dX6_follow_130 : decode cX6_follow 130 = .ok (.getfield 35, 3) := by decide +kernel
theorem dX6_follow_133 : decode cX6_follow 133 = .ok (.bipush 100, 2) := by decide +kernel
theorem dX6_follow_135 : decode cX6_follow 135 = .ok (.iload_n 1, 1) := by decide +kernel
theorem dX6_follow_136 : decode cX6_follow 136 = .ok (.imul, 1) := by decide +kernel
theorem dX6_follow_137 : decode cX6_follow 137 = .ok (.iload_n 3, 1) := by decide +kernel
theorem dX6_follow_138 : decode cX6_follow 138 = .ok (.iadd, 1) := by decide +kernel
theorem dX6_follow_139 : decode cX6_follow 139 = .ok (.iload 4, 2) := by decide +kernel
theorem dX6_follow_141 : decode cX6_follow 141 = .ok (.iastore, 1) := by decide +kernel
theorem dX6_follow_142 : decode cX6_follow 142 = .ok (.aload_n 0, 1) := by decide +kernel
theorem dX6_follow_143 : decode cX6_follow 143 = .ok (.getfield 38, 3) := by decide +kernel
theorem dX6_follow_146 : decode cX6_follow 146 = .ok (.sipush 180, 3) := by decide +kernel
theorem dX6_follow_149 : decode cX6_follow 149 = .ok (.iload_n 1, 1) := by decide +kernel
theorem dX6_follow_150 : decode cX6_follow 150 = .ok (.imul, 1) := by decide +kernel
theorem dX6_follow_151 : decode cX6_follow 151 = .ok (.iload_n 2, 1) := by decide +kernel
theorem dX6_follow_152 : decode cX6_follow 152 = .ok (.iload 4, 2) := by decide +kernel
theorem dX6_follow_154 : decode cX6_follow 154 = .ok (.invokestatic 109, 3) := by decide +kernel
theorem dX6_follow_157 : decode cX6_follow 157 = .ok (.iadd, 1) := by decide +kernel
theorem dX6_follow_158 : decode cX6_follow 158 = .ok (.iconst 1, 1) := by decide +kernel
theorem dX6_follow_159 : decode cX6_follow 159 = .ok (.bastore, 1) := by decide +kernel
theorem dX6_follow_160 : decode cX6_follow 160 = .ok (.iinc 3 1, 3) := by decide +kernel
theorem dX6_follow_163 : decode cX6_follow 163 = .ok (.iload_n 2, 1) := by decide +kernel
theorem dX6_follow_164 : decode cX6_follow 164 = .ok (.iload 4, 2) := by decide +kernel
theorem dX6_follow_166 : decode cX6_follow 166 = .ok (.invokestatic 105, 3) := by decide +kernel
theorem dX6_follow_169 : decode cX6_follow 169 = .ok (.istore_n 2, 1) := by decide +kernel
theorem dX6_follow_170 : decode cX6_follow 170 = .ok (.goto (-156), 3) := by decide +kernel
theorem dX6_follow_173 : decode cX6_follow 173 = .ok (.aload_n 0, 1) := by decide +kernel
theorem dX6_follow_174 : decode cX6_follow 174 = .ok (.getfield 32, 3) := by decide +kernel
theorem dX6_follow_177 : decode cX6_follow 177 = .ok (.iload_n 1, 1) := by decide +kernel
theorem dX6_follow_178 : decode cX6_follow 178 = .ok (.iload_n 3, 1) := by decide +kernel
theorem dX6_follow_179 : decode cX6_follow 179 = .ok (.iastore, 1) := by decide +kernel
theorem dX6_follow_180 : decode cX6_follow 180 = .ok (.return_, 1) := by decide +kernel
theorem dX6_lead_0 : decode cX6_lead 0 = .ok (.aload_n 0, 1) := by decide +kernel
theorem dX6_lead_1 : decode cX6_lead 1 = .ok (.iconst 0, 1) := by decide +kernel
theorem dX6_lead_2 : decode cX6_lead 2 = .ok (.putfield 62, 3) := by decide +kernel
theorem dX6_lead_5 : decode cX6_lead 5 = .ok (.aload_n 0, 1) := by decide +kernel
theorem dX6_lead_6 : decode cX6_lead 6 = .ok (.iload_n 1, 1) := by decide +kernel
theorem dX6_lead_7 : decode cX6_lead 7 = .ok (.invokevirtual 128, 3) := by decide +kernel
theorem dX6_lead_10 : decode cX6_lead 10 = .ok (.ifCond .ne 6, 3) := by decide +kernel
theorem dX6_lead_13 : decode cX6_lead 13 = .ok (.ldc 82, 2) := by decide +kernel
theorem dX6_lead_15 : decode cX6_lead 15 = .ok (.ireturn, 1) := by decide +kernel
theorem dX6_lead_16 : decode cX6_lead 16 = .ok (.aload_n 0, 1) := by decide +kernel
theorem dX6_lead_17 : decode cX6_lead 17 = .ok (.iload_n 1, 1) := by decide +kernel
theorem dX6_lead_18 : decode cX6_lead 18 = .ok (.invokevirtual 131, 3) := by decide +kernel
theorem dX6_lead_21 : decode cX6_lead 21 = .ok (.aload_n 0, 1) := by decide +kernel
theorem dX6_lead_22 : decode cX6_lead 22 = .ok (.iload_n 1, 1) := by decide +kernel
theorem dX6_lead_23 : decode cX6_lead 23 = .ok (.invokevirtual 135, 3) := by decide +kernel
theorem dX6_lead_26 : decode cX6_lead 26 = .ok (.ifCond .ne 6, 3) := by decide +kernel
theorem dX6_lead_29 : decode cX6_lead 29 = .ok (.ldc 93, 2) := by decide +kernel
theorem dX6_lead_31 : decode cX6_lead 31 = .ok (.ireturn, 1) := by decide +kernel
theorem dX6_lead_32 : decode cX6_lead 32 = .ok (.aload_n 0, 1) := by decide +kernel
theorem dX6_lead_33 : decode cX6_lead 33 = .ok (.iload_n 1, 1) := by decide +kernel
theorem dX6_lead_34 : decode cX6_lead 34 = .ok (.invokevirtual 138, 3) := by decide +kernel
theorem dX6_lead_37 : decode cX6_lead 37 = .ok (.aload_n 0, 1) := by decide +kernel
theorem dX6_lead_38 : decode cX6_lead 38 = .ok (.getfield 44, 3) := by decide +kernel
theorem dX6_lead_41 : decode cX6_lead 41 = .ok (.aload_n 0, 1) := by decide +kernel
theorem dX6_lead_42 : decode cX6_lead 42 = .ok (.getfield 23, 3) := by decide +kernel
theorem dX6_lead_45 : decode cX6_lead 45 = .ok (.aload_n 0, 1) := by decide +kernel
theorem dX6_lead_46 : decode cX6_lead 46 = .ok (.getfield 26, 3) := by decide +kernel
theorem dX6_lead_49 : decode cX6_lead 49 = .ok (.iload_n 1, 1) := by decide +kernel
theorem dX6_lead_50 : decode cX6_lead 50 = .ok (.iaload, 1) := by decide +kernel
theorem dX6_lead_51 : decode cX6_lead 51 = .ok (.iaload, 1) := by decide +kernel
theorem dX6_lead_52 : decode cX6_lead 52 = .ok (.iaload, 1) := by decide +kernel
theorem dX6_lead_53 : decode cX6_lead 53 = .ok (.ireturn, 1) := by decide +kernel
theorem dX6_lay_0 : decode cX6_lay 0 = .ok (.aload_n 0, 1) := by decide +kernel
theorem dX6_lay_1 : decode cX6_lay 1 = .ok (.iconst 0, 1) := by decide +kernel
theorem dX6_lay_2 : decode cX6_lay 2 = .ok (.putfield 62, 3) := by decide +kernel
theorem dX6_lay_5 : decode cX6_lay 5 = .ok (.aload_n 0, 1) := by decide +kernel
theorem dX6_lay_6 : decode cX6_lay 6 = .ok (.iload_n 1, 1) := by decide +kernel
theorem dX6_lay_7 : decode cX6_lay 7 = .ok (.invokevirtual 128, 3) := by decide +kernel
theorem dX6_lay_10 : decode cX6_lay 10 = .ok (.ifCond .eq 23, 3) := by decide +kernel
theorem dX6_lay_13 : decode cX6_lay 13 = .ok (.iload_n 2, 1) := by decide +kernel
theorem dX6_lay_14 : decode cX6_lay 14 = .ok (.invokestatic 76, 3) := by decide +kernel
theorem dX6_lay_17 : decode cX6_lay 17 = .ok (.ifCond .eq 16, 3) := by decide +kernel
theorem dX6_lay_20 : decode cX6_lay 20 = .ok (.iload 4, 2) := by decide +kernel
theorem dX6_lay_22 : decode cX6_lay 22 = .ok (.i2l, 1) := by decide +kernel
theorem dX6_lay_23 : decode cX6_lay 23 = .ok (.lconst 1, 1) := by decide +kernel
theorem dX6_lay_24 : decode cX6_lay 24 = .ok (.ldc2_w 141, 3) := by decide +kernel
theorem dX6_lay_27 : decode cX6_lay 27 = .ok (.invokestatic 72, 3) := by decide +kernel
theorem dX6_lay_30 : decode cX6_lay 30 = .ok (.ifCond .ne 6, 3) := by decide +kernel
theorem dX6_lay_33 : decode cX6_lay 33 = .ok (.ldc 82, 2) := by decide +kernel
theorem dX6_lay_35 : decode cX6_lay 35 = .ok (.ireturn, 1) := by decide +kernel
theorem dX6_lay_36 : decode cX6_lay 36 = .ok (.aload_n 0, 1) := by decide +kernel
theorem dX6_lay_37 : decode cX6_lay 37 = .ok (.getfield 7, 3) := by decide +kernel
theorem dX6_lay_40 : decode cX6_lay 40 = .ok (.iload_n 2, 1) := by decide +kernel
theorem dX6_lay_41 : decode cX6_lay 41 = .ok (.iaload, 1) := by decide +kernel
theorem dX6_lay_42 : decode cX6_lay 42 = .ok (.ifCond .ge 9, 3) := by decide +kernel
theorem dX6_lay_45 : decode cX6_lay 45 = .ok (.aload_n 0, 1) := by decide +kernel
theorem dX6_lay_46 : decode cX6_lay 46 = .ok (.iconst 1, 1) := by decide +kernel
theorem dX6_lay_47 : decode cX6_lay 47 = .ok (.invokevirtual 83, 3) := by decide +kernel
theorem dX6_lay_50 : decode cX6_lay 50 = .ok (.ireturn, 1) := by decide +kernel
theorem dX6_lay_51 : decode cX6_lay 51 = .ok (.iload_n 3, 1) := by decide +kernel
theorem dX6_lay_52 : decode cX6_lay 52 = .ok (.ifCond .lt 20, 3) := by decide +kernel
theorem dX6_lay_55 : decode cX6_lay 55 = .ok (.iload_n 3, 1) := by decide +kernel
theorem dX6_lay_56 : decode cX6_lay 56 = .ok (.i2l, 1) := by decide +kernel
theorem dX6_lay_57 : decode cX6_lay 57 = .ok (.iload 4, 2) := by decide +kernel
theorem dX6_lay_59 : decode cX6_lay 59 = .ok (.i2l, 1) := by decide +kernel
theorem dX6_lay_60 : decode cX6_lay 60 = .ok (.ladd, 1) := by decide +kernel
theorem dX6_lay_61 : decode cX6_lay 61 = .ok (.aload_n 0, 1) := by decide +kernel
theorem dX6_lay_62 : decode cX6_lay 62 = .ok (.getfield 13, 3) := by decide +kernel
theorem dX6_lay_65 : decode cX6_lay 65 = .ok (.iload_n 2, 1) := by decide +kernel
theorem dX6_lay_66 : decode cX6_lay 66 = .ok (.iaload, 1) := by decide +kernel
theorem dX6_lay_67 : decode cX6_lay 67 = .ok (.i2l, 1) := by decide +kernel
theorem dX6_lay_68 : decode cX6_lay 68 = .ok (.lcmp, 1) := by decide +kernel
theorem dX6_lay_69 : decode cX6_lay 69 = .ok (.ifCond .le 9, 3) := by decide +kernel
theorem dX6_lay_72 : decode cX6_lay 72 = .ok (.aload_n 0, 1) := by decide +kernel
theorem dX6_lay_73 : decode cX6_lay 73 = .ok (.iconst 2, 1) := by decide +kernel
theorem dX6_lay_74 : decode cX6_lay 74 = .ok (.invokevirtual 83, 3) := by decide +kernel
theorem dX6_lay_77 : decode cX6_lay 77 = .ok (.ireturn, 1) := by decide +kernel
theorem dX6_lay_78 : decode cX6_lay 78 = .ok (.iconst 0, 1) := by decide +kernel
theorem dX6_lay_79 : decode cX6_lay 79 = .ok (.istore 5, 2) := by decide +kernel
theorem dX6_lay_81 : decode cX6_lay 81 = .ok (.iload 5, 2) := by decide +kernel
theorem dX6_lay_83 : decode cX6_lay 83 = .ok (.bipush 100, 2) := by decide +kernel
theorem dX6_lay_85 : decode cX6_lay 85 = .ok (.if_icmp .ge 17, 3) := by decide +kernel
theorem dX6_lay_88 : decode cX6_lay 88 = .ok (.aload_n 0, 1) := by decide +kernel
theorem dX6_lay_89 : decode cX6_lay 89 = .ok (.getfield 47, 3) := by decide +kernel
theorem dX6_lay_92 : decode cX6_lay 92 = .ok (.iload 5, 2) := by decide +kernel
theorem dX6_lay_94 : decode cX6_lay 94 = .ok (.iconst 0, 1) := by decide +kernel
theorem dX6_lay_95 : decode cX6_lay 95 = .ok (.iastore, 1) := by decide +kernel
theorem dX6_lay_96 : decode cX6_lay 96 = .ok (.iinc 5 1, 3) := by decide +kernel
theorem dX6_lay_99 : decode cX6_lay 99 = .ok (.goto (-18), 3) := by decide +kernel
theorem dX6_lay_102 : decode cX6_lay 102 = .ok (.aload_n 0, 1) := by decide +kernel
theorem dX6_lay_103 : decode cX6_lay 103 = .ok (.getfield 23, 3) := by decide +kernel
theorem dX6_lay_106 : decode cX6_lay 106 = .ok (.aload_n 0, 1) := by decide +kernel
theorem dX6_lay_107 : decode cX6_lay 107 = .ok (.getfield 26, 3) := by decide +kernel
theorem dX6_lay_110 : decode cX6_lay 110 = .ok (.iload_n 1, 1) := by decide +kernel
theorem dX6_lay_111 : decode cX6_lay 111 = .ok (.iaload, 1) := by decide +kernel
theorem dX6_lay_112 : decode cX6_lay 112 = .ok (.iaload, 1) := by decide +kernel
theorem dX6_lay_113 : decode cX6_lay 113 = .ok (.istore 5, 2) := by decide +kernel
theorem dX6_lay_115 : decode cX6_lay 115 = .ok (.iconst 1, 1) := by decide +kernel
theorem dX6_lay_116 : decode cX6_lay 116 = .ok (.istore 6, 2) := by decide +kernel
theorem dX6_lay_118 : decode cX6_lay 118 = .ok (.iconst 0, 1) := by decide +kernel
theorem dX6_lay_119 : decode cX6_lay 119 = .ok (.istore 7, 2) := by decide +kernel
theorem dX6_lay_121 : decode cX6_lay 121 = .ok (.iload 7, 2) := by decide +kernel
theorem dX6_lay_123 : decode cX6_lay 123 = .ok (.iload 4, 2) := by decide +kernel
theorem dX6_lay_125 : decode cX6_lay 125 = .ok (.if_icmp .ge 135, 3) := by decide +kernel
theorem dX6_lay_128 : decode cX6_lay 128 = .ok (.iload 6, 2) := by decide +kernel
theorem dX6_lay_130 : decode cX6_lay 130 = .ok (.ifCond .eq 130, 3) := by decide +kernel
theorem dX6_lay_133 : decode cX6_lay 133 = .ok (.aload_n 0, 1) := by decide +kernel
theorem dX6_lay_134 : decode cX6_lay 134 = .ok (.getfield 47, 3) := by decide +kernel
theorem dX6_lay_137 : decode cX6_lay 137 = .ok (.iload 5, 2) := by decide +kernel
theorem dX6_lay_139 : decode cX6_lay 139 = .ok (.iconst 1, 1) := by decide +kernel
theorem dX6_lay_140 : decode cX6_lay 140 = .ok (.iastore, 1) := by decide +kernel
theorem dX6_lay_141 : decode cX6_lay 141 = .ok (.aload_n 0, 1) := by decide +kernel
theorem dX6_lay_142 : decode cX6_lay 142 = .ok (.getfield 16, 3) := by decide +kernel
theorem dX6_lay_145 : decode cX6_lay 145 = .ok (.bipush 60, 2) := by decide +kernel
theorem dX6_lay_147 : decode cX6_lay 147 = .ok (.iload_n 2, 1) := by decide +kernel
theorem dX6_lay_148 : decode cX6_lay 148 = .ok (.imul, 1) := by decide +kernel
theorem dX6_lay_149 : decode cX6_lay 149 = .ok (.iload_n 3, 1) := by decide +kernel
theorem dX6_lay_150 : decode cX6_lay 150 = .ok (.iadd, 1) := by decide +kernel
theorem dX6_lay_151 : decode cX6_lay 151 = .ok (.iload 7, 2) := by decide +kernel
theorem dX6_lay_153 : decode cX6_lay 153 = .ok (.iadd, 1) := by decide +kernel
theorem dX6_lay_154 : decode cX6_lay 154 = .ok (.iaload, 1) := by decide +kernel
theorem dX6_lay_155 : decode cX6_lay 155 = .ok (.istore 8, 2) := by decide +kernel
theorem dX6_lay_157 : decode cX6_lay 157 = .ok (.iload 8, 2) := by decide +kernel
theorem dX6_lay_159 : decode cX6_lay 159 = .ok (.i2l, 1) := by decide +kernel
theorem dX6_lay_160 : decode cX6_lay 160 = .ok (.lconst 0, 1) := by decide +kernel
theorem dX6_lay_161 : decode cX6_lay 161 = .ok (.ldc2_w 143, 3) := by decide +kernel
theorem dX6_lay_164 : decode cX6_lay 164 = .ok (.invokestatic 72, 3) := by decide +kernel
theorem dX6_lay_167 : decode cX6_lay 167 = .ok (.ifCond .eq 13, 3) := by decide +kernel
theorem dX6_lay_170 : decode cX6_lay 170 = .ok (.iload 5, 2) := by decide +kernel
theorem dX6_lay_172 : decode cX6_lay 172 = .ok (.iload 8, 2) := by decide +kernel
theorem dX6_lay_174 : decode cX6_lay 174 = .ok (.invokestatic 105, 3) := by decide +kernel
theorem dX6_lay_177 : decode cX6_lay 177 = .ok (.goto 5, 3) := by decide +kernel
theorem dX6_lay_180 : decode cX6_lay 180 = .ok (.ldc 93, 2) := by decide +kernel
theorem dX6_lay_182 : decode cX6_lay 182 = .ok (.istore 9, 2) := by decide +kernel
theorem dX6_lay_184 : decode cX6_lay 184 = .ok (.iload 9, 2) := by decide +kernel
theorem dX6_lay_186 : decode cX6_lay 186 = .ok (.ldc 93, 2) := by decide +kernel
theorem dX6_lay_188 : decode cX6_lay 188 = .ok (.if_icmp .eq 49, 3) := by decide +kernel
theorem dX6_lay_191 : decode cX6_lay 191 = .ok (.aload_n 0, 1) := by decide +kernel
theorem dX6_lay_192 : decode cX6_lay 192 = .ok (.getfield 19, 3) := by decide +kernel
theorem dX6_lay_195 : decode cX6_lay 195 = .ok (.iload 9, 2) := by decide +kernel
theorem dX6_lay_197 : decode cX6_lay 197 = .ok (.ldc 93, 2) := by decide +kernel
theorem dX6_lay_199 : decode cX6_lay 199 = .ok (.if_icmp .ne 7, 3) := by decide +kernel
theorem dX6_lay_202 : decode cX6_lay 202 = .ok (.iconst 0, 1) := by decide +kernel
theorem dX6_lay_203 : decode cX6_lay 203 = .ok (.goto 5, 3) := by decide +kernel
theorem dX6_lay_206 : decode cX6_lay 206 = .ok (.iload 9, 2) := by decide +kernel
theorem dX6_lay_208 : decode cX6_lay 208 = .ok (.baload, 1) := by decide +kernel
theorem dX6_lay_209 : decode cX6_lay 209 = .ok (.ifCond .ne 28, 3) := by decide +kernel
theorem dX6_lay_212 : decode cX6_lay 212 = .ok (.aload_n 0, 1) := by decide +kernel
theorem dX6_lay_213 : decode cX6_lay 213 = .ok (.getfield 47, 3) := by decide +kernel
theorem dX6_lay_216 : decode cX6_lay 216 = .ok (.iload 9, 2) := by decide +kernel
theorem dX6_lay_218 : decode cX6_lay 218 = .ok (.ldc 93, 2) := by decide +kernel
theorem dX6_lay_220 : decode cX6_lay 220 = .ok (.if_icmp .ne 7, 3) := by decide +kernel
theorem dX6_lay_223 : decode cX6_lay 223 = .ok (.iconst 0, 1) := by decide +kernel
theorem dX6_lay_224 : decode cX6_lay 224 = .ok (.goto 5, 3) := by decide +kernel
theorem dX6_lay_227 : decode cX6_lay 227 = .ok (.iload 9, 2) := by decide +kernel
theorem dX6_lay_229 : decode cX6_lay 229 = .ok (.iaload, 1) := by decide +kernel
theorem dX6_lay_230 : decode cX6_lay 230 = .ok (.ifCond .ne 7, 3) := by decide +kernel
theorem dX6_lay_233 : decode cX6_lay 233 = .ok (.iconst 1, 1) := by decide +kernel
theorem dX6_lay_234 : decode cX6_lay 234 = .ok (.goto 4, 3) := by decide +kernel
theorem dX6_lay_237 : decode cX6_lay 237 = .ok (.iconst 0, 1) := by decide +kernel
theorem dX6_lay_238 : decode cX6_lay 238 = .ok (.istore 6, 2) := by decide +kernel
theorem dX6_lay_240 : decode cX6_lay 240 = .ok (.iload 6, 2) := by decide +kernel
theorem dX6_lay_242 : decode cX6_lay 242 = .ok (.ifCond .eq 8, 3) := by decide +kernel
theorem dX6_lay_245 : decode cX6_lay 245 = .ok (.iload 9, 2) := by decide +kernel
theorem dX6_lay_247 : decode cX6_lay 247 = .ok (.goto 5, 3) := by decide +kernel
theorem dX6_lay_250 : decode cX6_lay 250 = .ok (.iload 5, 2) := by decide +kernel
theorem dX6_lay_252 : decode cX6_lay 252 = .ok (.istore 5, 2) := by decide +kernel
theorem dX6_lay_254 : decode cX6_lay 254 = .ok (.iinc 7 1, 3) := by decide +kernel
theorem dX6_lay_257 : decode cX6_lay 257 = .ok (.goto (-136), 3) := by decide +kernel
theorem dX6_lay_260 : decode cX6_lay 260 = .ok (.iload 6, 2) := by decide +kernel
theorem dX6_lay_262 : decode cX6_lay 262 = .ok (.ifCond .eq 19, 3) := by decide +kernel
theorem dX6_lay_265 : decode cX6_lay 265 = .ok (.iload 5, 2) := by decide +kernel
theorem dX6_lay_267 : decode cX6_lay 267 = .ok (.aload_n 0, 1) := by decide +kernel
theorem dX6_lay_268 : decode cX6_lay 268 = .ok (.getfield 23, 3) := by decide +kernel
theorem dX6_lay_271 : decode cX6_lay 271 = .ok (.aload_n 0, 1) := by decide +kernel
theorem dX6_lay_272 : decode cX6_lay 272 = .ok (.getfield 29, 3) := by decide +kernel
theorem dX6_lay_275 : decode cX6_lay 275 = .ok (.iload_n 1, 1) := by decide +kernel
theorem dX6_lay_276 : decode cX6_lay 276 = .ok (.iaload, 1) := by decide +kernel
theorem dX6_lay_277 : decode cX6_lay 277 = .ok (.iaload, 1) := by decide +kernel
theorem dX6_lay_278 : decode cX6_lay 278 = .ok (.if_icmp .eq 6, 3) := by decide +kernel
theorem dX6_lay_281 : decode cX6_lay 281 = .ok (.ldc 82, 2) := by decide +kernel
theorem dX6_lay_283 : decode cX6_lay 283 = .ok (.ireturn, 1) := by decide +kernel
theorem dX6_lay_284 : decode cX6_lay 284 = .ok (.aload_n 0, 1) := by decide +kernel
theorem dX6_lay_285 : decode cX6_lay 285 = .ok (.iconst 0, 1) := by decide +kernel
theorem dX6_lay_286 : decode cX6_lay 286 = .ok (.putfield 66, 3) := by decide +kernel
theorem dX6_lay_289 : decode cX6_lay 289 = .ok (.aload_n 0, 1) := by decide +kernel
theorem dX6_lay_290 : decode cX6_lay 290 = .ok (.iload_n 1, 1) := by decide +kernel
theorem dX6_lay_291 : decode cX6_lay 291 = .ok (.invokevirtual 131, 3) := by decide +kernel
theorem dX6_lay_294 : decode cX6_lay 294 = .ok (.aload_n 0, 1) := by decide +kernel
theorem dX6_lay_295 : decode cX6_lay 295 = .ok (.getfield 23, 3) := by decide +kernel
theorem dX6_lay_298 : decode cX6_lay 298 = .ok (.aload_n 0, 1) := by decide +kernel
theorem dX6_lay_299 : decode cX6_lay 299 = .ok (.getfield 26, 3) := by decide +kernel
theorem dX6_lay_302 : decode cX6_lay 302 = .ok (.iload_n 1, 1) := by decide +kernel
theorem dX6_lay_303 : decode cX6_lay 303 = .ok (.iaload, 1) := by decide +kernel
theorem dX6_lay_304 : decode cX6_lay 304 = .ok (.iaload, 1) := by decide +kernel
theorem dX6_lay_305 : decode cX6_lay 305 = .ok (.istore 5, 2) := by decide +kernel
theorem dX6_lay_307 : decode cX6_lay 307 = .ok (.iconst 0, 1) := by decide +kernel
theorem dX6_lay_308 : decode cX6_lay 308 = .ok (.istore 7, 2) := by decide +kernel
theorem dX6_lay_310 : decode cX6_lay 310 = .ok (.iload 7, 2) := by decide +kernel
theorem dX6_lay_312 : decode cX6_lay 312 = .ok (.iload 4, 2) := by decide +kernel
theorem dX6_lay_314 : decode cX6_lay 314 = .ok (.if_icmp .ge 67, 3) := by decide +kernel
theorem dX6_lay_317 : decode cX6_lay 317 = .ok (.aload_n 0, 1) := by decide +kernel
theorem dX6_lay_318 : decode cX6_lay 318 = .ok (.getfield 16, 3) := by decide +kernel
theorem dX6_lay_321 : decode cX6_lay 321 = .ok (.bipush 60, 2) := by decide +kernel
theorem dX6_lay_323 : decode cX6_lay 323 = .ok (.iload_n 2, 1) := by decide +kernel
theorem dX6_lay_324 : decode cX6_lay 324 = .ok (.imul, 1) := by decide +kernel
theorem dX6_lay_325 : decode cX6_lay 325 = .ok (.iload_n 3, 1) := by decide +kernel
theorem dX6_lay_326 : decode cX6_lay 326 = .ok (.iadd, 1) := by decide +kernel
theorem dX6_lay_327 : decode cX6_lay 327 = .ok (.iload 7, 2) := by decide +kernel
theorem dX6_lay_329 : decode cX6_lay 329 = .ok (.iadd, 1) := by decide +kernel
theorem dX6_lay_330 : decode cX6_lay 330 = .ok (.iaload, 1) := by decide +kernel
theorem dX6_lay_331 : decode cX6_lay 331 = .ok (.istore 8, 2) := by decide +kernel
theorem dX6_lay_333 : decode cX6_lay 333 = .ok (.aload_n 0, 1) := by decide +kernel
theorem dX6_lay_334 : decode cX6_lay 334 = .ok (.getfield 35, 3) := by decide +kernel
theorem dX6_lay_337 : decode cX6_lay 337 = .ok (.bipush 100, 2) := by decide +kernel
theorem dX6_lay_339 : decode cX6_lay 339 = .ok (.iload_n 1, 1) := by decide +kernel
theorem dX6_lay_340 : decode cX6_lay 340 = .ok (.imul, 1) := by decide +kernel
theorem dX6_lay_341 : decode cX6_lay 341 = .ok (.iload 7, 2) := by decide +kernel
theorem dX6_lay_343 : decode cX6_lay 343 = .ok (.iadd, 1) := by decide +kernel
theorem dX6_lay_344 : decode cX6_lay 344 = .ok (.iload 8, 2) := by decide +kernel
theorem dX6_lay_346 : decode cX6_lay 346 = .ok (.iastore, 1) := by decide +kernel
theorem dX6_lay_347 : decode cX6_lay 347 = .ok (.aload_n 0, 1) := by decide +kernel
theorem dX6_lay_348 : decode cX6_lay 348 = .ok (.getfield 38, 3) := by decide +kernel
theorem dX6_lay_351 : decode cX6_lay 351 = .ok (.sipush 180, 3) := by decide +kernel
theorem dX6_lay_354 : decode cX6_lay 354 = .ok (.iload_n 1, 1) := by decide +kernel
theorem dX6_lay_355 : decode cX6_lay 355 = .ok (.imul, 1) := by decide +kernel
theorem dX6_lay_356 : decode cX6_lay 356 = .ok (.iload 5, 2) := by decide +kernel
theorem dX6_lay_358 : decode cX6_lay 358 = .ok (.iload 8, 2) := by decide +kernel
theorem dX6_lay_360 : decode cX6_lay 360 = .ok (.invokestatic 109, 3) := by decide +kernel
theorem dX6_lay_363 : decode cX6_lay 363 = .ok (.iadd, 1) := by decide +kernel
theorem dX6_lay_364 : decode cX6_lay 364 = .ok (.iconst 1, 1) := by decide +kernel
theorem dX6_lay_365 : decode cX6_lay 365 = .ok (.bastore, 1) := by decide +kernel
theorem dX6_lay_366 : decode cX6_lay 366 = .ok (.iload 5, 2) := by decide +kernel
theorem dX6_lay_368 : decode cX6_lay 368 = .ok (.iload 8, 2) := by decide +kernel
theorem dX6_lay_370 : decode cX6_lay 370 = .ok (.invokestatic 105, 3) := by decide +kernel
theorem dX6_lay_373 : decode cX6_lay 373 = .ok (.istore 5, 2) := by decide +kernel
theorem dX6_lay_375 : decode cX6_lay 375 = .ok (.iinc 7 1, 3) := by decide +kernel
theorem dX6_lay_378 : decode cX6_lay 378 = .ok (.goto (-68), 3) := by decide +kernel
theorem dX6_lay_381 : decode cX6_lay 381 = .ok (.aload_n 0, 1) := by decide +kernel
theorem dX6_lay_382 : decode cX6_lay 382 = .ok (.getfield 32, 3) := by decide +kernel
theorem dX6_lay_385 : decode cX6_lay 385 = .ok (.iload_n 1, 1) := by decide +kernel
theorem dX6_lay_386 : decode cX6_lay 386 = .ok (.iload 4, 2) := by decide +kernel
theorem dX6_lay_388 : decode cX6_lay 388 = .ok (.iastore, 1) := by decide +kernel
theorem dX6_lay_389 : decode cX6_lay 389 = .ok (.iconst 1, 1) := by decide +kernel
theorem dX6_lay_390 : decode cX6_lay 390 = .ok (.ireturn, 1) := by decide +kernel
theorem dX6_take_0 : decode cX6_take 0 = .ok (.aload_n 0, 1) := by decide +kernel
theorem dX6_take_1 : decode cX6_take 1 = .ok (.iconst 0, 1) := by decide +kernel
theorem dX6_take_2 : decode cX6_take 2 = .ok (.putfield 62, 3) := by decide +kernel
theorem dX6_take_5 : decode cX6_take 5 = .ok (.aload_n 0, 1) := by decide +kernel
theorem dX6_take_6 : decode cX6_take 6 = .ok (.iload_n 1, 1) := by decide +kernel
theorem dX6_take_7 : decode cX6_take 7 = .ok (.invokevirtual 128, 3) := by decide +kernel
theorem dX6_take_10 : decode cX6_take 10 = .ok (.ifCond .ne 6, 3) := by decide +kernel
theorem dX6_take_13 : decode cX6_take 13 = .ok (.ldc 82, 2) := by decide +kernel
theorem dX6_take_15 : decode cX6_take 15 = .ok (.ireturn, 1) := by decide +kernel
theorem dX6_take_16 : decode cX6_take 16 = .ok (.aload_n 0, 1) := by decide +kernel
theorem dX6_take_17 : decode cX6_take 17 = .ok (.getfield 32, 3) := by decide +kernel
theorem dX6_take_20 : decode cX6_take 20 = .ok (.iload_n 1, 1) := by decide +kernel
theorem dX6_take_21 : decode cX6_take 21 = .ok (.iaload, 1) := by decide +kernel
theorem dX6_take_22 : decode cX6_take 22 = .ok (.ifCond .le 7, 3) := by decide +kernel
theorem dX6_take_25 : decode cX6_take 25 = .ok (.iconst 1, 1) := by decide +kernel
theorem dX6_take_26 : decode cX6_take 26 = .ok (.goto 4, 3) := by decide +kernel
theorem dX6_take_29 : decode cX6_take 29 = .ok (.iconst 0, 1) := by decide +kernel
theorem dX6_take_30 : decode cX6_take 30 = .ok (.istore_n 2, 1) := by decide +kernel
theorem dX6_take_31 : decode cX6_take 31 = .ok (.aload_n 0, 1) := by decide +kernel
theorem dX6_take_32 : decode cX6_take 32 = .ok (.iload_n 1, 1) := by decide +kernel
theorem dX6_take_33 : decode cX6_take 33 = .ok (.invokevirtual 131, 3) := by decide +kernel
theorem dX6_take_36 : decode cX6_take 36 = .ok (.iload_n 2, 1) := by decide +kernel
theorem dX6_take_37 : decode cX6_take 37 = .ok (.ireturn, 1) := by decide +kernel
theorem dX6_passed_0 : decode cX6_passed 0 = .ok (.iconst 0, 1) := by decide +kernel
theorem dX6_passed_1 : decode cX6_passed 1 = .ok (.istore_n 1, 1) := by decide +kernel
theorem dX6_passed_2 : decode cX6_passed 2 = .ok (.iconst 0, 1) := by decide +kernel
theorem dX6_passed_3 : decode cX6_passed 3 = .ok (.istore_n 2, 1) := by decide +kernel
theorem dX6_passed_4 : decode cX6_passed 4 = .ok (.iload_n 2, 1) := by decide +kernel
theorem dX6_passed_5 : decode cX6_passed 5 = .ok (.aload_n 0, 1) := by decide +kernel
theorem dX6_passed_6 : decode cX6_passed 6 = .ok (.getfield 102, 3) := by decide +kernel
theorem dX6_passed_9 : decode cX6_passed 9 = .ok (.if_icmp .ge 202, 3) := by decide +kernel
theorem dX6_passed_12 : decode cX6_passed 12 = .ok (.aload_n 0, 1) := by decide +kernel
theorem dX6_passed_13 : decode cX6_passed 13 = .ok (.getfield 32, 3) := by decide +kernel
theorem dX6_passed_16 : decode cX6_passed 16 = .ok (.iload_n 2, 1) := by decide +kernel
theorem dX6_passed_17 : decode cX6_passed 17 = .ok (.iaload, 1) := by decide +kernel
theorem dX6_passed_18 : decode cX6_passed 18 = .ok (.istore_n 3, 1) := by decide +kernel
theorem dX6_passed_19 : decode cX6_passed 19 = .ok (.aload_n 0, 1) := by decide +kernel
theorem dX6_passed_20 : decode cX6_passed 20 = .ok (.iload_n 2, 1) := by decide +kernel
theorem dX6_passed_21 : decode cX6_passed 21 = .ok (.invokevirtual 145, 3) := by decide +kernel
theorem dX6_passed_24 : decode cX6_passed 24 = .ok (.istore 4, 2) := by decide +kernel
theorem dX6_passed_26 : decode cX6_passed 26 = .ok (.iconst 0, 1) := by decide +kernel
theorem dX6_passed_27 : decode cX6_passed 27 = .ok (.istore 5, 2) := by decide +kernel
theorem dX6_passed_29 : decode cX6_passed 29 = .ok (.iload 5, 2) := by decide +kernel
theorem dX6_passed_31 : decode cX6_passed 31 = .ok (.iload_n 3, 1) := by decide +kernel
theorem dX6_passed_32 : decode cX6_passed 32 = .ok (.if_icmp .ge 28, 3) := by decide +kernel
theorem dX6_passed_35 : decode cX6_passed 35 = .ok (.aload_n 0, 1) := by decide +kernel
theorem dX6_passed_36 : decode cX6_passed 36 = .ok (.getfield 53, 3) := by decide +kernel
theorem dX6_passed_39 : decode cX6_passed 39 = .ok (.iload 5, 2) := by decide +kernel
theorem dX6_passed_41 : decode cX6_passed 41 = .ok (.aload_n 0, 1) := by decide +kernel
theorem dX6_passed_42 : decode cX6_passed 42 = .ok (.getfield 35, 3) := by decide +kernel
theorem dX6_passed_45 : decode cX6_passed 45 = .ok (.bipush 100, 2) := by decide +kernel
theorem dX6_passed_47 : decode cX6_passed 47 = .ok (.iload_n 2, 1) := by decide +kernel
theorem dX6_passed_48 : decode cX6_passed 48 = .ok (.imul, 1) := by decide +kernel
theorem dX6_passed_49 : decode cX6_passed 49 = .ok (.iload 5, 2) := by decide +kernel
theorem dX6_passed_51 : decode cX6_passed 51 = .ok (.iadd, 1) := by decide +kernel
theorem dX6_passed_52 : decode cX6_passed 52 = .ok (.iaload, 1) := by decide +kernel
theorem dX6_passed_53 : decode cX6_passed 53 = .ok (.iastore, 1) := by decide +kernel
theorem dX6_passed_54 : decode cX6_passed 54 = .ok (.iinc 5 1, 3) := by decide +kernel
theorem dX6_passed_57 : decode cX6_passed 57 = .ok (.goto (-28), 3) := by decide +kernel
theorem dX6_passed_60 : decode cX6_passed 60 = .ok (.aload_n 0, 1) := by decide +kernel
theorem dX6_passed_61 : decode cX6_passed 61 = .ok (.iload_n 2, 1) := by decide +kernel
theorem dX6_passed_62 : decode cX6_passed 62 = .ok (.invokevirtual 131, 3) := by decide +kernel
theorem dX6_passed_65 : decode cX6_passed 65 = .ok (.aload_n 0, 1) := by decide +kernel
theorem dX6_passed_66 : decode cX6_passed 66 = .ok (.iload_n 2, 1) := by decide +kernel
theorem dX6_passed_67 : decode cX6_passed 67 = .ok (.invokevirtual 135, 3) := by decide +kernel
theorem dX6_passed_70 : decode cX6_passed 70 = .ok (.istore 5, 2) := by decide +kernel
theorem dX6_passed_72 : decode cX6_passed 72 = .ok (.iload 5, 2) := by decide +kernel
theorem dX6_passed_74 : decode cX6_passed 74 = .ok (.ifCond .eq 39, 3) := by decide +kernel
theorem dX6_passed_77 : decode cX6_passed 77 = .ok (.iload_n 3, 1) := by decide +kernel
theorem dX6_passed_78 : decode cX6_passed 78 = .ok (.ifCond .eq 24, 3) := by decide +kernel
theorem dX6_passed_81 : decode cX6_passed 81 = .ok (.aload_n 0, 1) := by decide +kernel
theorem dX6_passed_82 : decode cX6_passed 82 = .ok (.getfield 44, 3) := by decide +kernel
theorem dX6_passed_85 : decode cX6_passed 85 = .ok (.aload_n 0, 1) := by decide +kernel
theorem dX6_passed_86 : decode cX6_passed 86 = .ok (.getfield 23, 3) := by decide +kernel
theorem dX6_passed_89 : decode cX6_passed 89 = .ok (.aload_n 0, 1) := by decide +kernel
theorem dX6_passed_90 : decode cX6_passed 90 = .ok (.getfield 26, 3) := by decide +kernel
theorem dX6_passed_93 : decode cX6_passed 93 = .ok (.iload_n 2, 1) := by decide +kernel
theorem dX6_passed_94 : decode cX6_passed 94 = .ok (.iaload, 1) := by decide +kernel
theorem dX6_passed_95 : decode cX6_passed 95 = .ok (.iaload, 1) := by decide +kernel
theorem dX6_passed_96 : decode cX6_passed 96 = .ok (.iaload, 1) := by decide +kernel
theorem dX6_passed_97 : decode cX6_passed 97 = .ok (.iload 4, 2) := by decide +kernel
theorem dX6_passed_99 : decode cX6_passed 99 = .ok (.if_icmp .ge 14, 3) := by decide +kernel
theorem dX6_passed_102 : decode cX6_passed 102 = .ok (.aload_n 0, 1) := by decide +kernel
theorem dX6_passed_103 : decode cX6_passed 103 = .ok (.iload_n 2, 1) := by decide +kernel
theorem dX6_passed_104 : decode cX6_passed 104 = .ok (.invokevirtual 138, 3) := by decide +kernel
theorem dX6_passed_107 : decode cX6_passed 107 = .ok (.iinc 1 1, 3) := by decide +kernel
theorem dX6_passed_110 : decode cX6_passed 110 = .ok (.goto 95, 3) := by decide +kernel
theorem dX6_passed_113 : decode cX6_passed 113 = .ok (.aload_n 0, 1) := by decide +kernel
theorem dX6_passed_114 : decode cX6_passed 114 = .ok (.getfield 23, 3) := by decide +kernel
theorem dX6_passed_117 : decode cX6_passed 117 = .ok (.aload_n 0, 1) := by decide +kernel
theorem dX6_passed_118 : decode cX6_passed 118 = .ok (.getfield 26, 3) := by decide +kernel
theorem dX6_passed_121 : decode cX6_passed 121 = .ok (.iload_n 2, 1) := by decide +kernel
theorem dX6_passed_122 : decode cX6_passed 122 = .ok (.iaload, 1) := by decide +kernel
theorem dX6_passed_123 : decode cX6_passed 123 = .ok (.iaload, 1) := by decide +kernel
theorem dX6_passed_124 : decode cX6_passed 124 = .ok (.istore 6, 2) := by decide +kernel
theorem dX6_passed_126 : decode cX6_passed 126 = .ok (.iconst 0, 1) := by decide +kernel
theorem dX6_passed_127 : decode cX6_passed 127 = .ok (.istore 7, 2) := by decide +kernel
theorem dX6_passed_129 : decode cX6_passed 129 = .ok (.iload 7, 2) := by decide +kernel
theorem dX6_passed_131 : decode cX6_passed 131 = .ok (.iload_n 3, 1) := by decide +kernel
theorem dX6_passed_132 : decode cX6_passed 132 = .ok (.if_icmp .ge 66, 3) := by decide +kernel
theorem dX6_passed_135 : decode cX6_passed 135 = .ok (.aload_n 0, 1) := by decide +kernel
theorem dX6_passed_136 : decode cX6_passed 136 = .ok (.getfield 35, 3) := by decide +kernel
theorem dX6_passed_139 : decode cX6_passed 139 = .ok (.bipush 100, 2) := by decide +kernel
theorem dX6_passed_141 : decode cX6_passed 141 = .ok (.iload_n 2, 1) := by decide +kernel
theorem dX6_passed_142 : decode cX6_passed 142 = .ok (.imul, 1) := by decide +kernel
theorem dX6_passed_143 : decode cX6_passed 143 = .ok (.iload 7, 2) := by decide +kernel
theorem dX6_passed_145 : decode cX6_passed 145 = .ok (.iadd, 1) := by decide +kernel
theorem dX6_passed_146 : decode cX6_passed 146 = .ok (.aload_n 0, 1) := by decide +kernel
theorem dX6_passed_147 : decode cX6_passed 147 = .ok (.getfield 53, 3) := by decide +kernel
theorem dX6_passed_150 : decode cX6_passed 150 = .ok (.iload 7, 2) := by decide +kernel
theorem dX6_passed_152 : decode cX6_passed 152 = .ok (.iaload, 1) := by decide +kernel
theorem dX6_passed_153 : decode cX6_passed 153 = .ok (.iastore, 1) := by decide +kernel
theorem dX6_passed_154 : decode cX6_passed 154 = .ok (.aload_n 0, 1) := by decide +kernel
theorem dX6_passed_155 : decode cX6_passed 155 = .ok (.getfield 38, 3) := by decide +kernel
theorem dX6_passed_158 : decode cX6_passed 158 = .ok (.sipush 180, 3) := by decide +kernel
theorem dX6_passed_161 : decode cX6_passed 161 = .ok (.iload_n 2, 1) := by decide +kernel
theorem dX6_passed_162 : decode cX6_passed 162 = .ok (.imul, 1) := by decide +kernel
theorem dX6_passed_163 : decode cX6_passed 163 = .ok (.iload 6, 2) := by decide +kernel
theorem dX6_passed_165 : decode cX6_passed 165 = .ok (.aload_n 0, 1) := by decide +kernel
theorem dX6_passed_166 : decode cX6_passed 166 = .ok (.getfield 53, 3) := by decide +kernel
theorem dX6_passed_169 : decode cX6_passed 169 = .ok (.iload 7, 2) := by decide +kernel
theorem dX6_passed_171 : decode cX6_passed 171 = .ok (.iaload, 1) := by decide +kernel
theorem dX6_passed_172 : decode cX6_passed 172 = .ok (.invokestatic 109, 3) := by decide +kernel
theorem dX6_passed_175 : decode cX6_passed 175 = .ok (.iadd, 1) := by decide +kernel
theorem dX6_passed_176 : decode cX6_passed 176 = .ok (.iconst 1, 1) := by decide +kernel
theorem dX6_passed_177 : decode cX6_passed 177 = .ok (.bastore, 1) := by decide +kernel
theorem dX6_passed_178 : decode cX6_passed 178 = .ok (.iload 6, 2) := by decide +kernel
theorem dX6_passed_180 : decode cX6_passed 180 = .ok (.aload_n 0, 1) := by decide +kernel
theorem dX6_passed_181 : decode cX6_passed 181 = .ok (.getfield 53, 3) := by decide +kernel
theorem dX6_passed_184 : decode cX6_passed 184 = .ok (.iload 7, 2) := by decide +kernel
theorem dX6_passed_186 : decode cX6_passed 186 = .ok (.iaload, 1) := by decide +kernel
theorem dX6_passed_187 : decode cX6_passed 187 = .ok (.invokestatic 105, 3) := by decide +kernel
theorem dX6_passed_190 : decode cX6_passed 190 = .ok (.istore 6, 2) := by decide +kernel
theorem dX6_passed_192 : decode cX6_passed 192 = .ok (.iinc 7 1, 3) := by decide +kernel
theorem dX6_passed_195 : decode cX6_passed 195 = .ok (.goto (-66), 3) := by decide +kernel
theorem dX6_passed_198 : decode cX6_passed 198 = .ok (.aload_n 0, 1) := by decide +kernel
theorem dX6_passed_199 : decode cX6_passed 199 = .ok (.getfield 32, 3) := by decide +kernel
theorem dX6_passed_202 : decode cX6_passed 202 = .ok (.iload_n 2, 1) := by decide +kernel
theorem dX6_passed_203 : decode cX6_passed 203 = .ok (.iload_n 3, 1) := by decide +kernel
theorem dX6_passed_204 : decode cX6_passed 204 = .ok (.iastore, 1) := by decide +kernel
theorem dX6_passed_205 : decode cX6_passed 205 = .ok (.iinc 2 1, 3) := by decide +kernel
theorem dX6_passed_208 : decode cX6_passed 208 = .ok (.goto (-204), 3) := by decide +kernel
theorem dX6_passed_211 : decode cX6_passed 211 = .ok (.iload_n 1, 1) := by decide +kernel
theorem dX6_passed_212 : decode cX6_passed 212 = .ok (.ireturn, 1) := by decide +kernel
theorem dX6_pass_0 : decode cX6_pass 0 = .ok (.aload_n 0, 1) := by decide +kernel
theorem dX6_pass_1 : decode cX6_pass 1 = .ok (.iconst 0, 1) := by decide +kernel
theorem dX6_pass_2 : decode cX6_pass 2 = .ok (.putfield 62, 3) := by decide +kernel
theorem dX6_pass_5 : decode cX6_pass 5 = .ok (.aload_n 0, 1) := by decide +kernel
theorem dX6_pass_6 : decode cX6_pass 6 = .ok (.invokevirtual 148, 3) := by decide +kernel
theorem dX6_pass_9 : decode cX6_pass 9 = .ok (.ireturn, 1) := by decide +kernel
theorem dX6_rest_0 : decode cX6_rest 0 = .ok (.aload_n 0, 1) := by decide +kernel
theorem dX6_rest_1 : decode cX6_rest 1 = .ok (.iconst 0, 1) := by decide +kernel
theorem dX6_rest_2 : decode cX6_rest 2 = .ok (.putfield 62, 3) := by decide +kernel
theorem dX6_rest_5 : decode cX6_rest 5 = .ok (.iconst 0, 1) := by decide +kernel
theorem dX6_rest_6 : decode cX6_rest 6 = .ok (.istore_n 1, 1) := by decide +kernel
theorem dX6_rest_7 : decode cX6_rest 7 = .ok (.aload_n 0, 1) := by decide +kernel
theorem dX6_rest_8 : decode cX6_rest 8 = .ok (.invokevirtual 148, 3) := by decide +kernel
theorem dX6_rest_11 : decode cX6_rest 11 = .ok (.ifCond .le 9, 3) := by decide +kernel
theorem dX6_rest_14 : decode cX6_rest 14 = .ok (.iinc 1 1, 3) := by decide +kernel
theorem dX6_rest_17 : decode cX6_rest 17 = .ok (.goto (-10), 3) := by decide +kernel
theorem dX6_rest_20 : decode cX6_rest 20 = .ok (.iload_n 1, 1) := by decide +kernel
theorem dX6_rest_21 : decode cX6_rest 21 = .ok (.ireturn, 1) := by decide +kernel
theorem dX6_way_0 : decode cX6_way 0 = .ok (.aload_n 0, 1) := by decide +kernel
theorem dX6_way_1 : decode cX6_way 1 = .ok (.iconst 0, 1) := by decide +kernel
theorem dX6_way_2 : decode cX6_way 2 = .ok (.putfield 62, 3) := by decide +kernel
theorem dX6_way_5 : decode cX6_way 5 = .ok (.aload_n 0, 1) := by decide +kernel
theorem dX6_way_6 : decode cX6_way 6 = .ok (.iload_n 1, 1) := by decide +kernel
theorem dX6_way_7 : decode cX6_way 7 = .ok (.invokevirtual 128, 3) := by decide +kernel
theorem dX6_way_10 : decode cX6_way 10 = .ok (.ifCond .eq 8, 3) := by decide +kernel
theorem dX6_way_13 : decode cX6_way 13 = .ok (.iload_n 2, 1) := by decide +kernel
theorem dX6_way_14 : decode cX6_way 14 = .ok (.iconst (-1), 1) := by decide +kernel
theorem dX6_way_15 : decode cX6_way 15 = .ok (.if_icmp .ge 6, 3) := by decide +kernel
theorem dX6_way_18 : decode cX6_way 18 = .ok (.ldc 82, 2) := by decide +kernel
theorem dX6_way_20 : decode cX6_way 20 = .ok (.ireturn, 1) := by decide +kernel
theorem dX6_way_21 : decode cX6_way 21 = .ok (.iload_n 2, 1) := by decide +kernel
theorem dX6_way_22 : decode cX6_way 22 = .ok (.iconst (-1), 1) := by decide +kernel
theorem dX6_way_23 : decode cX6_way 23 = .ok (.if_icmp .ne 12, 3) := by decide +kernel
theorem dX6_way_26 : decode cX6_way 26 = .ok (.aload_n 0, 1) := by decide +kernel
theorem dX6_way_27 : decode cX6_way 27 = .ok (.getfield 32, 3) := by decide +kernel
theorem dX6_way_30 : decode cX6_way 30 = .ok (.iload_n 1, 1) := by decide +kernel
theorem dX6_way_31 : decode cX6_way 31 = .ok (.iaload, 1) := by decide +kernel
theorem dX6_way_32 : decode cX6_way 32 = .ok (.goto 29, 3) := by decide +kernel
theorem dX6_way_35 : decode cX6_way 35 = .ok (.iload_n 2, 1) := by decide +kernel
theorem dX6_way_36 : decode cX6_way 36 = .ok (.aload_n 0, 1) := by decide +kernel
theorem dX6_way_37 : decode cX6_way 37 = .ok (.getfield 32, 3) := by decide +kernel
theorem dX6_way_40 : decode cX6_way 40 = .ok (.iload_n 1, 1) := by decide +kernel
theorem dX6_way_41 : decode cX6_way 41 = .ok (.iaload, 1) := by decide +kernel
theorem dX6_way_42 : decode cX6_way 42 = .ok (.if_icmp .ge 17, 3) := by decide +kernel
theorem dX6_way_45 : decode cX6_way 45 = .ok (.aload_n 0, 1) := by decide +kernel
theorem dX6_way_46 : decode cX6_way 46 = .ok (.getfield 35, 3) := by decide +kernel
theorem dX6_way_49 : decode cX6_way 49 = .ok (.bipush 100, 2) := by decide +kernel
theorem dX6_way_51 : decode cX6_way 51 = .ok (.iload_n 1, 1) := by decide +kernel
theorem dX6_way_52 : decode cX6_way 52 = .ok (.imul, 1) := by decide +kernel
theorem dX6_way_53 : decode cX6_way 53 = .ok (.iload_n 2, 1) := by decide +kernel
theorem dX6_way_54 : decode cX6_way 54 = .ok (.iadd, 1) := by decide +kernel
theorem dX6_way_55 : decode cX6_way 55 = .ok (.iaload, 1) := by decide +kernel
theorem dX6_way_56 : decode cX6_way 56 = .ok (.goto 5, 3) := by decide +kernel
theorem dX6_way_59 : decode cX6_way 59 = .ok (.ldc 93, 2) := by decide +kernel
theorem dX6_way_61 : decode cX6_way 61 = .ok (.ireturn, 1) := by decide +kernel
theorem dX6_width_0 : decode cX6_width 0 = .ok (.aload_n 0, 1) := by decide +kernel
theorem dX6_width_1 : decode cX6_width 1 = .ok (.iconst 0, 1) := by decide +kernel
theorem dX6_width_2 : decode cX6_width 2 = .ok (.putfield 62, 3) := by decide +kernel
theorem dX6_width_5 : decode cX6_width 5 = .ok (.iload_n 1, 1) := by decide +kernel
theorem dX6_width_6 : decode cX6_width 6 = .ok (.iload_n 2, 1) := by decide +kernel
theorem dX6_width_7 : decode cX6_width 7 = .ok (.invokestatic 89, 3) := by decide +kernel
theorem dX6_width_10 : decode cX6_width 10 = .ok (.ifCond .eq 15, 3) := by decide +kernel
theorem dX6_width_13 : decode cX6_width 13 = .ok (.iload_n 3, 1) := by decide +kernel
theorem dX6_width_14 : decode cX6_width 14 = .ok (.i2l, 1) := by decide +kernel
theorem dX6_width_15 : decode cX6_width 15 = .ok (.lconst 0, 1) := by decide +kernel
theorem dX6_width_16 : decode cX6_width 16 = .ok (.ldc2_w 143, 3) := by decide +kernel
theorem dX6_width_19 : decode cX6_width 19 = .ok (.invokestatic 72, 3) := by decide +kernel
theorem dX6_width_22 : decode cX6_width 22 = .ok (.ifCond .ne 6, 3) := by decide +kernel
theorem dX6_width_25 : decode cX6_width 25 = .ok (.ldc 82, 2) := by decide +kernel
theorem dX6_width_27 : decode cX6_width 27 = .ok (.ireturn, 1) := by decide +kernel
theorem dX6_width_28 : decode cX6_width 28 = .ok (.bipush 10, 2) := by decide +kernel
theorem dX6_width_30 : decode cX6_width 30 = .ok (.iload_n 2, 1) := by decide +kernel
theorem dX6_width_31 : decode cX6_width 31 = .ok (.imul, 1) := by decide +kernel
theorem dX6_width_32 : decode cX6_width 32 = .ok (.iload_n 1, 1) := by decide +kernel
theorem dX6_width_33 : decode cX6_width 33 = .ok (.iadd, 1) := by decide +kernel
theorem dX6_width_34 : decode cX6_width 34 = .ok (.iload_n 3, 1) := by decide +kernel
theorem dX6_width_35 : decode cX6_width 35 = .ok (.invokestatic 105, 3) := by decide +kernel
theorem dX6_width_38 : decode cX6_width 38 = .ok (.ldc 93, 2) := by decide +kernel
theorem dX6_width_40 : decode cX6_width 40 = .ok (.if_icmp .ne 7, 3) := by decide +kernel
theorem dX6_width_43 : decode cX6_width 43 = .ok (.iconst 0, 1) := by decide +kernel
theorem dX6_width_44 : decode cX6_width 44 = .ok (.goto 17, 3) := by decide +kernel
theorem dX6_width_47 : decode cX6_width 47 = .ok (.aload_n 0, 1) := by decide +kernel
theorem dX6_width_48 : decode cX6_width 48 = .ok (.bipush 10, 2) := by decide +kernel
theorem dX6_width_50 : decode cX6_width 50 = .ok (.iload_n 2, 1) := by decide +kernel
theorem dX6_width_51 : decode cX6_width 51 = .ok (.imul, 1) := by decide +kernel
theorem dX6_width_52 : decode cX6_width 52 = .ok (.iload_n 1, 1) := by decide +kernel
theorem dX6_width_53 : decode cX6_width 53 = .ok (.iadd, 1) := by decide +kernel
theorem dX6_width_54 : decode cX6_width 54 = .ok (.iload_n 3, 1) := by decide +kernel
theorem dX6_width_55 : decode cX6_width 55 = .ok (.invokestatic 109, 3) := by decide +kernel
theorem dX6_width_58 : decode cX6_width 58 = .ok (.invokevirtual 112, 3) := by decide +kernel
theorem dX6_width_61 : decode cX6_width 61 = .ok (.ireturn, 1) := by decide +kernel
theorem dX6_at_0 : decode cX6_at 0 = .ok (.iconst 0, 1) := by decide +kernel
theorem dX6_at_1 : decode cX6_at 1 = .ok (.istore_n 3, 1) := by decide +kernel
theorem dX6_at_2 : decode cX6_at 2 = .ok (.iconst 0, 1) := by decide +kernel
theorem dX6_at_3 : decode cX6_at 3 = .ok (.istore 4, 2) := by decide +kernel
theorem dX6_at_5 : decode cX6_at 5 = .ok (.iload 4, 2) := by decide +kernel
theorem dX6_at_7 : decode cX6_at 7 = .ok (.iconst 4, 1) := by decide +kernel
theorem dX6_at_8 : decode cX6_at 8 = .ok (.if_icmp .ge 51, 3) := by decide +kernel
theorem dX6_at_11 : decode cX6_at 11 = .ok (.iload_n 3, 1) := by decide +kernel
theorem dX6_at_12 : decode cX6_at 12 = .ok (.iload_n 2, 1) := by decide +kernel
theorem dX6_at_13 : decode cX6_at 13 = .ok (.iload 4, 2) := by decide +kernel
theorem dX6_at_15 : decode cX6_at 15 = .ok (.invokestatic 105, 3) := by decide +kernel
theorem dX6_at_18 : decode cX6_at 18 = .ok (.ldc 93, 2) := by decide +kernel
theorem dX6_at_20 : decode cX6_at 20 = .ok (.if_icmp .eq 30, 3) := by decide +kernel
theorem dX6_at_23 : decode cX6_at 23 = .ok (.aload_n 0, 1) := by decide +kernel
theorem dX6_at_24 : decode cX6_at 24 = .ok (.getfield 38, 3) := by decide +kernel
theorem dX6_at_27 : decode cX6_at 27 = .ok (.sipush 180, 3) := by decide +kernel
theorem dX6_at_30 : decode cX6_at 30 = .ok (.iload_n 1, 1) := by decide +kernel
theorem dX6_at_31 : decode cX6_at 31 = .ok (.imul, 1) := by decide +kernel
theorem dX6_at_32 : decode cX6_at 32 = .ok (.iload_n 2, 1) := by decide +kernel
theorem dX6_at_33 : decode cX6_at 33 = .ok (.iload 4, 2) := by decide +kernel
theorem dX6_at_35 : decode cX6_at 35 = .ok (.invokestatic 109, 3) := by decide +kernel
theorem dX6_at_38 : decode cX6_at 38 = .ok (.iadd, 1) := by decide +kernel
theorem dX6_at_39 : decode cX6_at 39 = .ok (.baload, 1) := by decide +kernel
theorem dX6_at_40 : decode cX6_at 40 = .ok (.ifCond .eq 10, 3) := by decide +kernel
theorem dX6_at_43 : decode cX6_at 43 = .ok (.iconst 1, 1) := by decide +kernel
theorem dX6_at_44 : decode cX6_at 44 = .ok (.iload 4, 2) := by decide +kernel
theorem dX6_at_46 : decode cX6_at 46 = .ok (.ishl, 1) := by decide +kernel
theorem dX6_at_47 : decode cX6_at 47 = .ok (.goto 4, 3) := by decide +kernel
theorem dX6_at_50 : decode cX6_at 50 = .ok (.iconst 0, 1) := by decide +kernel
theorem dX6_at_51 : decode cX6_at 51 = .ok (.ior, 1) := by decide +kernel
theorem dX6_at_52 : decode cX6_at 52 = .ok (.istore_n 3, 1) := by decide +kernel
theorem dX6_at_53 : decode cX6_at 53 = .ok (.iinc 4 1, 3) := by decide +kernel
theorem dX6_at_56 : decode cX6_at 56 = .ok (.goto (-51), 3) := by decide +kernel
theorem dX6_at_59 : decode cX6_at 59 = .ok (.iload_n 3, 1) := by decide +kernel
theorem dX6_at_60 : decode cX6_at 60 = .ok (.ireturn, 1) := by decide +kernel
theorem dX6_all_0 : decode cX6_all 0 = .ok (.aload_n 0, 1) := by decide +kernel
theorem dX6_all_1 : decode cX6_all 1 = .ok (.iconst 0, 1) := by decide +kernel
theorem dX6_all_2 : decode cX6_all 2 = .ok (.putfield 62, 3) := by decide +kernel
theorem dX6_all_5 : decode cX6_all 5 = .ok (.iload_n 1, 1) := by decide +kernel
theorem dX6_all_6 : decode cX6_all 6 = .ok (.i2l, 1) := by decide +kernel
theorem dX6_all_7 : decode cX6_all 7 = .ok (.lconst 0, 1) := by decide +kernel
theorem dX6_all_8 : decode cX6_all 8 = .ok (.ldc2_w 152, 3) := by decide +kernel
theorem dX6_all_11 : decode cX6_all 11 = .ok (.invokestatic 72, 3) := by decide +kernel
theorem dX6_all_14 : decode cX6_all 14 = .ok (.ifCond .ne 6, 3) := by decide +kernel
theorem dX6_all_17 : decode cX6_all 17 = .ok (.ldc 82, 2) := by decide +kernel
theorem dX6_all_19 : decode cX6_all 19 = .ok (.ireturn, 1) := by decide +kernel
theorem dX6_all_20 : decode cX6_all 20 = .ok (.iconst 0, 1) := by decide +kernel
theorem dX6_all_21 : decode cX6_all 21 = .ok (.istore_n 2, 1) := by decide +kernel
theorem dX6_all_22 : decode cX6_all 22 = .ok (.iconst 0, 1) := by decide +kernel
theorem dX6_all_23 : decode cX6_all 23 = .ok (.istore_n 3, 1) := by decide +kernel
theorem dX6_all_24 : decode cX6_all 24 = .ok (.iload_n 3, 1) := by decide +kernel
theorem dX6_all_25 : decode cX6_all 25 = .ok (.sipush 180, 3) := by decide +kernel
theorem dX6_all_28 : decode cX6_all 28 = .ok (.if_icmp .ge 91, 3) := by decide +kernel
theorem dX6_all_31 : decode cX6_all 31 = .ok (.aload_n 0, 1) := by decide +kernel
theorem dX6_all_32 : decode cX6_all 32 = .ok (.iload_n 3, 1) := by decide +kernel
theorem dX6_all_33 : decode cX6_all 33 = .ok (.invokevirtual 112, 3) := by decide +kernel
theorem dX6_all_36 : decode cX6_all 36 = .ok (.istore 4, 2) := by decide +kernel
theorem dX6_all_38 : decode cX6_all 38 = .ok (.iconst 0, 1) := by decide +kernel
theorem dX6_all_39 : decode cX6_all 39 = .ok (.istore 5, 2) := by decide +kernel
theorem dX6_all_41 : decode cX6_all 41 = .ok (.iload 5, 2) := by decide +kernel
theorem dX6_all_43 : decode cX6_all 43 = .ok (.iload 4, 2) := by decide +kernel
theorem dX6_all_45 : decode cX6_all 45 = .ok (.if_icmp .ge 22, 3) := by decide +kernel
theorem dX6_all_48 : decode cX6_all 48 = .ok (.iload_n 1, 1) := by decide +kernel
theorem dX6_all_49 : decode cX6_all 49 = .ok (.ifCond .ne 18, 3) := by decide +kernel
theorem dX6_all_52 : decode cX6_all 52 = .ok (.iload_n 2, 1) := by decide +kernel
theorem dX6_all_53 : decode cX6_all 53 = .ok (.aload_n 0, 1) := by decide +kernel
theorem dX6_all_54 : decode cX6_all 54 = .ok (.iload 5, 2) := by decide +kernel
theorem dX6_all_56 : decode cX6_all 56 = .ok (.invokevirtual 125, 3) := by decide +kernel
theorem dX6_all_59 : decode cX6_all 59 = .ok (.iadd, 1) := by decide +kernel
theorem dX6_all_60 : decode cX6_all 60 = .ok (.istore_n 2, 1) := by decide +kernel
theorem dX6_all_61 : decode cX6_all 61 = .ok (.iinc 5 1, 3) := by decide +kernel
theorem dX6_all_64 : decode cX6_all 64 = .ok (.goto (-23), 3) := by decide +kernel
theorem dX6_all_67 : decode cX6_all 67 = .ok (.iload_n 2, 1) := by decide +kernel
theorem dX6_all_68 : decode cX6_all 68 = .ok (.iload_n 1, 1) := by decide +kernel
theorem dX6_all_69 : decode cX6_all 69 = .ok (.iconst 1, 1) := by decide +kernel
theorem dX6_all_70 : decode cX6_all 70 = .ok (.if_icmp .ne 12, 3) := by decide +kernel
theorem dX6_all_73 : decode cX6_all 73 = .ok (.iload 4, 2) := by decide +kernel
theorem dX6_all_75 : decode cX6_all 75 = .ok (.ifCond .le 7, 3) := by decide +kernel
theorem dX6_all_78 : decode cX6_all 78 = .ok (.iconst 1, 1) := by decide +kernel
theorem dX6_all_79 : decode cX6_all 79 = .ok (.goto 14, 3) := by decide +kernel
theorem dX6_all_82 : decode cX6_all 82 = .ok (.iload_n 1, 1) := by decide +kernel
theorem dX6_all_83 : decode cX6_all 83 = .ok (.iconst 5, 1) := by decide +kernel
theorem dX6_all_84 : decode cX6_all 84 = .ok (.if_icmp .ne 8, 3) := by decide +kernel
theorem dX6_all_87 : decode cX6_all 87 = .ok (.iload 4, 2) := by decide +kernel
theorem dX6_all_89 : decode cX6_all 89 = .ok (.goto 4, 3) := by decide +kernel
theorem dX6_all_92 : decode cX6_all 92 = .ok (.iconst 0, 1) := by decide +kernel
theorem dX6_all_93 : decode cX6_all 93 = .ok (.iadd, 1) := by decide +kernel
theorem dX6_all_94 : decode cX6_all 94 = .ok (.istore_n 2, 1) := by decide +kernel
theorem dX6_all_95 : decode cX6_all 95 = .ok (.iload_n 1, 1) := by decide +kernel
theorem dX6_all_96 : decode cX6_all 96 = .ok (.iconst 2, 1) := by decide +kernel
theorem dX6_all_97 : decode cX6_all 97 = .ok (.if_icmp .ne 14, 3) := by decide +kernel
theorem dX6_all_100 : decode cX6_all 100 = .ok (.iload 4, 2) := by decide +kernel
theorem dX6_all_102 : decode cX6_all 102 = .ok (.iload_n 2, 1) := by decide +kernel
theorem dX6_all_103 : decode cX6_all 103 = .ok (.if_icmp .le 8, 3) := by decide +kernel
theorem dX6_all_106 : decode cX6_all 106 = .ok (.iload 4, 2) := by decide +kernel
theorem dX6_all_108 : decode cX6_all 108 = .ok (.goto 4, 3) := by decide +kernel
theorem dX6_all_111 : decode cX6_all 111 = .ok (.iload_n 2, 1) := by decide +kernel
theorem dX6_all_112 : decode cX6_all 112 = .ok (.istore_n 2, 1) := by decide +kernel
theorem dX6_all_113 : decode cX6_all 113 = .ok (.iinc 3 1, 3) := by decide +kernel
theorem dX6_all_116 : decode cX6_all 116 = .ok (.goto (-92), 3) := by decide +kernel
theorem dX6_all_119 : decode cX6_all 119 = .ok (.iconst 0, 1) := by decide +kernel
theorem dX6_all_120 : decode cX6_all 120 = .ok (.istore_n 3, 1) := by decide +kernel
theorem dX6_all_121 : decode cX6_all 121 = .ok (.iload_n 3, 1) := by decide +kernel
theorem dX6_all_122 : decode cX6_all 122 = .ok (.bipush 100, 2) := by decide +kernel
theorem dX6_all_124 : decode cX6_all 124 = .ok (.if_icmp .ge 163, 3) := by decide +kernel
theorem dX6_all_127 : decode cX6_all 127 = .ok (.iload_n 1, 1) := by decide +kernel
theorem dX6_all_128 : decode cX6_all 128 = .ok (.iconst 3, 1) := by decide +kernel
theorem dX6_all_129 : decode cX6_all 129 = .ok (.if_icmp .eq 8, 3) := by decide +kernel
theorem dX6_all_132 : decode cX6_all 132 = .ok (.iload_n 1, 1) := by decide +kernel
theorem dX6_all_133 : decode cX6_all 133 = .ok (.iconst 4, 1) := by decide +kernel
theorem dX6_all_134 : decode cX6_all 134 = .ok (.if_icmp .ne 153, 3) := by decide +kernel
theorem dX6_all_137 : decode cX6_all 137 = .ok (.iconst 0, 1) := by decide +kernel
theorem dX6_all_138 : decode cX6_all 138 = .ok (.istore 4, 2) := by decide +kernel
theorem dX6_all_140 : decode cX6_all 140 = .ok (.iconst 0, 1) := by decide +kernel
theorem dX6_all_141 : decode cX6_all 141 = .ok (.istore 5, 2) := by decide +kernel
theorem dX6_all_143 : decode cX6_all 143 = .ok (.iload 5, 2) := by decide +kernel
theorem dX6_all_145 : decode cX6_all 145 = .ok (.aload_n 0, 1) := by decide +kernel
theorem dX6_all_146 : decode cX6_all 146 = .ok (.getfield 102, 3) := by decide +kernel
theorem dX6_all_149 : decode cX6_all 149 = .ok (.if_icmp .ge 114, 3) := by decide +kernel
theorem dX6_all_152 : decode cX6_all 152 = .ok (.iload 5, 2) := by decide +kernel
theorem dX6_all_154 : decode cX6_all 154 = .ok (.iconst 1, 1) := by decide +kernel
theorem dX6_all_155 : decode cX6_all 155 = .ok (.iadd, 1) := by decide +kernel
theorem dX6_all_156 : decode cX6_all 156 = .ok (.istore 6, 2) := by decide +kernel
theorem dX6_all_158 : decode cX6_all 158 = .ok (.iload 6, 2) := by decide +kernel
theorem dX6_all_160 : decode cX6_all 160 = .ok (.aload_n 0, 1) := by decide +kernel
theorem dX6_all_161 : decode cX6_all 161 = .ok (.getfield 102, 3) := by decide +kernel
theorem dX6_all_164 : decode cX6_all 164 = .ok (.if_icmp .ge 93, 3) := by decide +kernel
theorem dX6_all_167 : decode cX6_all 167 = .ok (.aload_n 0, 1) := by decide +kernel
theorem dX6_all_168 : decode cX6_all 168 = .ok (.iload 5, 2) := by decide +kernel
theorem dX6_all_170 : decode cX6_all 170 = .ok (.iload_n 3, 1) := by decide +kernel
theorem dX6_all_171 : decode cX6_all 171 = .ok (.invokevirtual 154, 3) := by decide +kernel
theorem dX6_all_174 : decode cX6_all 174 = .ok (.istore 7, 2) := by decide +kernel
theorem dX6_all_176 : decode cX6_all 176 = .ok (.aload_n 0, 1) := by decide +kernel
theorem dX6_all_177 : decode cX6_all 177 = .ok (.iload 6, 2) := by decide +kernel
theorem dX6_all_179 : decode cX6_all 179 = .ok (.iload_n 3, 1) := by decide +kernel
theorem dX6_all_180 : decode cX6_all 180 = .ok (.invokevirtual 154, 3) := by decide +kernel
theorem dX6_all_183 : decode cX6_all 183 = .ok (.istore 8, 2) := by decide +kernel
theorem dX6_all_185 : decode cX6_all 185 = .ok (.iload 4, 2) := by decide +kernel
theorem dX6_all_187 : decode cX6_all 187 = .ok (.ifCond .ne 18, 3) := by decide +kernel
theorem dX6_all_190 : decode cX6_all 190 = .ok (.iload 7, 2) := by decide +kernel
theorem dX6_all_192 : decode cX6_all 192 = .ok (.iload 8, 2) := by decide +kernel
theorem dX6_all_194 : decode cX6_all 194 = .ok (.iand, 1) := by decide +kernel
theorem dX6_all_195 : decode cX6_all 195 = .ok (.ifCond .eq 14, 3) := by decide +kernel
theorem dX6_all_198 : decode cX6_all 198 = .ok (.iload 7, 2) := by decide +kernel
theorem dX6_all_200 : decode cX6_all 200 = .ok (.iload 8, 2) := by decide +kernel
theorem dX6_all_202 : decode cX6_all 202 = .ok (.if_icmp .eq 7, 3) := by decide +kernel
theorem dX6_all_205 : decode cX6_all 205 = .ok (.iconst 1, 1) := by decide +kernel
theorem dX6_all_206 : decode cX6_all 206 = .ok (.goto 4, 3) := by decide +kernel
theorem dX6_all_209 : decode cX6_all 209 = .ok (.iconst 0, 1) := by decide +kernel
theorem dX6_all_210 : decode cX6_all 210 = .ok (.istore 4, 2) := by decide +kernel
theorem dX6_all_212 : decode cX6_all 212 = .ok (.iload_n 2, 1) := by decide +kernel
theorem dX6_all_213 : decode cX6_all 213 = .ok (.iload_n 1, 1) := by decide +kernel
theorem dX6_all_214 : decode cX6_all 214 = .ok (.iconst 4, 1) := by decide +kernel
theorem dX6_all_215 : decode cX6_all 215 = .ok (.if_icmp .ne 33, 3) := by decide +kernel
theorem dX6_all_218 : decode cX6_all 218 = .ok (.iload 7, 2) := by decide +kernel
theorem dX6_all_220 : decode cX6_all 220 = .ok (.iconst 5, 1) := by decide +kernel
theorem dX6_all_221 : decode cX6_all 221 = .ok (.if_icmp .ne 10, 3) := by decide +kernel
theorem dX6_all_224 : decode cX6_all 224 = .ok (.iload 8, 2) := by decide +kernel
theorem dX6_all_226 : decode cX6_all 226 = .ok (.bipush 10, 2) := by decide +kernel
theorem dX6_all_228 : decode cX6_all 228 = .ok (.if_icmp .eq 16, 3) := by decide +kernel
theorem dX6_all_231 : decode cX6_all 231 = .ok (.iload 7, 2) := by decide +kernel
theorem dX6_all_233 : decode cX6_all 233 = .ok (.bipush 10, 2) := by decide +kernel
theorem dX6_all_235 : decode cX6_all 235 = .ok (.if_icmp .ne 13, 3) := by decide +kernel
theorem dX6_all_238 : decode cX6_all 238 = .ok (.iload 8, 2) := by decide +kernel
theorem dX6_all_240 : decode cX6_all 240 = .ok (.iconst 5, 1) := by decide +kernel
theorem dX6_all_241 : decode cX6_all 241 = .ok (.if_icmp .ne 7, 3) := by decide +kernel
theorem dX6_all_244 : decode cX6_all 244 = .ok (.iconst 1, 1) := by decide +kernel
theorem dX6_all_245 : decode cX6_all 245 = .ok (.goto 4, 3) := by decide +kernel
theorem dX6_all_248 : decode cX6_all 248 = .ok (.iconst 0, 1) := by decide +kernel
theorem dX6_all_249 : decode cX6_all 249 = .ok (.iadd, 1) := by decide +kernel
theorem dX6_all_250 : decode cX6_all 250 = .ok (.istore_n 2, 1) := by decide +kernel
theorem dX6_all_251 : decode cX6_all 251 = .ok (.iinc 6 1, 3) := by decide +kernel
theorem dX6_all_254 : decode cX6_all 254 = .ok (.goto (-96), 3) := by decide +kernel
theorem dX6_all_257 : decode cX6_all 257 = .ok (.iinc 5 1, 3) := by decide +kernel
theorem dX6_all_260 : decode cX6_all 260 = .ok (.goto (-117), 3) := by decide +kernel
theorem dX6_all_263 : decode cX6_all 263 = .ok (.iload_n 2, 1) := by decide +kernel
theorem dX6_all_264 : decode cX6_all 264 = .ok (.iload_n 1, 1) := by decide +kernel
theorem dX6_all_265 : decode cX6_all 265 = .ok (.iconst 3, 1) := by decide +kernel
theorem dX6_all_266 : decode cX6_all 266 = .ok (.if_icmp .ne 12, 3) := by decide +kernel
theorem dX6_all_269 : decode cX6_all 269 = .ok (.iload 4, 2) := by decide +kernel
theorem dX6_all_271 : decode cX6_all 271 = .ok (.ifCond .eq 7, 3) := by decide +kernel
theorem dX6_all_274 : decode cX6_all 274 = .ok (.iconst 1, 1) := by decide +kernel
theorem dX6_all_275 : decode cX6_all 275 = .ok (.goto 4, 3) := by decide +kernel
theorem dX6_all_278 : decode cX6_all 278 = .ok (.iconst 0, 1) := by decide +kernel
theorem dX6_all_279 : decode cX6_all 279 = .ok (.iadd, 1) := by decide +kernel
theorem dX6_all_280 : decode cX6_all 280 = .ok (.istore_n 2, 1) := by decide +kernel
theorem dX6_all_281 : decode cX6_all 281 = .ok (.iinc 3 1, 3) := by decide +kernel
theorem dX6_all_284 : decode cX6_all 284 = .ok (.goto (-163), 3) := by decide +kernel
theorem dX6_all_287 : decode cX6_all 287 = .ok (.iload_n 2, 1) := by decide +kernel
theorem dX6_all_288 : decode cX6_all 288 = .ok (.ireturn, 1) := by decide +kernel
theorem dX6_size_0 : decode cX6_size 0 = .ok (.iload_n 0, 1) := by decide +kernel
theorem dX6_size_1 : decode cX6_size 1 = .ok (.ifCond .ge 8, 3) := by decide +kernel
theorem dX6_size_4 : decode cX6_size 4 = .ok (.iload_n 0, 1) := by decide +kernel
theorem dX6_size_5 : decode cX6_size 5 = .ok (.ineg, 1) := by decide +kernel
theorem dX6_size_6 : decode cX6_size 6 = .ok (.goto 4, 3) := by decide +kernel
theorem dX6_size_9 : decode cX6_size 9 = .ok (.iload_n 0, 1) := by decide +kernel
theorem dX6_size_10 : decode cX6_size 10 = .ok (.ireturn, 1) := by decide +kernel
theorem dX6_detourOf_0 : decode cX6_detourOf 0 = .ok (.aload_n 0, 1) := by decide +kernel
theorem dX6_detourOf_1 : decode cX6_detourOf 1 = .ok (.getfield 23, 3) := by decide +kernel
theorem dX6_detourOf_4 : decode cX6_detourOf 4 = .ok (.aload_n 0, 1) := by decide +kernel
theorem dX6_detourOf_5 : decode cX6_detourOf 5 = .ok (.getfield 26, 3) := by decide +kernel
theorem dX6_detourOf_8 : decode cX6_detourOf 8 = .ok (.iload_n 1, 1) := by decide +kernel
theorem dX6_detourOf_9 : decode cX6_detourOf 9 = .ok (.iaload, 1) := by decide +kernel
theorem dX6_detourOf_10 : decode cX6_detourOf 10 = .ok (.iaload, 1) := by decide +kernel
theorem dX6_detourOf_11 : decode cX6_detourOf 11 = .ok (.istore_n 2, 1) := by decide +kernel
theorem dX6_detourOf_12 : decode cX6_detourOf 12 = .ok (.aload_n 0, 1) := by decide +kernel
theorem dX6_detourOf_13 : decode cX6_detourOf 13 = .ok (.getfield 23, 3) := by decide +kernel
theorem dX6_detourOf_16 : decode cX6_detourOf 16 = .ok (.aload_n 0, 1) := by decide +kernel
theorem dX6_detourOf_17 : decode cX6_detourOf 17 = .ok (.getfield 29, 3) := by decide +kernel
theorem dX6_detourOf_20 : decode cX6_detourOf 20 = .ok (.iload_n 1, 1) := by decide +kernel
theorem dX6_detourOf_21 : decode cX6_detourOf 21 = .ok (.iaload, 1) := by decide +kernel
theorem dX6_detourOf_22 : decode cX6_detourOf 22 = .ok (.iaload, 1) := by decide +kernel
theorem dX6_detourOf_23 : decode cX6_detourOf 23 = .ok (.istore_n 3, 1) := by decide +kernel
theorem dX6_detourOf_24 : decode cX6_detourOf 24 = .ok (.aload_n 0, 1) := by decide +kernel
theorem dX6_detourOf_25 : decode cX6_detourOf 25 = .ok (.getfield 32, 3) := by decide +kernel
theorem dX6_detourOf_28 : decode cX6_detourOf 28 = .ok (.iload_n 1, 1) := by decide +kernel
theorem dX6_detourOf_29 : decode cX6_detourOf 29 = .ok (.iaload, 1) := by decide +kernel
theorem dX6_detourOf_30 : decode cX6_detourOf 30 = .ok (.bipush 100, 2) := by decide +kernel
theorem dX6_detourOf_32 : decode cX6_detourOf 32 = .ok (.imul, 1) := by decide +kernel
theorem dX6_detourOf_33 : decode cX6_detourOf 33 = .ok (.iload_n 2, 1) := by decide +kernel
theorem dX6_detourOf_34 : decode cX6_detourOf 34 = .ok (.bipush 10, 2) := by decide +kernel
theorem dX6_detourOf_36 : decode cX6_detourOf 36 = .ok (.irem, 1) := by decide +kernel
theorem dX6_detourOf_37 : decode cX6_detourOf 37 = .ok (.iload_n 3, 1) := by decide +kernel
theorem dX6_detourOf_38 : decode cX6_detourOf 38 = .ok (.bipush 10, 2) := by decide +kernel
theorem dX6_detourOf_40 : decode cX6_detourOf 40 = .ok (.irem, 1) := by decide +kernel
theorem dX6_detourOf_41 : decode cX6_detourOf 41 = .ok (.isub, 1) := by decide +kernel
theorem dX6_detourOf_42 : decode cX6_detourOf 42 = .ok (.invokestatic 157, 3) := by decide +kernel
theorem dX6_detourOf_45 : decode cX6_detourOf 45 = .ok (.iload_n 2, 1) := by decide +kernel
theorem dX6_detourOf_46 : decode cX6_detourOf 46 = .ok (.bipush 10, 2) := by decide +kernel
theorem dX6_detourOf_48 : decode cX6_detourOf 48 = .ok (.idiv, 1) := by decide +kernel
theorem dX6_detourOf_49 : decode cX6_detourOf 49 = .ok (.iload_n 3, 1) := by decide +kernel
theorem dX6_detourOf_50 : decode cX6_detourOf 50 = .ok (.bipush 10, 2) := by decide +kernel
theorem dX6_detourOf_52 : decode cX6_detourOf 52 = .ok (.idiv, 1) := by decide +kernel
theorem dX6_detourOf_53 : decode cX6_detourOf 53 = .ok (.isub, 1) := by decide +kernel
theorem dX6_detourOf_54 : decode cX6_detourOf 54 = .ok (.invokestatic 157, 3) := by decide +kernel
theorem dX6_detourOf_57 : decode cX6_detourOf 57 = .ok (.iadd, 1) := by decide +kernel
theorem dX6_detourOf_58 : decode cX6_detourOf 58 = .ok (.idiv, 1) := by decide +kernel
theorem dX6_detourOf_59 : decode cX6_detourOf 59 = .ok (.ireturn, 1) := by decide +kernel
theorem dX6_detour_0 : decode cX6_detour 0 = .ok (.aload_n 0, 1) := by decide +kernel
theorem dX6_detour_1 : decode cX6_detour 1 = .ok (.iconst 0, 1) := by decide +kernel
theorem dX6_detour_2 : decode cX6_detour 2 = .ok (.putfield 62, 3) := by decide +kernel
theorem dX6_detour_5 : decode cX6_detour 5 = .ok (.aload_n 0, 1) := by decide +kernel
theorem dX6_detour_6 : decode cX6_detour 6 = .ok (.iload_n 1, 1) := by decide +kernel
theorem dX6_detour_7 : decode cX6_detour 7 = .ok (.invokevirtual 128, 3) := by decide +kernel
theorem dX6_detour_10 : decode cX6_detour 10 = .ok (.ifCond .ne 8, 3) := by decide +kernel
theorem dX6_detour_13 : decode cX6_detour 13 = .ok (.ldc 82, 2) := by decide +kernel
theorem dX6_detour_15 : decode cX6_detour 15 = .ok (.goto 22, 3) := by decide +kernel
theorem dX6_detour_18 : decode cX6_detour 18 = .ok (.aload_n 0, 1) := by decide +kernel
theorem dX6_detour_19 : decode cX6_detour 19 = .ok (.getfield 32, 3) := by decide +kernel
theorem dX6_detour_22 : decode cX6_detour 22 = .ok (.iload_n 1, 1) := by decide +kernel
theorem dX6_detour_23 : decode cX6_detour 23 = .ok (.iaload, 1) := by decide +kernel
theorem dX6_detour_24 : decode cX6_detour 24 = .ok (.ifCond .ne 8, 3) := by decide +kernel
theorem dX6_detour_27 : decode cX6_detour 27 = .ok (.ldc 100, 2) := by decide +kernel
theorem dX6_detour_29 : decode cX6_detour 29 = .ok (.goto 8, 3) := by decide +kernel
theorem dX6_detour_32 : decode cX6_detour 32 = .ok (.aload_n 0, 1) := by decide +kernel
theorem dX6_detour_33 : decode cX6_detour 33 = .ok (.iload_n 1, 1) := by decide +kernel
theorem dX6_detour_34 : decode cX6_detour 34 = .ok (.invokevirtual 160, 3) := by decide +kernel
theorem dX6_detour_37 : decode cX6_detour 37 = .ok (.ireturn, 1) := by decide +kernel
theorem dX6_sharedBy_0 : decode cX6_sharedBy 0 = .ok (.iconst 0, 1) := by decide +kernel
theorem dX6_sharedBy_1 : decode cX6_sharedBy 1 = .ok (.istore_n 3, 1) := by decide +kernel
theorem dX6_sharedBy_2 : decode cX6_sharedBy 2 = .ok (.iconst 0, 1) := by decide +kernel
end
section
theorem dX6_sharedBy_3 : decode cX6_sharedBy 3 = .ok (.istore 4, 2) := by decide +kernel
theorem dX6_sharedBy_5 : decode cX6_sharedBy 5 = .ok (.iload 4, 2) := by decide +kernel
theorem dX6_sharedBy_7 : decode cX6_sharedBy 7 = .ok (.sipush 180, 3) := by decide +kernel
theorem dX6_sharedBy_10 : decode cX6_sharedBy 10 = .ok (.if_icmp .ge 49, 3) := by decide +kernel
theorem dX6_sharedBy_13 : decode cX6_sharedBy 13 = .ok (.iload_n 3, 1) := by decide +kernel
theorem dX6_sharedBy_14 : decode cX6_sharedBy 14 = .ok (.aload_n 0, 1) := by decide +kernel
theorem dX6_sharedBy_15 : decode cX6_sharedBy 15 = .ok (.getfield 38, 3) := by decide +kernel
theorem dX6_sharedBy_18 : decode cX6_sharedBy 18 = .ok (.sipush 180, 3) := by decide +kernel
theorem dX6_sharedBy_21 : decode cX6_sharedBy 21 = .ok (.iload_n 1, 1) := by decide +kernel
theorem dX6_sharedBy_22 : decode cX6_sharedBy 22 = .ok (.imul, 1) := by decide +kernel
theorem dX6_sharedBy_23 : decode cX6_sharedBy 23 = .ok (.iload 4, 2) := by decide +kernel
theorem dX6_sharedBy_25 : decode cX6_sharedBy 25 = .ok (.iadd, 1) := by decide +kernel
theorem dX6_sharedBy_26 : decode cX6_sharedBy 26 = .ok (.baload, 1) := by decide +kernel
theorem dX6_sharedBy_27 : decode cX6_sharedBy 27 = .ok (.ifCond .eq 23, 3) := by decide +kernel
theorem dX6_sharedBy_30 : decode cX6_sharedBy 30 = .ok (.aload_n 0, 1) := by decide +kernel
theorem dX6_sharedBy_31 : decode cX6_sharedBy 31 = .ok (.getfield 38, 3) := by decide +kernel
theorem dX6_sharedBy_34 : decode cX6_sharedBy 34 = .ok (.sipush 180, 3) := by decide +kernel
theorem dX6_sharedBy_37 : decode cX6_sharedBy 37 = .ok (.iload_n 2, 1) := by decide +kernel
theorem dX6_sharedBy_38 : decode cX6_sharedBy 38 = .ok (.imul, 1) := by decide +kernel
theorem dX6_sharedBy_39 : decode cX6_sharedBy 39 = .ok (.iload 4, 2) := by decide +kernel
theorem dX6_sharedBy_41 : decode cX6_sharedBy 41 = .ok (.iadd, 1) := by decide +kernel
theorem dX6_sharedBy_42 : decode cX6_sharedBy 42 = .ok (.baload, 1) := by decide +kernel
theorem dX6_sharedBy_43 : decode cX6_sharedBy 43 = .ok (.ifCond .eq 7, 3) := by decide +kernel
theorem dX6_sharedBy_46 : decode cX6_sharedBy 46 = .ok (.iconst 1, 1) := by decide +kernel
theorem dX6_sharedBy_47 : decode cX6_sharedBy 47 = .ok (.goto 4, 3) := by decide +kernel
theorem dX6_sharedBy_50 : decode cX6_sharedBy 50 = .ok (.iconst 0, 1) := by decide +kernel
theorem dX6_sharedBy_51 : decode cX6_sharedBy 51 = .ok (.iadd, 1) := by decide +kernel
theorem dX6_sharedBy_52 : decode cX6_sharedBy 52 = .ok (.istore_n 3, 1) := by decide +kernel
theorem dX6_sharedBy_53 : decode cX6_sharedBy 53 = .ok (.iinc 4 1, 3) := by decide +kernel
theorem dX6_sharedBy_56 : decode cX6_sharedBy 56 = .ok (.goto (-51), 3) := by decide +kernel
theorem dX6_sharedBy_59 : decode cX6_sharedBy 59 = .ok (.iload_n 3, 1) := by decide +kernel
theorem dX6_sharedBy_60 : decode cX6_sharedBy 60 = .ok (.ireturn, 1) := by decide +kernel
theorem dX6_shared_0 : decode cX6_shared 0 = .ok (.aload_n 0, 1) := by decide +kernel
theorem dX6_shared_1 : decode cX6_shared 1 = .ok (.iconst 0, 1) := by decide +kernel
theorem dX6_shared_2 : decode cX6_shared 2 = .ok (.putfield 62, 3) := by decide +kernel
theorem dX6_shared_5 : decode cX6_shared 5 = .ok (.aload_n 0, 1) := by decide +kernel
theorem dX6_shared_6 : decode cX6_shared 6 = .ok (.iload_n 1, 1) := by decide +kernel
theorem dX6_shared_7 : decode cX6_shared 7 = .ok (.invokevirtual 128, 3) := by decide +kernel
theorem dX6_shared_10 : decode cX6_shared 10 = .ok (.ifCond .eq 11, 3) := by decide +kernel
theorem dX6_shared_13 : decode cX6_shared 13 = .ok (.aload_n 0, 1) := by decide +kernel
theorem dX6_shared_14 : decode cX6_shared 14 = .ok (.iload_n 2, 1) := by decide +kernel
theorem dX6_shared_15 : decode cX6_shared 15 = .ok (.invokevirtual 128, 3) := by decide +kernel
theorem dX6_shared_18 : decode cX6_shared 18 = .ok (.ifCond .ne 8, 3) := by decide +kernel
theorem dX6_shared_21 : decode cX6_shared 21 = .ok (.ldc 82, 2) := by decide +kernel
theorem dX6_shared_23 : decode cX6_shared 23 = .ok (.goto 9, 3) := by decide +kernel
theorem dX6_shared_26 : decode cX6_shared 26 = .ok (.aload_n 0, 1) := by decide +kernel
theorem dX6_shared_27 : decode cX6_shared 27 = .ok (.iload_n 1, 1) := by decide +kernel
theorem dX6_shared_28 : decode cX6_shared 28 = .ok (.iload_n 2, 1) := by decide +kernel
theorem dX6_shared_29 : decode cX6_shared 29 = .ok (.invokevirtual 163, 3) := by decide +kernel
theorem dX6_shared_32 : decode cX6_shared 32 = .ok (.ireturn, 1) := by decide +kernel
theorem dX6_fits_0 : decode cX6_fits 0 = .ok (.iconst 1, 1) := by decide +kernel
theorem dX6_fits_1 : decode cX6_fits 1 = .ok (.istore_n 2, 1) := by decide +kernel
theorem dX6_fits_2 : decode cX6_fits 2 = .ok (.iconst 0, 1) := by decide +kernel
theorem dX6_fits_3 : decode cX6_fits 3 = .ok (.istore_n 3, 1) := by decide +kernel
theorem dX6_fits_4 : decode cX6_fits 4 = .ok (.iload_n 3, 1) := by decide +kernel
theorem dX6_fits_5 : decode cX6_fits 5 = .ok (.iload_n 1, 1) := by decide +kernel
theorem dX6_fits_6 : decode cX6_fits 6 = .ok (.if_icmp .ge 52, 3) := by decide +kernel
theorem dX6_fits_9 : decode cX6_fits 9 = .ok (.iload_n 2, 1) := by decide +kernel
theorem dX6_fits_10 : decode cX6_fits 10 = .ok (.ifCond .eq 40, 3) := by decide +kernel
theorem dX6_fits_13 : decode cX6_fits 13 = .ok (.aload_n 0, 1) := by decide +kernel
theorem dX6_fits_14 : decode cX6_fits 14 = .ok (.getfield 32, 3) := by decide +kernel
theorem dX6_fits_17 : decode cX6_fits 17 = .ok (.iload_n 3, 1) := by decide +kernel
theorem dX6_fits_18 : decode cX6_fits 18 = .ok (.iaload, 1) := by decide +kernel
theorem dX6_fits_19 : decode cX6_fits 19 = .ok (.ifCond .eq 27, 3) := by decide +kernel
theorem dX6_fits_22 : decode cX6_fits 22 = .ok (.aload_n 0, 1) := by decide +kernel
theorem dX6_fits_23 : decode cX6_fits 23 = .ok (.getfield 56, 3) := by decide +kernel
theorem dX6_fits_26 : decode cX6_fits 26 = .ok (.iload_n 3, 1) := by decide +kernel
theorem dX6_fits_27 : decode cX6_fits 27 = .ok (.iaload, 1) := by decide +kernel
theorem dX6_fits_28 : decode cX6_fits 28 = .ok (.aload_n 0, 1) := by decide +kernel
theorem dX6_fits_29 : decode cX6_fits 29 = .ok (.getfield 56, 3) := by decide +kernel
theorem dX6_fits_32 : decode cX6_fits 32 = .ok (.iload_n 1, 1) := by decide +kernel
theorem dX6_fits_33 : decode cX6_fits 33 = .ok (.iaload, 1) := by decide +kernel
theorem dX6_fits_34 : decode cX6_fits 34 = .ok (.if_icmp .ne 12, 3) := by decide +kernel
theorem dX6_fits_37 : decode cX6_fits 37 = .ok (.aload_n 0, 1) := by decide +kernel
theorem dX6_fits_38 : decode cX6_fits 38 = .ok (.iload_n 3, 1) := by decide +kernel
theorem dX6_fits_39 : decode cX6_fits 39 = .ok (.iload_n 1, 1) := by decide +kernel
theorem dX6_fits_40 : decode cX6_fits 40 = .ok (.invokevirtual 163, 3) := by decide +kernel
theorem dX6_fits_43 : decode cX6_fits 43 = .ok (.ifCond .ne 7, 3) := by decide +kernel
theorem dX6_fits_46 : decode cX6_fits 46 = .ok (.iconst 1, 1) := by decide +kernel
theorem dX6_fits_47 : decode cX6_fits 47 = .ok (.goto 4, 3) := by decide +kernel
theorem dX6_fits_50 : decode cX6_fits 50 = .ok (.iconst 0, 1) := by decide +kernel
theorem dX6_fits_51 : decode cX6_fits 51 = .ok (.istore_n 2, 1) := by decide +kernel
theorem dX6_fits_52 : decode cX6_fits 52 = .ok (.iinc 3 1, 3) := by decide +kernel
theorem dX6_fits_55 : decode cX6_fits 55 = .ok (.goto (-51), 3) := by decide +kernel
theorem dX6_fits_58 : decode cX6_fits 58 = .ok (.iload_n 2, 1) := by decide +kernel
theorem dX6_fits_59 : decode cX6_fits 59 = .ok (.ireturn, 1) := by decide +kernel
theorem dX6_tints_0 : decode cX6_tints 0 = .ok (.iconst 0, 1) := by decide +kernel
theorem dX6_tints_1 : decode cX6_tints 1 = .ok (.istore_n 2, 1) := by decide +kernel
theorem dX6_tints_2 : decode cX6_tints 2 = .ok (.iconst 0, 1) := by decide +kernel
theorem dX6_tints_3 : decode cX6_tints 3 = .ok (.istore_n 3, 1) := by decide +kernel
theorem dX6_tints_4 : decode cX6_tints 4 = .ok (.iload_n 3, 1) := by decide +kernel
theorem dX6_tints_5 : decode cX6_tints 5 = .ok (.bipush 12, 2) := by decide +kernel
theorem dX6_tints_7 : decode cX6_tints 7 = .ok (.if_icmp .ge 16, 3) := by decide +kernel
theorem dX6_tints_10 : decode cX6_tints 10 = .ok (.aload_n 0, 1) := by decide +kernel
theorem dX6_tints_11 : decode cX6_tints 11 = .ok (.getfield 56, 3) := by decide +kernel
theorem dX6_tints_14 : decode cX6_tints 14 = .ok (.iload_n 3, 1) := by decide +kernel
theorem dX6_tints_15 : decode cX6_tints 15 = .ok (.iconst (-1), 1) := by decide +kernel
theorem dX6_tints_16 : decode cX6_tints 16 = .ok (.iastore, 1) := by decide +kernel
theorem dX6_tints_17 : decode cX6_tints 17 = .ok (.iinc 3 1, 3) := by decide +kernel
theorem dX6_tints_20 : decode cX6_tints 20 = .ok (.goto (-16), 3) := by decide +kernel
theorem dX6_tints_23 : decode cX6_tints 23 = .ok (.iload_n 2, 1) := by decide +kernel
theorem dX6_tints_24 : decode cX6_tints 24 = .ok (.ifCond .lt 196, 3) := by decide +kernel
theorem dX6_tints_27 : decode cX6_tints 27 = .ok (.iload_n 2, 1) := by decide +kernel
theorem dX6_tints_28 : decode cX6_tints 28 = .ok (.aload_n 0, 1) := by decide +kernel
theorem dX6_tints_29 : decode cX6_tints 29 = .ok (.getfield 102, 3) := by decide +kernel
theorem dX6_tints_32 : decode cX6_tints 32 = .ok (.if_icmp .ge 188, 3) := by decide +kernel
theorem dX6_tints_35 : decode cX6_tints 35 = .ok (.aload_n 0, 1) := by decide +kernel
theorem dX6_tints_36 : decode cX6_tints 36 = .ok (.getfield 32, 3) := by decide +kernel
theorem dX6_tints_39 : decode cX6_tints 39 = .ok (.iload_n 2, 1) := by decide +kernel
theorem dX6_tints_40 : decode cX6_tints 40 = .ok (.iaload, 1) := by decide +kernel
theorem dX6_tints_41 : decode cX6_tints 41 = .ok (.ifCond .ne 47, 3) := by decide +kernel
theorem dX6_tints_44 : decode cX6_tints 44 = .ok (.aload_n 0, 1) := by decide +kernel
theorem dX6_tints_45 : decode cX6_tints 45 = .ok (.getfield 56, 3) := by decide +kernel
theorem dX6_tints_48 : decode cX6_tints 48 = .ok (.iload_n 2, 1) := by decide +kernel
theorem dX6_tints_49 : decode cX6_tints 49 = .ok (.aload_n 0, 1) := by decide +kernel
theorem dX6_tints_50 : decode cX6_tints 50 = .ok (.getfield 56, 3) := by decide +kernel
theorem dX6_tints_53 : decode cX6_tints 53 = .ok (.iload_n 2, 1) := by decide +kernel
theorem dX6_tints_54 : decode cX6_tints 54 = .ok (.iaload, 1) := by decide +kernel
theorem dX6_tints_55 : decode cX6_tints 55 = .ok (.iconst (-1), 1) := by decide +kernel
theorem dX6_tints_56 : decode cX6_tints 56 = .ok (.if_icmp .ne 8, 3) := by decide +kernel
theorem dX6_tints_59 : decode cX6_tints 59 = .ok (.bipush (-2), 2) := by decide +kernel
theorem dX6_tints_61 : decode cX6_tints 61 = .ok (.goto 4, 3) := by decide +kernel
theorem dX6_tints_64 : decode cX6_tints 64 = .ok (.iconst (-1), 1) := by decide +kernel
theorem dX6_tints_65 : decode cX6_tints 65 = .ok (.iastore, 1) := by decide +kernel
theorem dX6_tints_66 : decode cX6_tints 66 = .ok (.iload_n 2, 1) := by decide +kernel
theorem dX6_tints_67 : decode cX6_tints 67 = .ok (.aload_n 0, 1) := by decide +kernel
theorem dX6_tints_68 : decode cX6_tints 68 = .ok (.getfield 56, 3) := by decide +kernel
theorem dX6_tints_71 : decode cX6_tints 71 = .ok (.iload_n 2, 1) := by decide +kernel
theorem dX6_tints_72 : decode cX6_tints 72 = .ok (.iaload, 1) := by decide +kernel
theorem dX6_tints_73 : decode cX6_tints 73 = .ok (.bipush (-2), 2) := by decide +kernel
theorem dX6_tints_75 : decode cX6_tints 75 = .ok (.if_icmp .ne 7, 3) := by decide +kernel
theorem dX6_tints_78 : decode cX6_tints 78 = .ok (.iconst 1, 1) := by decide +kernel
theorem dX6_tints_79 : decode cX6_tints 79 = .ok (.goto 4, 3) := by decide +kernel
theorem dX6_tints_82 : decode cX6_tints 82 = .ok (.iconst (-1), 1) := by decide +kernel
theorem dX6_tints_83 : decode cX6_tints 83 = .ok (.iadd, 1) := by decide +kernel
theorem dX6_tints_84 : decode cX6_tints 84 = .ok (.istore_n 2, 1) := by decide +kernel
theorem dX6_tints_85 : decode cX6_tints 85 = .ok (.goto (-62), 3) := by decide +kernel
theorem dX6_tints_88 : decode cX6_tints 88 = .ok (.iconst 0, 1) := by decide +kernel
theorem dX6_tints_89 : decode cX6_tints 89 = .ok (.istore_n 3, 1) := by decide +kernel
theorem dX6_tints_90 : decode cX6_tints 90 = .ok (.iconst 0, 1) := by decide +kernel
theorem dX6_tints_91 : decode cX6_tints 91 = .ok (.istore 4, 2) := by decide +kernel
theorem dX6_tints_93 : decode cX6_tints 93 = .ok (.iload 4, 2) := by decide +kernel
theorem dX6_tints_95 : decode cX6_tints 95 = .ok (.iload_n 2, 1) := by decide +kernel
theorem dX6_tints_96 : decode cX6_tints 96 = .ok (.if_icmp .ge 36, 3) := by decide +kernel
theorem dX6_tints_99 : decode cX6_tints 99 = .ok (.aload_n 0, 1) := by decide +kernel
theorem dX6_tints_100 : decode cX6_tints 100 = .ok (.getfield 56, 3) := by decide +kernel
theorem dX6_tints_103 : decode cX6_tints 103 = .ok (.iload 4, 2) := by decide +kernel
theorem dX6_tints_105 : decode cX6_tints 105 = .ok (.iaload, 1) := by decide +kernel
theorem dX6_tints_106 : decode cX6_tints 106 = .ok (.iconst 1, 1) := by decide +kernel
theorem dX6_tints_107 : decode cX6_tints 107 = .ok (.iadd, 1) := by decide +kernel
theorem dX6_tints_108 : decode cX6_tints 108 = .ok (.iload_n 3, 1) := by decide +kernel
theorem dX6_tints_109 : decode cX6_tints 109 = .ok (.if_icmp .le 15, 3) := by decide +kernel
theorem dX6_tints_112 : decode cX6_tints 112 = .ok (.aload_n 0, 1) := by decide +kernel
theorem dX6_tints_113 : decode cX6_tints 113 = .ok (.getfield 56, 3) := by decide +kernel
theorem dX6_tints_116 : decode cX6_tints 116 = .ok (.iload 4, 2) := by decide +kernel
theorem dX6_tints_118 : decode cX6_tints 118 = .ok (.iaload, 1) := by decide +kernel
theorem dX6_tints_119 : decode cX6_tints 119 = .ok (.iconst 1, 1) := by decide +kernel
theorem dX6_tints_120 : decode cX6_tints 120 = .ok (.iadd, 1) := by decide +kernel
theorem dX6_tints_121 : decode cX6_tints 121 = .ok (.goto 4, 3) := by decide +kernel
theorem dX6_tints_124 : decode cX6_tints 124 = .ok (.iload_n 3, 1) := by decide +kernel
theorem dX6_tints_125 : decode cX6_tints 125 = .ok (.istore_n 3, 1) := by decide +kernel
theorem dX6_tints_126 : decode cX6_tints 126 = .ok (.iinc 4 1, 3) := by decide +kernel
theorem dX6_tints_129 : decode cX6_tints 129 = .ok (.goto (-36), 3) := by decide +kernel
theorem dX6_tints_132 : decode cX6_tints 132 = .ok (.iload_n 3, 1) := by decide +kernel
theorem dX6_tints_133 : decode cX6_tints 133 = .ok (.iconst 1, 1) := by decide +kernel
theorem dX6_tints_134 : decode cX6_tints 134 = .ok (.iadd, 1) := by decide +kernel
theorem dX6_tints_135 : decode cX6_tints 135 = .ok (.iload_n 1, 1) := by decide +kernel
theorem dX6_tints_136 : decode cX6_tints 136 = .ok (.if_icmp .ge 9, 3) := by decide +kernel
theorem dX6_tints_139 : decode cX6_tints 139 = .ok (.iload_n 3, 1) := by decide +kernel
theorem dX6_tints_140 : decode cX6_tints 140 = .ok (.iconst 1, 1) := by decide +kernel
theorem dX6_tints_141 : decode cX6_tints 141 = .ok (.iadd, 1) := by decide +kernel
theorem dX6_tints_142 : decode cX6_tints 142 = .ok (.goto 4, 3) := by decide +kernel
theorem dX6_tints_145 : decode cX6_tints 145 = .ok (.iload_n 1, 1) := by decide +kernel
theorem dX6_tints_146 : decode cX6_tints 146 = .ok (.istore 4, 2) := by decide +kernel
theorem dX6_tints_148 : decode cX6_tints 148 = .ok (.aload_n 0, 1) := by decide +kernel
theorem dX6_tints_149 : decode cX6_tints 149 = .ok (.getfield 56, 3) := by decide +kernel
theorem dX6_tints_152 : decode cX6_tints 152 = .ok (.iload_n 2, 1) := by decide +kernel
theorem dX6_tints_153 : decode cX6_tints 153 = .ok (.dup2, 1) := by decide +kernel
theorem dX6_tints_154 : decode cX6_tints 154 = .ok (.iaload, 1) := by decide +kernel
theorem dX6_tints_155 : decode cX6_tints 155 = .ok (.iconst 1, 1) := by decide +kernel
theorem dX6_tints_156 : decode cX6_tints 156 = .ok (.iadd, 1) := by decide +kernel
theorem dX6_tints_157 : decode cX6_tints 157 = .ok (.iastore, 1) := by decide +kernel
theorem dX6_tints_158 : decode cX6_tints 158 = .ok (.aload_n 0, 1) := by decide +kernel
theorem dX6_tints_159 : decode cX6_tints 159 = .ok (.getfield 56, 3) := by decide +kernel
theorem dX6_tints_162 : decode cX6_tints 162 = .ok (.iload_n 2, 1) := by decide +kernel
theorem dX6_tints_163 : decode cX6_tints 163 = .ok (.iaload, 1) := by decide +kernel
theorem dX6_tints_164 : decode cX6_tints 164 = .ok (.iload 4, 2) := by decide +kernel
theorem dX6_tints_166 : decode cX6_tints 166 = .ok (.if_icmp .ge 24, 3) := by decide +kernel
theorem dX6_tints_169 : decode cX6_tints 169 = .ok (.aload_n 0, 1) := by decide +kernel
theorem dX6_tints_170 : decode cX6_tints 170 = .ok (.iload_n 2, 1) := by decide +kernel
theorem dX6_tints_171 : decode cX6_tints 171 = .ok (.invokevirtual 166, 3) := by decide +kernel
theorem dX6_tints_174 : decode cX6_tints 174 = .ok (.ifCond .ne 16, 3) := by decide +kernel
theorem dX6_tints_177 : decode cX6_tints 177 = .ok (.aload_n 0, 1) := by decide +kernel
theorem dX6_tints_178 : decode cX6_tints 178 = .ok (.getfield 56, 3) := by decide +kernel
theorem dX6_tints_181 : decode cX6_tints 181 = .ok (.iload_n 2, 1) := by decide +kernel
theorem dX6_tints_182 : decode cX6_tints 182 = .ok (.dup2, 1) := by decide +kernel
theorem dX6_tints_183 : decode cX6_tints 183 = .ok (.iaload, 1) := by decide +kernel
theorem dX6_tints_184 : decode cX6_tints 184 = .ok (.iconst 1, 1) := by decide +kernel
theorem dX6_tints_185 : decode cX6_tints 185 = .ok (.iadd, 1) := by decide +kernel
theorem dX6_tints_186 : decode cX6_tints 186 = .ok (.iastore, 1) := by decide +kernel
theorem dX6_tints_187 : decode cX6_tints 187 = .ok (.goto (-29), 3) := by decide +kernel
theorem dX6_tints_190 : decode cX6_tints 190 = .ok (.aload_n 0, 1) := by decide +kernel
theorem dX6_tints_191 : decode cX6_tints 191 = .ok (.getfield 56, 3) := by decide +kernel
theorem dX6_tints_194 : decode cX6_tints 194 = .ok (.iload_n 2, 1) := by decide +kernel
theorem dX6_tints_195 : decode cX6_tints 195 = .ok (.iaload, 1) := by decide +kernel
theorem dX6_tints_196 : decode cX6_tints 196 = .ok (.iload 4, 2) := by decide +kernel
theorem dX6_tints_198 : decode cX6_tints 198 = .ok (.if_icmp .ge 9, 3) := by decide +kernel
theorem dX6_tints_201 : decode cX6_tints 201 = .ok (.iinc 2 1, 3) := by decide +kernel
theorem dX6_tints_204 : decode cX6_tints 204 = .ok (.goto 13, 3) := by decide +kernel
theorem dX6_tints_207 : decode cX6_tints 207 = .ok (.aload_n 0, 1) := by decide +kernel
theorem dX6_tints_208 : decode cX6_tints 208 = .ok (.getfield 56, 3) := by decide +kernel
theorem dX6_tints_211 : decode cX6_tints 211 = .ok (.iload_n 2, 1) := by decide +kernel
theorem dX6_tints_212 : decode cX6_tints 212 = .ok (.iconst (-1), 1) := by decide +kernel
theorem dX6_tints_213 : decode cX6_tints 213 = .ok (.iastore, 1) := by decide +kernel
theorem dX6_tints_214 : decode cX6_tints 214 = .ok (.iinc 2 (-1), 3) := by decide +kernel
theorem dX6_tints_217 : decode cX6_tints 217 = .ok (.goto (-194), 3) := by decide +kernel
theorem dX6_tints_220 : decode cX6_tints 220 = .ok (.iload_n 2, 1) := by decide +kernel
theorem dX6_tints_221 : decode cX6_tints 221 = .ok (.ifCond .lt 7, 3) := by decide +kernel
theorem dX6_tints_224 : decode cX6_tints 224 = .ok (.iconst 1, 1) := by decide +kernel
theorem dX6_tints_225 : decode cX6_tints 225 = .ok (.goto 4, 3) := by decide +kernel
theorem dX6_tints_228 : decode cX6_tints 228 = .ok (.iconst 0, 1) := by decide +kernel
theorem dX6_tints_229 : decode cX6_tints 229 = .ok (.ireturn, 1) := by decide +kernel
theorem dX6_ways_0 : decode cX6_ways 0 = .ok (.iconst 0, 1) := by decide +kernel
theorem dX6_ways_1 : decode cX6_ways 1 = .ok (.istore_n 1, 1) := by decide +kernel
theorem dX6_ways_2 : decode cX6_ways 2 = .ok (.iconst 0, 1) := by decide +kernel
theorem dX6_ways_3 : decode cX6_ways 3 = .ok (.istore_n 2, 1) := by decide +kernel
theorem dX6_ways_4 : decode cX6_ways 4 = .ok (.iload_n 2, 1) := by decide +kernel
theorem dX6_ways_5 : decode cX6_ways 5 = .ok (.aload_n 0, 1) := by decide +kernel
theorem dX6_ways_6 : decode cX6_ways 6 = .ok (.getfield 102, 3) := by decide +kernel
theorem dX6_ways_9 : decode cX6_ways 9 = .ok (.if_icmp .ge 26, 3) := by decide +kernel
theorem dX6_ways_12 : decode cX6_ways 12 = .ok (.iload_n 1, 1) := by decide +kernel
theorem dX6_ways_13 : decode cX6_ways 13 = .ok (.aload_n 0, 1) := by decide +kernel
theorem dX6_ways_14 : decode cX6_ways 14 = .ok (.getfield 32, 3) := by decide +kernel
theorem dX6_ways_17 : decode cX6_ways 17 = .ok (.iload_n 2, 1) := by decide +kernel
theorem dX6_ways_18 : decode cX6_ways 18 = .ok (.iaload, 1) := by decide +kernel
theorem dX6_ways_19 : decode cX6_ways 19 = .ok (.ifCond .le 7, 3) := by decide +kernel
theorem dX6_ways_22 : decode cX6_ways 22 = .ok (.iconst 1, 1) := by decide +kernel
theorem dX6_ways_23 : decode cX6_ways 23 = .ok (.goto 4, 3) := by decide +kernel
theorem dX6_ways_26 : decode cX6_ways 26 = .ok (.iconst 0, 1) := by decide +kernel
theorem dX6_ways_27 : decode cX6_ways 27 = .ok (.iadd, 1) := by decide +kernel
theorem dX6_ways_28 : decode cX6_ways 28 = .ok (.istore_n 1, 1) := by decide +kernel
theorem dX6_ways_29 : decode cX6_ways 29 = .ok (.iinc 2 1, 3) := by decide +kernel
theorem dX6_ways_32 : decode cX6_ways 32 = .ok (.goto (-28), 3) := by decide +kernel
theorem dX6_ways_35 : decode cX6_ways 35 = .ok (.iload_n 1, 1) := by decide +kernel
theorem dX6_ways_36 : decode cX6_ways 36 = .ok (.ireturn, 1) := by decide +kernel
theorem dX6_tint_0 : decode cX6_tint 0 = .ok (.aload_n 0, 1) := by decide +kernel
theorem dX6_tint_1 : decode cX6_tint 1 = .ok (.iconst 0, 1) := by decide +kernel
theorem dX6_tint_2 : decode cX6_tint 2 = .ok (.putfield 62, 3) := by decide +kernel
theorem dX6_tint_5 : decode cX6_tint 5 = .ok (.iload_n 1, 1) := by decide +kernel
theorem dX6_tint_6 : decode cX6_tint 6 = .ok (.ldc 93, 2) := by decide +kernel
theorem dX6_tint_8 : decode cX6_tint 8 = .ok (.if_icmp .eq 14, 3) := by decide +kernel
theorem dX6_tint_11 : decode cX6_tint 11 = .ok (.aload_n 0, 1) := by decide +kernel
theorem dX6_tint_12 : decode cX6_tint 12 = .ok (.iload_n 1, 1) := by decide +kernel
theorem dX6_tint_13 : decode cX6_tint 13 = .ok (.invokevirtual 128, 3) := by decide +kernel
theorem dX6_tint_16 : decode cX6_tint 16 = .ok (.ifCond .ne 6, 3) := by decide +kernel
theorem dX6_tint_19 : decode cX6_tint 19 = .ok (.ldc 82, 2) := by decide +kernel
theorem dX6_tint_21 : decode cX6_tint 21 = .ok (.ireturn, 1) := by decide +kernel
theorem dX6_tint_22 : decode cX6_tint 22 = .ok (.aload_n 0, 1) := by decide +kernel
theorem dX6_tint_23 : decode cX6_tint 23 = .ok (.invokevirtual 169, 3) := by decide +kernel
theorem dX6_tint_26 : decode cX6_tint 26 = .ok (.ifCond .ne 7, 3) := by decide +kernel
theorem dX6_tint_29 : decode cX6_tint 29 = .ok (.iconst 0, 1) := by decide +kernel
theorem dX6_tint_30 : decode cX6_tint 30 = .ok (.goto 4, 3) := by decide +kernel
theorem dX6_tint_33 : decode cX6_tint 33 = .ok (.iconst 1, 1) := by decide +kernel
theorem dX6_tint_34 : decode cX6_tint 34 = .ok (.istore_n 2, 1) := by decide +kernel
theorem dX6_tint_35 : decode cX6_tint 35 = .ok (.iload_n 2, 1) := by decide +kernel
theorem dX6_tint_36 : decode cX6_tint 36 = .ok (.ifCond .le 17, 3) := by decide +kernel
theorem dX6_tint_39 : decode cX6_tint 39 = .ok (.aload_n 0, 1) := by decide +kernel
theorem dX6_tint_40 : decode cX6_tint 40 = .ok (.iload_n 2, 1) := by decide +kernel
theorem dX6_tint_41 : decode cX6_tint 41 = .ok (.invokevirtual 172, 3) := by decide +kernel
theorem dX6_tint_44 : decode cX6_tint 44 = .ok (.ifCond .ne 9, 3) := by decide +kernel
theorem dX6_tint_47 : decode cX6_tint 47 = .ok (.iinc 2 1, 3) := by decide +kernel
theorem dX6_tint_50 : decode cX6_tint 50 = .ok (.goto (-15), 3) := by decide +kernel
theorem dX6_tint_53 : decode cX6_tint 53 = .ok (.iload_n 1, 1) := by decide +kernel
theorem dX6_tint_54 : decode cX6_tint 54 = .ok (.ldc 93, 2) := by decide +kernel
theorem dX6_tint_56 : decode cX6_tint 56 = .ok (.if_icmp .ne 7, 3) := by decide +kernel
theorem dX6_tint_59 : decode cX6_tint 59 = .ok (.iload_n 2, 1) := by decide +kernel
theorem dX6_tint_60 : decode cX6_tint 60 = .ok (.goto 23, 3) := by decide +kernel
theorem dX6_tint_63 : decode cX6_tint 63 = .ok (.aload_n 0, 1) := by decide +kernel
theorem dX6_tint_64 : decode cX6_tint 64 = .ok (.getfield 32, 3) := by decide +kernel
theorem dX6_tint_67 : decode cX6_tint 67 = .ok (.iload_n 1, 1) := by decide +kernel
theorem dX6_tint_68 : decode cX6_tint 68 = .ok (.iaload, 1) := by decide +kernel
theorem dX6_tint_69 : decode cX6_tint 69 = .ok (.ifCond .ne 8, 3) := by decide +kernel
theorem dX6_tint_72 : decode cX6_tint 72 = .ok (.ldc 93, 2) := by decide +kernel
theorem dX6_tint_74 : decode cX6_tint 74 = .ok (.goto 9, 3) := by decide +kernel
theorem dX6_tint_77 : decode cX6_tint 77 = .ok (.aload_n 0, 1) := by decide +kernel
theorem dX6_tint_78 : decode cX6_tint 78 = .ok (.getfield 56, 3) := by decide +kernel
theorem dX6_tint_81 : decode cX6_tint 81 = .ok (.iload_n 1, 1) := by decide +kernel
theorem dX6_tint_82 : decode cX6_tint 82 = .ok (.iaload, 1) := by decide +kernel
theorem dX6_tint_83 : decode cX6_tint 83 = .ok (.ireturn, 1) := by decide +kernel
theorem dX6_isEnd_0 : decode cX6_isEnd 0 = .ok (.iconst 0, 1) := by decide +kernel
theorem dX6_isEnd_1 : decode cX6_isEnd 1 = .ok (.istore_n 2, 1) := by decide +kernel
theorem dX6_isEnd_2 : decode cX6_isEnd 2 = .ok (.iconst 0, 1) := by decide +kernel
theorem dX6_isEnd_3 : decode cX6_isEnd 3 = .ok (.istore_n 3, 1) := by decide +kernel
theorem dX6_isEnd_4 : decode cX6_isEnd 4 = .ok (.iload_n 3, 1) := by decide +kernel
theorem dX6_isEnd_5 : decode cX6_isEnd 5 = .ok (.aload_n 0, 1) := by decide +kernel
theorem dX6_isEnd_6 : decode cX6_isEnd 6 = .ok (.getfield 102, 3) := by decide +kernel
theorem dX6_isEnd_9 : decode cX6_isEnd 9 = .ok (.if_icmp .ge 48, 3) := by decide +kernel
theorem dX6_isEnd_12 : decode cX6_isEnd 12 = .ok (.iload_n 2, 1) := by decide +kernel
theorem dX6_isEnd_13 : decode cX6_isEnd 13 = .ok (.ifCond .ne 32, 3) := by decide +kernel
theorem dX6_isEnd_16 : decode cX6_isEnd 16 = .ok (.aload_n 0, 1) := by decide +kernel
theorem dX6_isEnd_17 : decode cX6_isEnd 17 = .ok (.getfield 32, 3) := by decide +kernel
theorem dX6_isEnd_20 : decode cX6_isEnd 20 = .ok (.iload_n 3, 1) := by decide +kernel
theorem dX6_isEnd_21 : decode cX6_isEnd 21 = .ok (.iaload, 1) := by decide +kernel
theorem dX6_isEnd_22 : decode cX6_isEnd 22 = .ok (.ifCond .le 27, 3) := by decide +kernel
theorem dX6_isEnd_25 : decode cX6_isEnd 25 = .ok (.aload_n 0, 1) := by decide +kernel
theorem dX6_isEnd_26 : decode cX6_isEnd 26 = .ok (.getfield 26, 3) := by decide +kernel
theorem dX6_isEnd_29 : decode cX6_isEnd 29 = .ok (.iload_n 3, 1) := by decide +kernel
theorem dX6_isEnd_30 : decode cX6_isEnd 30 = .ok (.iaload, 1) := by decide +kernel
theorem dX6_isEnd_31 : decode cX6_isEnd 31 = .ok (.iload_n 1, 1) := by decide +kernel
theorem dX6_isEnd_32 : decode cX6_isEnd 32 = .ok (.if_icmp .eq 13, 3) := by decide +kernel
theorem dX6_isEnd_35 : decode cX6_isEnd 35 = .ok (.aload_n 0, 1) := by decide +kernel
theorem dX6_isEnd_36 : decode cX6_isEnd 36 = .ok (.getfield 29, 3) := by decide +kernel
theorem dX6_isEnd_39 : decode cX6_isEnd 39 = .ok (.iload_n 3, 1) := by decide +kernel
theorem dX6_isEnd_40 : decode cX6_isEnd 40 = .ok (.iaload, 1) := by decide +kernel
theorem dX6_isEnd_41 : decode cX6_isEnd 41 = .ok (.iload_n 1, 1) := by decide +kernel
theorem dX6_isEnd_42 : decode cX6_isEnd 42 = .ok (.if_icmp .ne 7, 3) := by decide +kernel
theorem dX6_isEnd_45 : decode cX6_isEnd 45 = .ok (.iconst 1, 1) := by decide +kernel
theorem dX6_isEnd_46 : decode cX6_isEnd 46 = .ok (.goto 4, 3) := by decide +kernel
theorem dX6_isEnd_49 : decode cX6_isEnd 49 = .ok (.iconst 0, 1) := by decide +kernel
theorem dX6_isEnd_50 : decode cX6_isEnd 50 = .ok (.istore_n 2, 1) := by decide +kernel
theorem dX6_isEnd_51 : decode cX6_isEnd 51 = .ok (.iinc 3 1, 3) := by decide +kernel
theorem dX6_isEnd_54 : decode cX6_isEnd 54 = .ok (.goto (-50), 3) := by decide +kernel
theorem dX6_isEnd_57 : decode cX6_isEnd 57 = .ok (.iload_n 2, 1) := by decide +kernel
theorem dX6_isEnd_58 : decode cX6_isEnd 58 = .ok (.ireturn, 1) := by decide +kernel
theorem dX6_isWide_0 : decode cX6_isWide 0 = .ok (.iload_n 1, 1) := by decide +kernel
theorem dX6_isWide_1 : decode cX6_isWide 1 = .ok (.iload_n 2, 1) := by decide +kernel
theorem dX6_isWide_2 : decode cX6_isWide 2 = .ok (.invokestatic 105, 3) := by decide +kernel
theorem dX6_isWide_5 : decode cX6_isWide 5 = .ok (.ldc 93, 2) := by decide +kernel
theorem dX6_isWide_7 : decode cX6_isWide 7 = .ok (.if_icmp .eq 19, 3) := by decide +kernel
theorem dX6_isWide_10 : decode cX6_isWide 10 = .ok (.aload_n 0, 1) := by decide +kernel
theorem dX6_isWide_11 : decode cX6_isWide 11 = .ok (.iload_n 1, 1) := by decide +kernel
theorem dX6_isWide_12 : decode cX6_isWide 12 = .ok (.iload_n 2, 1) := by decide +kernel
theorem dX6_isWide_13 : decode cX6_isWide 13 = .ok (.invokestatic 109, 3) := by decide +kernel
theorem dX6_isWide_16 : decode cX6_isWide 16 = .ok (.invokevirtual 112, 3) := by decide +kernel
theorem dX6_isWide_19 : decode cX6_isWide 19 = .ok (.ifCond .le 7, 3) := by decide +kernel
theorem dX6_isWide_22 : decode cX6_isWide 22 = .ok (.iconst 1, 1) := by decide +kernel
theorem dX6_isWide_23 : decode cX6_isWide 23 = .ok (.goto 4, 3) := by decide +kernel
theorem dX6_isWide_26 : decode cX6_isWide 26 = .ok (.iconst 0, 1) := by decide +kernel
theorem dX6_isWide_27 : decode cX6_isWide 27 = .ok (.ireturn, 1) := by decide +kernel
theorem dX6_reads_0 : decode cX6_reads 0 = .ok (.aload_n 0, 1) := by decide +kernel
theorem dX6_reads_1 : decode cX6_reads 1 = .ok (.iconst 0, 1) := by decide +kernel
theorem dX6_reads_2 : decode cX6_reads 2 = .ok (.putfield 62, 3) := by decide +kernel
theorem dX6_reads_5 : decode cX6_reads 5 = .ok (.aload_n 0, 1) := by decide +kernel
theorem dX6_reads_6 : decode cX6_reads 6 = .ok (.iload_n 1, 1) := by decide +kernel
theorem dX6_reads_7 : decode cX6_reads 7 = .ok (.invokevirtual 118, 3) := by decide +kernel
theorem dX6_reads_10 : decode cX6_reads 10 = .ok (.ifCond .eq 15, 3) := by decide +kernel
theorem dX6_reads_13 : decode cX6_reads 13 = .ok (.iload_n 2, 1) := by decide +kernel
theorem dX6_reads_14 : decode cX6_reads 14 = .ok (.i2l, 1) := by decide +kernel
theorem dX6_reads_15 : decode cX6_reads 15 = .ok (.lconst 0, 1) := by decide +kernel
theorem dX6_reads_16 : decode cX6_reads 16 = .ok (.ldc2_w 143, 3) := by decide +kernel
theorem dX6_reads_19 : decode cX6_reads 19 = .ok (.invokestatic 72, 3) := by decide +kernel
theorem dX6_reads_22 : decode cX6_reads 22 = .ok (.ifCond .ne 6, 3) := by decide +kernel
theorem dX6_reads_25 : decode cX6_reads 25 = .ok (.ldc 82, 2) := by decide +kernel
theorem dX6_reads_27 : decode cX6_reads 27 = .ok (.ireturn, 1) := by decide +kernel
theorem dX6_reads_28 : decode cX6_reads 28 = .ok (.aload_n 0, 1) := by decide +kernel
theorem dX6_reads_29 : decode cX6_reads 29 = .ok (.getfield 23, 3) := by decide +kernel
theorem dX6_reads_32 : decode cX6_reads 32 = .ok (.iload_n 1, 1) := by decide +kernel
theorem dX6_reads_33 : decode cX6_reads 33 = .ok (.iaload, 1) := by decide +kernel
theorem dX6_reads_34 : decode cX6_reads 34 = .ok (.istore_n 3, 1) := by decide +kernel
theorem dX6_reads_35 : decode cX6_reads 35 = .ok (.aload_n 0, 1) := by decide +kernel
theorem dX6_reads_36 : decode cX6_reads 36 = .ok (.iload_n 3, 1) := by decide +kernel
theorem dX6_reads_37 : decode cX6_reads 37 = .ok (.iload_n 2, 1) := by decide +kernel
theorem dX6_reads_38 : decode cX6_reads 38 = .ok (.invokevirtual 175, 3) := by decide +kernel
theorem dX6_reads_41 : decode cX6_reads 41 = .ok (.ifCond .ne 6, 3) := by decide +kernel
theorem dX6_reads_44 : decode cX6_reads 44 = .ok (.ldc 100, 2) := by decide +kernel
theorem dX6_reads_46 : decode cX6_reads 46 = .ok (.ireturn, 1) := by decide +kernel
theorem dX6_reads_47 : decode cX6_reads 47 = .ok (.iload_n 2, 1) := by decide +kernel
theorem dX6_reads_48 : decode cX6_reads 48 = .ok (.istore 4, 2) := by decide +kernel
theorem dX6_reads_50 : decode cX6_reads 50 = .ok (.iconst 1, 1) := by decide +kernel
theorem dX6_reads_51 : decode cX6_reads 51 = .ok (.istore 5, 2) := by decide +kernel
theorem dX6_reads_53 : decode cX6_reads 53 = .ok (.iload 5, 2) := by decide +kernel
theorem dX6_reads_55 : decode cX6_reads 55 = .ok (.bipush 100, 2) := by decide +kernel
theorem dX6_reads_57 : decode cX6_reads 57 = .ok (.if_icmp .gt 111, 3) := by decide +kernel
theorem dX6_reads_60 : decode cX6_reads 60 = .ok (.iload_n 3, 1) := by decide +kernel
theorem dX6_reads_61 : decode cX6_reads 61 = .ok (.iload 4, 2) := by decide +kernel
theorem dX6_reads_63 : decode cX6_reads 63 = .ok (.invokestatic 105, 3) := by decide +kernel
theorem dX6_reads_66 : decode cX6_reads 66 = .ok (.istore_n 3, 1) := by decide +kernel
theorem dX6_reads_67 : decode cX6_reads 67 = .ok (.aload_n 0, 1) := by decide +kernel
theorem dX6_reads_68 : decode cX6_reads 68 = .ok (.iload_n 3, 1) := by decide +kernel
theorem dX6_reads_69 : decode cX6_reads 69 = .ok (.invokevirtual 97, 3) := by decide +kernel
theorem dX6_reads_72 : decode cX6_reads 72 = .ok (.istore 6, 2) := by decide +kernel
theorem dX6_reads_74 : decode cX6_reads 74 = .ok (.iload 6, 2) := by decide +kernel
theorem dX6_reads_76 : decode cX6_reads 76 = .ok (.ldc 93, 2) := by decide +kernel
theorem dX6_reads_78 : decode cX6_reads 78 = .ok (.if_icmp .eq 21, 3) := by decide +kernel
theorem dX6_reads_81 : decode cX6_reads 81 = .ok (.iload 6, 2) := by decide +kernel
theorem dX6_reads_83 : decode cX6_reads 83 = .ok (.iload_n 1, 1) := by decide +kernel
theorem dX6_reads_84 : decode cX6_reads 84 = .ok (.if_icmp .eq 15, 3) := by decide +kernel
theorem dX6_reads_87 : decode cX6_reads 87 = .ok (.aload_n 0, 1) := by decide +kernel
theorem dX6_reads_88 : decode cX6_reads 88 = .ok (.iload 6, 2) := by decide +kernel
theorem dX6_reads_90 : decode cX6_reads 90 = .ok (.invokevirtual 178, 3) := by decide +kernel
theorem dX6_reads_93 : decode cX6_reads 93 = .ok (.ifCond .eq 6, 3) := by decide +kernel
theorem dX6_reads_96 : decode cX6_reads 96 = .ok (.iload 6, 2) := by decide +kernel
theorem dX6_reads_98 : decode cX6_reads 98 = .ok (.ireturn, 1) := by decide +kernel
theorem dX6_reads_99 : decode cX6_reads 99 = .ok (.aload_n 0, 1) := by decide +kernel
theorem dX6_reads_100 : decode cX6_reads 100 = .ok (.iload_n 3, 1) := by decide +kernel
theorem dX6_reads_101 : decode cX6_reads 101 = .ok (.iload 4, 2) := by decide +kernel
theorem dX6_reads_103 : decode cX6_reads 103 = .ok (.invokevirtual 175, 3) := by decide +kernel
theorem dX6_reads_106 : decode cX6_reads 106 = .ok (.ifCond .ne 56, 3) := by decide +kernel
theorem dX6_reads_109 : decode cX6_reads 109 = .ok (.aload_n 0, 1) := by decide +kernel
theorem dX6_reads_110 : decode cX6_reads 110 = .ok (.iload_n 3, 1) := by decide +kernel
theorem dX6_reads_111 : decode cX6_reads 111 = .ok (.iload 4, 2) := by decide +kernel
theorem dX6_reads_113 : decode cX6_reads 113 = .ok (.iconst 1, 1) := by decide +kernel
theorem dX6_reads_114 : decode cX6_reads 114 = .ok (.iadd, 1) := by decide +kernel
theorem dX6_reads_115 : decode cX6_reads 115 = .ok (.iconst 4, 1) := by decide +kernel
theorem dX6_reads_116 : decode cX6_reads 116 = .ok (.irem, 1) := by decide +kernel
theorem dX6_reads_117 : decode cX6_reads 117 = .ok (.invokevirtual 175, 3) := by decide +kernel
theorem dX6_reads_120 : decode cX6_reads 120 = .ok (.ifCond .eq 14, 3) := by decide +kernel
theorem dX6_reads_123 : decode cX6_reads 123 = .ok (.iload 4, 2) := by decide +kernel
theorem dX6_reads_125 : decode cX6_reads 125 = .ok (.iconst 1, 1) := by decide +kernel
theorem dX6_reads_126 : decode cX6_reads 126 = .ok (.iadd, 1) := by decide +kernel
theorem dX6_reads_127 : decode cX6_reads 127 = .ok (.iconst 4, 1) := by decide +kernel
theorem dX6_reads_128 : decode cX6_reads 128 = .ok (.irem, 1) := by decide +kernel
theorem dX6_reads_129 : decode cX6_reads 129 = .ok (.istore 4, 2) := by decide +kernel
theorem dX6_reads_131 : decode cX6_reads 131 = .ok (.goto 31, 3) := by decide +kernel
theorem dX6_reads_134 : decode cX6_reads 134 = .ok (.aload_n 0, 1) := by decide +kernel
theorem dX6_reads_135 : decode cX6_reads 135 = .ok (.iload_n 3, 1) := by decide +kernel
theorem dX6_reads_136 : decode cX6_reads 136 = .ok (.iload 4, 2) := by decide +kernel
theorem dX6_reads_138 : decode cX6_reads 138 = .ok (.iconst 3, 1) := by decide +kernel
theorem dX6_reads_139 : decode cX6_reads 139 = .ok (.iadd, 1) := by decide +kernel
theorem dX6_reads_140 : decode cX6_reads 140 = .ok (.iconst 4, 1) := by decide +kernel
theorem dX6_reads_141 : decode cX6_reads 141 = .ok (.irem, 1) := by decide +kernel
theorem dX6_reads_142 : decode cX6_reads 142 = .ok (.invokevirtual 175, 3) := by decide +kernel
theorem dX6_reads_145 : decode cX6_reads 145 = .ok (.ifCond .eq 14, 3) := by decide +kernel
theorem dX6_reads_148 : decode cX6_reads 148 = .ok (.iload 4, 2) := by decide +kernel
theorem dX6_reads_150 : decode cX6_reads 150 = .ok (.iconst 3, 1) := by decide +kernel
theorem dX6_reads_151 : decode cX6_reads 151 = .ok (.iadd, 1) := by decide +kernel
theorem dX6_reads_152 : decode cX6_reads 152 = .ok (.iconst 4, 1) := by decide +kernel
theorem dX6_reads_153 : decode cX6_reads 153 = .ok (.irem, 1) := by decide +kernel
theorem dX6_reads_154 : decode cX6_reads 154 = .ok (.istore 4, 2) := by decide +kernel
theorem dX6_reads_156 : decode cX6_reads 156 = .ok (.goto 6, 3) := by decide +kernel
theorem dX6_reads_159 : decode cX6_reads 159 = .ok (.iload 6, 2) := by decide +kernel
theorem dX6_reads_161 : decode cX6_reads 161 = .ok (.ireturn, 1) := by decide +kernel
theorem dX6_reads_162 : decode cX6_reads 162 = .ok (.iinc 5 1, 3) := by decide +kernel
theorem dX6_reads_165 : decode cX6_reads 165 = .ok (.goto (-112), 3) := by decide +kernel
theorem dX6_reads_168 : decode cX6_reads 168 = .ok (.aload_n 0, 1) := by decide +kernel
theorem dX6_reads_169 : decode cX6_reads 169 = .ok (.iload_n 3, 1) := by decide +kernel
theorem dX6_reads_170 : decode cX6_reads 170 = .ok (.invokevirtual 97, 3) := by decide +kernel
theorem dX6_reads_173 : decode cX6_reads 173 = .ok (.ireturn, 1) := by decide +kernel
theorem dX6_sharing_0 : decode cX6_sharing 0 = .ok (.iconst 0, 1) := by decide +kernel
theorem dX6_sharing_1 : decode cX6_sharing 1 = .ok (.istore_n 2, 1) := by decide +kernel
theorem dX6_sharing_2 : decode cX6_sharing 2 = .ok (.iconst 0, 1) := by decide +kernel
theorem dX6_sharing_3 : decode cX6_sharing 3 = .ok (.istore_n 3, 1) := by decide +kernel
theorem dX6_sharing_4 : decode cX6_sharing 4 = .ok (.iload_n 3, 1) := by decide +kernel
theorem dX6_sharing_5 : decode cX6_sharing 5 = .ok (.sipush 180, 3) := by decide +kernel
theorem dX6_sharing_8 : decode cX6_sharing 8 = .ok (.if_icmp .ge 41, 3) := by decide +kernel
theorem dX6_sharing_11 : decode cX6_sharing 11 = .ok (.iload_n 2, 1) := by decide +kernel
theorem dX6_sharing_12 : decode cX6_sharing 12 = .ok (.aload_n 0, 1) := by decide +kernel
theorem dX6_sharing_13 : decode cX6_sharing 13 = .ok (.getfield 38, 3) := by decide +kernel
theorem dX6_sharing_16 : decode cX6_sharing 16 = .ok (.sipush 180, 3) := by decide +kernel
theorem dX6_sharing_19 : decode cX6_sharing 19 = .ok (.iload_n 1, 1) := by decide +kernel
theorem dX6_sharing_20 : decode cX6_sharing 20 = .ok (.imul, 1) := by decide +kernel
theorem dX6_sharing_21 : decode cX6_sharing 21 = .ok (.iload_n 3, 1) := by decide +kernel
theorem dX6_sharing_22 : decode cX6_sharing 22 = .ok (.iadd, 1) := by decide +kernel
theorem dX6_sharing_23 : decode cX6_sharing 23 = .ok (.baload, 1) := by decide +kernel
theorem dX6_sharing_24 : decode cX6_sharing 24 = .ok (.ifCond .eq 16, 3) := by decide +kernel
theorem dX6_sharing_27 : decode cX6_sharing 27 = .ok (.aload_n 0, 1) := by decide +kernel
theorem dX6_sharing_28 : decode cX6_sharing 28 = .ok (.iload_n 3, 1) := by decide +kernel
theorem dX6_sharing_29 : decode cX6_sharing 29 = .ok (.invokevirtual 112, 3) := by decide +kernel
theorem dX6_sharing_32 : decode cX6_sharing 32 = .ok (.iconst 1, 1) := by decide +kernel
theorem dX6_sharing_33 : decode cX6_sharing 33 = .ok (.if_icmp .le 7, 3) := by decide +kernel
theorem dX6_sharing_36 : decode cX6_sharing 36 = .ok (.iconst 1, 1) := by decide +kernel
theorem dX6_sharing_37 : decode cX6_sharing 37 = .ok (.goto 4, 3) := by decide +kernel
theorem dX6_sharing_40 : decode cX6_sharing 40 = .ok (.iconst 0, 1) := by decide +kernel
theorem dX6_sharing_41 : decode cX6_sharing 41 = .ok (.iadd, 1) := by decide +kernel
theorem dX6_sharing_42 : decode cX6_sharing 42 = .ok (.istore_n 2, 1) := by decide +kernel
theorem dX6_sharing_43 : decode cX6_sharing 43 = .ok (.iinc 3 1, 3) := by decide +kernel
theorem dX6_sharing_46 : decode cX6_sharing 46 = .ok (.goto (-42), 3) := by decide +kernel
theorem dX6_sharing_49 : decode cX6_sharing 49 = .ok (.iload_n 2, 1) := by decide +kernel
theorem dX6_sharing_50 : decode cX6_sharing 50 = .ok (.ireturn, 1) := by decide +kernel
theorem dX6_kindOf_0 : decode cX6_kindOf 0 = .ok (.aload_n 0, 1) := by decide +kernel
theorem dX6_kindOf_1 : decode cX6_kindOf 1 = .ok (.iload_n 1, 1) := by decide +kernel
theorem dX6_kindOf_2 : decode cX6_kindOf 2 = .ok (.invokevirtual 181, 3) := by decide +kernel
theorem dX6_kindOf_5 : decode cX6_kindOf 5 = .ok (.istore_n 2, 1) := by decide +kernel
theorem dX6_kindOf_6 : decode cX6_kindOf 6 = .ok (.iload_n 2, 1) := by decide +kernel
theorem dX6_kindOf_7 : decode cX6_kindOf 7 = .ok (.ifCond .ne 7, 3) := by decide +kernel
theorem dX6_kindOf_10 : decode cX6_kindOf 10 = .ok (.iconst 1, 1) := by decide +kernel
theorem dX6_kindOf_11 : decode cX6_kindOf 11 = .ok (.goto 18, 3) := by decide +kernel
theorem dX6_kindOf_14 : decode cX6_kindOf 14 = .ok (.iload_n 2, 1) := by decide +kernel
theorem dX6_kindOf_15 : decode cX6_kindOf 15 = .ok (.aload_n 0, 1) := by decide +kernel
theorem dX6_kindOf_16 : decode cX6_kindOf 16 = .ok (.getfield 32, 3) := by decide +kernel
theorem dX6_kindOf_19 : decode cX6_kindOf 19 = .ok (.iload_n 1, 1) := by decide +kernel
theorem dX6_kindOf_20 : decode cX6_kindOf 20 = .ok (.iaload, 1) := by decide +kernel
theorem dX6_kindOf_21 : decode cX6_kindOf 21 = .ok (.if_icmp .ne 7, 3) := by decide +kernel
theorem dX6_kindOf_24 : decode cX6_kindOf 24 = .ok (.iconst 2, 1) := by decide +kernel
theorem dX6_kindOf_25 : decode cX6_kindOf 25 = .ok (.goto 4, 3) := by decide +kernel
theorem dX6_kindOf_28 : decode cX6_kindOf 28 = .ok (.iconst 3, 1) := by decide +kernel
theorem dX6_kindOf_29 : decode cX6_kindOf 29 = .ok (.ireturn, 1) := by decide +kernel
theorem dX6_kind_0 : decode cX6_kind 0 = .ok (.aload_n 0, 1) := by decide +kernel
theorem dX6_kind_1 : decode cX6_kind 1 = .ok (.iconst 0, 1) := by decide +kernel
theorem dX6_kind_2 : decode cX6_kind 2 = .ok (.putfield 62, 3) := by decide +kernel
theorem dX6_kind_5 : decode cX6_kind 5 = .ok (.aload_n 0, 1) := by decide +kernel
theorem dX6_kind_6 : decode cX6_kind 6 = .ok (.iload_n 1, 1) := by decide +kernel
theorem dX6_kind_7 : decode cX6_kind 7 = .ok (.invokevirtual 128, 3) := by decide +kernel
theorem dX6_kind_10 : decode cX6_kind 10 = .ok (.ifCond .ne 8, 3) := by decide +kernel
theorem dX6_kind_13 : decode cX6_kind 13 = .ok (.ldc 82, 2) := by decide +kernel
theorem dX6_kind_15 : decode cX6_kind 15 = .ok (.goto 22, 3) := by decide +kernel
theorem dX6_kind_18 : decode cX6_kind 18 = .ok (.aload_n 0, 1) := by decide +kernel
theorem dX6_kind_19 : decode cX6_kind 19 = .ok (.getfield 32, 3) := by decide +kernel
theorem dX6_kind_22 : decode cX6_kind 22 = .ok (.iload_n 1, 1) := by decide +kernel
theorem dX6_kind_23 : decode cX6_kind 23 = .ok (.iaload, 1) := by decide +kernel
theorem dX6_kind_24 : decode cX6_kind 24 = .ok (.ifCond .ne 8, 3) := by decide +kernel
theorem dX6_kind_27 : decode cX6_kind 27 = .ok (.ldc 93, 2) := by decide +kernel
theorem dX6_kind_29 : decode cX6_kind 29 = .ok (.goto 8, 3) := by decide +kernel
theorem dX6_kind_32 : decode cX6_kind 32 = .ok (.aload_n 0, 1) := by decide +kernel
theorem dX6_kind_33 : decode cX6_kind 33 = .ok (.iload_n 1, 1) := by decide +kernel
theorem dX6_kind_34 : decode cX6_kind 34 = .ok (.invokevirtual 184, 3) := by decide +kernel
theorem dX6_kind_37 : decode cX6_kind 37 = .ok (.ireturn, 1) := by decide +kernel
theorem dX6_as_0 : decode cX6_as 0 = .ok (.aload_n 0, 1) := by decide +kernel
theorem dX6_as_1 : decode cX6_as 1 = .ok (.iconst 0, 1) := by decide +kernel
theorem dX6_as_2 : decode cX6_as 2 = .ok (.putfield 62, 3) := by decide +kernel
theorem dX6_as_5 : decode cX6_as 5 = .ok (.aload_n 0, 1) := by decide +kernel
theorem dX6_as_6 : decode cX6_as 6 = .ok (.iload_n 1, 1) := by decide +kernel
theorem dX6_as_7 : decode cX6_as 7 = .ok (.invokevirtual 128, 3) := by decide +kernel
theorem dX6_as_10 : decode cX6_as 10 = .ok (.ifCond .eq 15, 3) := by decide +kernel
theorem dX6_as_13 : decode cX6_as 13 = .ok (.iload_n 2, 1) := by decide +kernel
theorem dX6_as_14 : decode cX6_as 14 = .ok (.i2l, 1) := by decide +kernel
theorem dX6_as_15 : decode cX6_as 15 = .ok (.lconst 0, 1) := by decide +kernel
theorem dX6_as_16 : decode cX6_as 16 = .ok (.ldc2_w 143, 3) := by decide +kernel
theorem dX6_as_19 : decode cX6_as 19 = .ok (.invokestatic 72, 3) := by decide +kernel
theorem dX6_as_22 : decode cX6_as 22 = .ok (.ifCond .ne 6, 3) := by decide +kernel
theorem dX6_as_25 : decode cX6_as 25 = .ok (.ldc 82, 2) := by decide +kernel
theorem dX6_as_27 : decode cX6_as 27 = .ok (.ireturn, 1) := by decide +kernel
theorem dX6_as_28 : decode cX6_as 28 = .ok (.aload_n 0, 1) := by decide +kernel
theorem dX6_as_29 : decode cX6_as 29 = .ok (.getfield 32, 3) := by decide +kernel
theorem dX6_as_32 : decode cX6_as 32 = .ok (.iload_n 1, 1) := by decide +kernel
theorem dX6_as_33 : decode cX6_as 33 = .ok (.iaload, 1) := by decide +kernel
theorem dX6_as_34 : decode cX6_as 34 = .ok (.ifCond .ne 6, 3) := by decide +kernel
theorem dX6_as_37 : decode cX6_as 37 = .ok (.ldc 100, 2) := by decide +kernel
theorem dX6_as_39 : decode cX6_as 39 = .ok (.ireturn, 1) := by decide +kernel
theorem dX6_as_40 : decode cX6_as 40 = .ok (.aload_n 0, 1) := by decide +kernel
theorem dX6_as_41 : decode cX6_as 41 = .ok (.iconst 0, 1) := by decide +kernel
theorem dX6_as_42 : decode cX6_as 42 = .ok (.putfield 66, 3) := by decide +kernel
theorem dX6_as_45 : decode cX6_as 45 = .ok (.iload_n 2, 1) := by decide +kernel
theorem dX6_as_46 : decode cX6_as 46 = .ok (.ifCond .eq 12, 3) := by decide +kernel
theorem dX6_as_49 : decode cX6_as 49 = .ok (.aload_n 0, 1) := by decide +kernel
theorem dX6_as_50 : decode cX6_as 50 = .ok (.iload_n 1, 1) := by decide +kernel
theorem dX6_as_51 : decode cX6_as 51 = .ok (.invokevirtual 184, 3) := by decide +kernel
theorem dX6_as_54 : decode cX6_as 54 = .ok (.iload_n 2, 1) := by decide +kernel
theorem dX6_as_55 : decode cX6_as 55 = .ok (.if_icmp .ne 12, 3) := by decide +kernel
theorem dX6_as_58 : decode cX6_as 58 = .ok (.aload_n 0, 1) := by decide +kernel
theorem dX6_as_59 : decode cX6_as 59 = .ok (.getfield 32, 3) := by decide +kernel
theorem dX6_as_62 : decode cX6_as 62 = .ok (.iload_n 1, 1) := by decide +kernel
theorem dX6_as_63 : decode cX6_as 63 = .ok (.iaload, 1) := by decide +kernel
theorem dX6_as_64 : decode cX6_as 64 = .ok (.goto 8, 3) := by decide +kernel
theorem dX6_as_67 : decode cX6_as 67 = .ok (.aload_n 0, 1) := by decide +kernel
theorem dX6_as_68 : decode cX6_as 68 = .ok (.iconst 3, 1) := by decide +kernel
theorem dX6_as_69 : decode cX6_as 69 = .ok (.invokevirtual 83, 3) := by decide +kernel
theorem dX6_as_72 : decode cX6_as 72 = .ok (.ireturn, 1) := by decide +kernel
theorem dX6_began_0 : decode cX6_began 0 = .ok (.aload_n 0, 1) := by decide +kernel
theorem dX6_began_1 : decode cX6_began 1 = .ok (.getfield 187, 3) := by decide +kernel
theorem dX6_began_4 : decode cX6_began 4 = .ok (.bipush 16, 2) := by decide +kernel
theorem dX6_began_6 : decode cX6_began 6 = .ok (.if_icmp .ge 23, 3) := by decide +kernel
theorem dX6_began_9 : decode cX6_began 9 = .ok (.aload_n 0, 1) := by decide +kernel
theorem dX6_began_10 : decode cX6_began 10 = .ok (.getfield 59, 3) := by decide +kernel
theorem dX6_began_13 : decode cX6_began 13 = .ok (.aload_n 0, 1) := by decide +kernel
theorem dX6_began_14 : decode cX6_began 14 = .ok (.getfield 187, 3) := by decide +kernel
theorem dX6_began_17 : decode cX6_began 17 = .ok (.iload_n 1, 1) := by decide +kernel
theorem dX6_began_18 : decode cX6_began 18 = .ok (.iastore, 1) := by decide +kernel
theorem dX6_began_19 : decode cX6_began 19 = .ok (.aload_n 0, 1) := by decide +kernel
theorem dX6_began_20 : decode cX6_began 20 = .ok (.dup, 1) := by decide +kernel
theorem dX6_began_21 : decode cX6_began 21 = .ok (.getfield 187, 3) := by decide +kernel
theorem dX6_began_24 : decode cX6_began 24 = .ok (.iconst 1, 1) := by decide +kernel
theorem dX6_began_25 : decode cX6_began 25 = .ok (.iadd, 1) := by decide +kernel
theorem dX6_began_26 : decode cX6_began 26 = .ok (.putfield 187, 3) := by decide +kernel
theorem dX6_began_29 : decode cX6_began 29 = .ok (.return_, 1) := by decide +kernel
theorem dX6_sized_0 : decode cX6_sized 0 = .ok (.aload_n 0, 1) := by decide +kernel
theorem dX6_sized_1 : decode cX6_sized 1 = .ok (.iload_n 1, 1) := by decide +kernel
theorem dX6_sized_2 : decode cX6_sized 2 = .ok (.invokevirtual 184, 3) := by decide +kernel
theorem dX6_sized_5 : decode cX6_sized 5 = .ok (.istore_n 2, 1) := by decide +kernel
theorem dX6_sized_6 : decode cX6_sized 6 = .ok (.iload_n 2, 1) := by decide +kernel
theorem dX6_sized_7 : decode cX6_sized 7 = .ok (.iconst 1, 1) := by decide +kernel
theorem dX6_sized_8 : decode cX6_sized 8 = .ok (.if_icmp .ne 28, 3) := by decide +kernel
theorem dX6_sized_11 : decode cX6_sized 11 = .ok (.aload_n 0, 1) := by decide +kernel
theorem dX6_sized_12 : decode cX6_sized 12 = .ok (.bipush 11, 2) := by decide +kernel
theorem dX6_sized_14 : decode cX6_sized 14 = .ok (.invokevirtual 190, 3) := by decide +kernel
theorem dX6_sized_17 : decode cX6_sized 17 = .ok (.aload_n 0, 1) := by decide +kernel
theorem dX6_sized_18 : decode cX6_sized 18 = .ok (.bipush 10, 2) := by decide +kernel
theorem dX6_sized_20 : decode cX6_sized 20 = .ok (.invokevirtual 190, 3) := by decide +kernel
theorem dX6_sized_23 : decode cX6_sized 23 = .ok (.aload_n 0, 1) := by decide +kernel
theorem dX6_sized_24 : decode cX6_sized 24 = .ok (.getfield 32, 3) := by decide +kernel
theorem dX6_sized_27 : decode cX6_sized 27 = .ok (.iload_n 1, 1) := by decide +kernel
theorem dX6_sized_28 : decode cX6_sized 28 = .ok (.iaload, 1) := by decide +kernel
theorem dX6_sized_29 : decode cX6_sized 29 = .ok (.aload_n 0, 1) := by decide +kernel
theorem dX6_sized_30 : decode cX6_sized 30 = .ok (.iload_n 1, 1) := by decide +kernel
theorem dX6_sized_31 : decode cX6_sized 31 = .ok (.invokevirtual 160, 3) := by decide +kernel
theorem dX6_sized_34 : decode cX6_sized 34 = .ok (.iadd, 1) := by decide +kernel
theorem dX6_sized_35 : decode cX6_sized 35 = .ok (.ireturn, 1) := by decide +kernel
theorem dX6_sized_36 : decode cX6_sized 36 = .ok (.iload_n 2, 1) := by decide +kernel
theorem dX6_sized_37 : decode cX6_sized 37 = .ok (.iconst 2, 1) := by decide +kernel
theorem dX6_sized_38 : decode cX6_sized 38 = .ok (.if_icmp .ne 24, 3) := by decide +kernel
theorem dX6_sized_41 : decode cX6_sized 41 = .ok (.aload_n 0, 1) := by decide +kernel
theorem dX6_sized_42 : decode cX6_sized 42 = .ok (.bipush 12, 2) := by decide +kernel
theorem dX6_sized_44 : decode cX6_sized 44 = .ok (.invokevirtual 190, 3) := by decide +kernel
theorem dX6_sized_47 : decode cX6_sized 47 = .ok (.aload_n 0, 1) := by decide +kernel
theorem dX6_sized_48 : decode cX6_sized 48 = .ok (.bipush 10, 2) := by decide +kernel
theorem dX6_sized_50 : decode cX6_sized 50 = .ok (.invokevirtual 190, 3) := by decide +kernel
theorem dX6_sized_53 : decode cX6_sized 53 = .ok (.iconst 2, 1) := by decide +kernel
theorem dX6_sized_54 : decode cX6_sized 54 = .ok (.aload_n 0, 1) := by decide +kernel
theorem dX6_sized_55 : decode cX6_sized 55 = .ok (.getfield 32, 3) := by decide +kernel
theorem dX6_sized_58 : decode cX6_sized 58 = .ok (.iload_n 1, 1) := by decide +kernel
theorem dX6_sized_59 : decode cX6_sized 59 = .ok (.iaload, 1) := by decide +kernel
theorem dX6_sized_60 : decode cX6_sized 60 = .ok (.imul, 1) := by decide +kernel
theorem dX6_sized_61 : decode cX6_sized 61 = .ok (.ireturn, 1) := by decide +kernel
theorem dX6_sized_62 : decode cX6_sized 62 = .ok (.aload_n 0, 1) := by decide +kernel
theorem dX6_sized_63 : decode cX6_sized 63 = .ok (.bipush 13, 2) := by decide +kernel
theorem dX6_sized_65 : decode cX6_sized 65 = .ok (.invokevirtual 190, 3) := by decide +kernel
theorem dX6_sized_68 : decode cX6_sized 68 = .ok (.aload_n 0, 1) := by decide +kernel
theorem dX6_sized_69 : decode cX6_sized 69 = .ok (.bipush 10, 2) := by decide +kernel
theorem dX6_sized_71 : decode cX6_sized 71 = .ok (.invokevirtual 190, 3) := by decide +kernel
theorem dX6_sized_74 : decode cX6_sized 74 = .ok (.aload_n 0, 1) := by decide +kernel
theorem dX6_sized_75 : decode cX6_sized 75 = .ok (.bipush 22, 2) := by decide +kernel
theorem dX6_sized_77 : decode cX6_sized 77 = .ok (.invokevirtual 190, 3) := by decide +kernel
theorem dX6_sized_80 : decode cX6_sized 80 = .ok (.aload_n 0, 1) := by decide +kernel
theorem dX6_sized_81 : decode cX6_sized 81 = .ok (.bipush 20, 2) := by decide +kernel
theorem dX6_sized_83 : decode cX6_sized 83 = .ok (.invokevirtual 190, 3) := by decide +kernel
theorem dX6_sized_86 : decode cX6_sized 86 = .ok (.aload_n 0, 1) := by decide +kernel
theorem dX6_sized_87 : decode cX6_sized 87 = .ok (.getfield 32, 3) := by decide +kernel
theorem dX6_sized_90 : decode cX6_sized 90 = .ok (.iload_n 1, 1) := by decide +kernel
theorem dX6_sized_91 : decode cX6_sized 91 = .ok (.iaload, 1) := by decide +kernel
theorem dX6_sized_92 : decode cX6_sized 92 = .ok (.aload_n 0, 1) := by decide +kernel
theorem dX6_sized_93 : decode cX6_sized 93 = .ok (.iload_n 1, 1) := by decide +kernel
theorem dX6_sized_94 : decode cX6_sized 94 = .ok (.invokevirtual 145, 3) := by decide +kernel
theorem dX6_sized_97 : decode cX6_sized 97 = .ok (.iadd, 1) := by decide +kernel
theorem dX6_sized_98 : decode cX6_sized 98 = .ok (.aload_n 0, 1) := by decide +kernel
theorem dX6_sized_99 : decode cX6_sized 99 = .ok (.iload_n 1, 1) := by decide +kernel
theorem dX6_sized_100 : decode cX6_sized 100 = .ok (.invokevirtual 181, 3) := by decide +kernel
theorem dX6_sized_103 : decode cX6_sized 103 = .ok (.iadd, 1) := by decide +kernel
theorem dX6_sized_104 : decode cX6_sized 104 = .ok (.ireturn, 1) := by decide +kernel
theorem dX6_marked_0 : decode cX6_marked 0 = .ok (.aload_n 0, 1) := by decide +kernel
theorem dX6_marked_1 : decode cX6_marked 1 = .ok (.iload_n 1, 1) := by decide +kernel
theorem dX6_marked_2 : decode cX6_marked 2 = .ok (.invokevirtual 184, 3) := by decide +kernel
theorem dX6_marked_5 : decode cX6_marked 5 = .ok (.istore_n 2, 1) := by decide +kernel
theorem dX6_marked_6 : decode cX6_marked 6 = .ok (.iload_n 2, 1) := by decide +kernel
theorem dX6_marked_7 : decode cX6_marked 7 = .ok (.iconst 2, 1) := by decide +kernel
theorem dX6_marked_8 : decode cX6_marked 8 = .ok (.if_icmp .ne 9, 3) := by decide +kernel
theorem dX6_marked_11 : decode cX6_marked 11 = .ok (.aload_n 0, 1) := by decide +kernel
theorem dX6_marked_12 : decode cX6_marked 12 = .ok (.bipush 21, 2) := by decide +kernel
theorem dX6_marked_14 : decode cX6_marked 14 = .ok (.invokevirtual 190, 3) := by decide +kernel
theorem dX6_marked_17 : decode cX6_marked 17 = .ok (.iload_n 2, 1) := by decide +kernel
theorem dX6_marked_18 : decode cX6_marked 18 = .ok (.iconst 3, 1) := by decide +kernel
theorem dX6_marked_19 : decode cX6_marked 19 = .ok (.if_icmp .ne 9, 3) := by decide +kernel
theorem dX6_marked_22 : decode cX6_marked 22 = .ok (.aload_n 0, 1) := by decide +kernel
theorem dX6_marked_23 : decode cX6_marked 23 = .ok (.bipush 22, 2) := by decide +kernel
theorem dX6_marked_25 : decode cX6_marked 25 = .ok (.invokevirtual 190, 3) := by decide +kernel
theorem dX6_marked_28 : decode cX6_marked 28 = .ok (.aload_n 0, 1) := by decide +kernel
theorem dX6_marked_29 : decode cX6_marked 29 = .ok (.bipush 20, 2) := by decide +kernel
theorem dX6_marked_31 : decode cX6_marked 31 = .ok (.invokevirtual 190, 3) := by decide +kernel
theorem dX6_marked_34 : decode cX6_marked 34 = .ok (.aload_n 0, 1) := by decide +kernel
theorem dX6_marked_35 : decode cX6_marked 35 = .ok (.iload_n 1, 1) := by decide +kernel
theorem dX6_marked_36 : decode cX6_marked 36 = .ok (.invokevirtual 145, 3) := by decide +kernel
theorem dX6_marked_39 : decode cX6_marked 39 = .ok (.istore_n 3, 1) := by decide +kernel
theorem dX6_marked_40 : decode cX6_marked 40 = .ok (.iload_n 2, 1) := by decide +kernel
theorem dX6_marked_41 : decode cX6_marked 41 = .ok (.iconst 2, 1) := by decide +kernel
theorem dX6_marked_42 : decode cX6_marked 42 = .ok (.if_icmp .ne 13, 3) := by decide +kernel
theorem dX6_marked_45 : decode cX6_marked 45 = .ok (.iload_n 3, 1) := by decide +kernel
theorem dX6_marked_46 : decode cX6_marked 46 = .ok (.aload_n 0, 1) := by decide +kernel
theorem dX6_marked_47 : decode cX6_marked 47 = .ok (.iload_n 1, 1) := by decide +kernel
theorem dX6_marked_48 : decode cX6_marked 48 = .ok (.invokevirtual 193, 3) := by decide +kernel
theorem dX6_marked_51 : decode cX6_marked 51 = .ok (.iadd, 1) := by decide +kernel
theorem dX6_marked_52 : decode cX6_marked 52 = .ok (.goto 19, 3) := by decide +kernel
theorem dX6_marked_55 : decode cX6_marked 55 = .ok (.iload_n 2, 1) := by decide +kernel
theorem dX6_marked_56 : decode cX6_marked 56 = .ok (.iconst 3, 1) := by decide +kernel
theorem dX6_marked_57 : decode cX6_marked 57 = .ok (.if_icmp .ne 13, 3) := by decide +kernel
theorem dX6_marked_60 : decode cX6_marked 60 = .ok (.iload_n 3, 1) := by decide +kernel
theorem dX6_marked_61 : decode cX6_marked 61 = .ok (.aload_n 0, 1) := by decide +kernel
theorem dX6_marked_62 : decode cX6_marked 62 = .ok (.iload_n 1, 1) := by decide +kernel
theorem dX6_marked_63 : decode cX6_marked 63 = .ok (.invokevirtual 181, 3) := by decide +kernel
theorem dX6_marked_66 : decode cX6_marked 66 = .ok (.iadd, 1) := by decide +kernel
theorem dX6_marked_67 : decode cX6_marked 67 = .ok (.goto 4, 3) := by decide +kernel
theorem dX6_marked_70 : decode cX6_marked 70 = .ok (.iload_n 3, 1) := by decide +kernel
theorem dX6_marked_71 : decode cX6_marked 71 = .ok (.ireturn, 1) := by decide +kernel
theorem dX6_ask_0 : decode cX6_ask 0 = .ok (.aload_n 0, 1) := by decide +kernel
theorem dX6_ask_1 : decode cX6_ask 1 = .ok (.iconst 0, 1) := by decide +kernel
theorem dX6_ask_2 : decode cX6_ask 2 = .ok (.putfield 62, 3) := by decide +kernel
theorem dX6_ask_5 : decode cX6_ask 5 = .ok (.aload_n 0, 1) := by decide +kernel
theorem dX6_ask_6 : decode cX6_ask 6 = .ok (.iload_n 1, 1) := by decide +kernel
theorem dX6_ask_7 : decode cX6_ask 7 = .ok (.invokevirtual 128, 3) := by decide +kernel
theorem dX6_ask_10 : decode cX6_ask 10 = .ok (.ifCond .eq 13, 3) := by decide +kernel
theorem dX6_ask_13 : decode cX6_ask 13 = .ok (.iload_n 2, 1) := by decide +kernel
theorem dX6_ask_14 : decode cX6_ask 14 = .ok (.i2l, 1) := by decide +kernel
theorem dX6_ask_15 : decode cX6_ask 15 = .ok (.lconst 0, 1) := by decide +kernel
theorem dX6_ask_16 : decode cX6_ask 16 = .ok (.lconst 1, 1) := by decide +kernel
theorem dX6_ask_17 : decode cX6_ask 17 = .ok (.invokestatic 72, 3) := by decide +kernel
theorem dX6_ask_20 : decode cX6_ask 20 = .ok (.ifCond .ne 6, 3) := by decide +kernel
theorem dX6_ask_23 : decode cX6_ask 23 = .ok (.ldc 82, 2) := by decide +kernel
theorem dX6_ask_25 : decode cX6_ask 25 = .ok (.ireturn, 1) := by decide +kernel
theorem dX6_ask_26 : decode cX6_ask 26 = .ok (.aload_n 0, 1) := by decide +kernel
theorem dX6_ask_27 : decode cX6_ask 27 = .ok (.getfield 32, 3) := by decide +kernel
theorem dX6_ask_30 : decode cX6_ask 30 = .ok (.iload_n 1, 1) := by decide +kernel
theorem dX6_ask_31 : decode cX6_ask 31 = .ok (.iaload, 1) := by decide +kernel
theorem dX6_ask_32 : decode cX6_ask 32 = .ok (.ifCond .ne 6, 3) := by decide +kernel
theorem dX6_ask_35 : decode cX6_ask 35 = .ok (.ldc 100, 2) := by decide +kernel
theorem dX6_ask_37 : decode cX6_ask 37 = .ok (.ireturn, 1) := by decide +kernel
theorem dX6_ask_38 : decode cX6_ask 38 = .ok (.aload_n 0, 1) := by decide +kernel
theorem dX6_ask_39 : decode cX6_ask 39 = .ok (.iconst 0, 1) := by decide +kernel
theorem dX6_ask_40 : decode cX6_ask 40 = .ok (.putfield 187, 3) := by decide +kernel
theorem dX6_ask_43 : decode cX6_ask 43 = .ok (.iload_n 2, 1) := by decide +kernel
theorem dX6_ask_44 : decode cX6_ask 44 = .ok (.ifCond .ne 11, 3) := by decide +kernel
theorem dX6_ask_47 : decode cX6_ask 47 = .ok (.aload_n 0, 1) := by decide +kernel
theorem dX6_ask_48 : decode cX6_ask 48 = .ok (.iload_n 1, 1) := by decide +kernel
theorem dX6_ask_49 : decode cX6_ask 49 = .ok (.invokevirtual 193, 3) := by decide +kernel
theorem dX6_ask_52 : decode cX6_ask 52 = .ok (.goto 8, 3) := by decide +kernel
theorem dX6_ask_55 : decode cX6_ask 55 = .ok (.aload_n 0, 1) := by decide +kernel
theorem dX6_ask_56 : decode cX6_ask 56 = .ok (.iload_n 1, 1) := by decide +kernel
theorem dX6_ask_57 : decode cX6_ask 57 = .ok (.invokevirtual 196, 3) := by decide +kernel
theorem dX6_ask_60 : decode cX6_ask 60 = .ok (.ireturn, 1) := by decide +kernel
theorem dX6_trace_0 : decode cX6_trace 0 = .ok (.aload_n 0, 1) := by decide +kernel
theorem dX6_trace_1 : decode cX6_trace 1 = .ok (.iconst 0, 1) := by decide +kernel
theorem dX6_trace_2 : decode cX6_trace 2 = .ok (.putfield 62, 3) := by decide +kernel
theorem dX6_trace_5 : decode cX6_trace 5 = .ok (.iload_n 1, 1) := by decide +kernel
theorem dX6_trace_6 : decode cX6_trace 6 = .ok (.i2l, 1) := by decide +kernel
theorem dX6_trace_7 : decode cX6_trace 7 = .ok (.lconst 0, 1) := by decide +kernel
theorem dX6_trace_8 : decode cX6_trace 8 = .ok (.aload_n 0, 1) := by decide +kernel
theorem dX6_trace_9 : decode cX6_trace 9 = .ok (.getfield 187, 3) := by decide +kernel
theorem dX6_trace_12 : decode cX6_trace 12 = .ok (.iconst 1, 1) := by decide +kernel
theorem dX6_trace_13 : decode cX6_trace 13 = .ok (.isub, 1) := by decide +kernel
theorem dX6_trace_14 : decode cX6_trace 14 = .ok (.i2l, 1) := by decide +kernel
theorem dX6_trace_15 : decode cX6_trace 15 = .ok (.invokestatic 72, 3) := by decide +kernel
theorem dX6_trace_18 : decode cX6_trace 18 = .ok (.ifCond .eq 12, 3) := by decide +kernel
theorem dX6_trace_21 : decode cX6_trace 21 = .ok (.aload_n 0, 1) := by decide +kernel
theorem dX6_trace_22 : decode cX6_trace 22 = .ok (.getfield 59, 3) := by decide +kernel
theorem dX6_trace_25 : decode cX6_trace 25 = .ok (.iload_n 1, 1) := by decide +kernel
theorem dX6_trace_26 : decode cX6_trace 26 = .ok (.iaload, 1) := by decide +kernel
theorem dX6_trace_27 : decode cX6_trace 27 = .ok (.goto 5, 3) := by decide +kernel
theorem dX6_trace_30 : decode cX6_trace 30 = .ok (.ldc 93, 2) := by decide +kernel
theorem dX6_trace_32 : decode cX6_trace 32 = .ok (.ireturn, 1) := by decide +kernel
theorem dX6_count_0 : decode cX6_count 0 = .ok (.aload_n 0, 1) := by decide +kernel
theorem dX6_count_1 : decode cX6_count 1 = .ok (.iconst 0, 1) := by decide +kernel
theorem dX6_count_2 : decode cX6_count 2 = .ok (.putfield 62, 3) := by decide +kernel
theorem dX6_count_5 : decode cX6_count 5 = .ok (.iconst 0, 1) := by decide +kernel
theorem dX6_count_6 : decode cX6_count 6 = .ok (.istore_n 2, 1) := by decide +kernel
theorem dX6_count_7 : decode cX6_count 7 = .ok (.iload_n 1, 1) := by decide +kernel
theorem dX6_count_8 : decode cX6_count 8 = .ok (.tableswitch 175 0 7 #[48, 81, 86, 91, 96, 96, 96, 142], 48) := by decide +kernel
theorem dX6_count_56 : decode cX6_count 56 = .ok (.iconst 0, 1) := by decide +kernel
theorem dX6_count_57 : decode cX6_count 57 = .ok (.istore_n 3, 1) := by decide +kernel
theorem dX6_count_58 : decode cX6_count 58 = .ok (.iload_n 3, 1) := by decide +kernel
theorem dX6_count_59 : decode cX6_count 59 = .ok (.bipush 8, 2) := by decide +kernel
theorem dX6_count_61 : decode cX6_count 61 = .ok (.if_icmp .ge 26, 3) := by decide +kernel
theorem dX6_count_64 : decode cX6_count 64 = .ok (.iload_n 2, 1) := by decide +kernel
theorem dX6_count_65 : decode cX6_count 65 = .ok (.aload_n 0, 1) := by decide +kernel
theorem dX6_count_66 : decode cX6_count 66 = .ok (.getfield 7, 3) := by decide +kernel
theorem dX6_count_69 : decode cX6_count 69 = .ok (.iload_n 3, 1) := by decide +kernel
theorem dX6_count_70 : decode cX6_count 70 = .ok (.iaload, 1) := by decide +kernel
theorem dX6_count_71 : decode cX6_count 71 = .ok (.ifCond .lt 7, 3) := by decide +kernel
theorem dX6_count_74 : decode cX6_count 74 = .ok (.iconst 1, 1) := by decide +kernel
theorem dX6_count_75 : decode cX6_count 75 = .ok (.goto 4, 3) := by decide +kernel
theorem dX6_count_78 : decode cX6_count 78 = .ok (.iconst 0, 1) := by decide +kernel
theorem dX6_count_79 : decode cX6_count 79 = .ok (.iadd, 1) := by decide +kernel
theorem dX6_count_80 : decode cX6_count 80 = .ok (.istore_n 2, 1) := by decide +kernel
theorem dX6_count_81 : decode cX6_count 81 = .ok (.iinc 3 1, 3) := by decide +kernel
theorem dX6_count_84 : decode cX6_count 84 = .ok (.goto (-26), 3) := by decide +kernel
theorem dX6_count_87 : decode cX6_count 87 = .ok (.iload_n 2, 1) := by decide +kernel
theorem dX6_count_88 : decode cX6_count 88 = .ok (.ireturn, 1) := by decide +kernel
theorem dX6_count_89 : decode cX6_count 89 = .ok (.aload_n 0, 1) := by decide +kernel
theorem dX6_count_90 : decode cX6_count 90 = .ok (.getfield 94, 3) := by decide +kernel
theorem dX6_count_93 : decode cX6_count 93 = .ok (.ireturn, 1) := by decide +kernel
theorem dX6_count_94 : decode cX6_count 94 = .ok (.aload_n 0, 1) := by decide +kernel
theorem dX6_count_95 : decode cX6_count 95 = .ok (.getfield 102, 3) := by decide +kernel
theorem dX6_count_98 : decode cX6_count 98 = .ok (.ireturn, 1) := by decide +kernel
theorem dX6_count_99 : decode cX6_count 99 = .ok (.aload_n 0, 1) := by decide +kernel
theorem dX6_count_100 : decode cX6_count 100 = .ok (.invokevirtual 169, 3) := by decide +kernel
theorem dX6_count_103 : decode cX6_count 103 = .ok (.ireturn, 1) := by decide +kernel
theorem dX6_count_104 : decode cX6_count 104 = .ok (.iconst 0, 1) := by decide +kernel
theorem dX6_count_105 : decode cX6_count 105 = .ok (.istore_n 3, 1) := by decide +kernel
theorem dX6_count_106 : decode cX6_count 106 = .ok (.iload_n 3, 1) := by decide +kernel
theorem dX6_count_107 : decode cX6_count 107 = .ok (.aload_n 0, 1) := by decide +kernel
theorem dX6_count_108 : decode cX6_count 108 = .ok (.getfield 102, 3) := by decide +kernel
theorem dX6_count_111 : decode cX6_count 111 = .ok (.if_icmp .ge 37, 3) := by decide +kernel
theorem dX6_count_114 : decode cX6_count 114 = .ok (.iload_n 2, 1) := by decide +kernel
theorem dX6_count_115 : decode cX6_count 115 = .ok (.aload_n 0, 1) := by decide +kernel
theorem dX6_count_116 : decode cX6_count 116 = .ok (.getfield 32, 3) := by decide +kernel
theorem dX6_count_119 : decode cX6_count 119 = .ok (.iload_n 3, 1) := by decide +kernel
theorem dX6_count_120 : decode cX6_count 120 = .ok (.iaload, 1) := by decide +kernel
theorem dX6_count_121 : decode cX6_count 121 = .ok (.ifCond .le 18, 3) := by decide +kernel
theorem dX6_count_124 : decode cX6_count 124 = .ok (.aload_n 0, 1) := by decide +kernel
theorem dX6_count_125 : decode cX6_count 125 = .ok (.iload_n 3, 1) := by decide +kernel
theorem dX6_count_126 : decode cX6_count 126 = .ok (.invokevirtual 184, 3) := by decide +kernel
theorem dX6_count_129 : decode cX6_count 129 = .ok (.iload_n 1, 1) := by decide +kernel
theorem dX6_count_130 : decode cX6_count 130 = .ok (.iconst 3, 1) := by decide +kernel
theorem dX6_count_131 : decode cX6_count 131 = .ok (.isub, 1) := by decide +kernel
theorem dX6_count_132 : decode cX6_count 132 = .ok (.if_icmp .ne 7, 3) := by decide +kernel
theorem dX6_count_135 : decode cX6_count 135 = .ok (.iconst 1, 1) := by decide +kernel
theorem dX6_count_136 : decode cX6_count 136 = .ok (.goto 4, 3) := by decide +kernel
theorem dX6_count_139 : decode cX6_count 139 = .ok (.iconst 0, 1) := by decide +kernel
theorem dX6_count_140 : decode cX6_count 140 = .ok (.iadd, 1) := by decide +kernel
theorem dX6_count_141 : decode cX6_count 141 = .ok (.istore_n 2, 1) := by decide +kernel
theorem dX6_count_142 : decode cX6_count 142 = .ok (.iinc 3 1, 3) := by decide +kernel
theorem dX6_count_145 : decode cX6_count 145 = .ok (.goto (-39), 3) := by decide +kernel
theorem dX6_count_148 : decode cX6_count 148 = .ok (.iload_n 2, 1) := by decide +kernel
theorem dX6_count_149 : decode cX6_count 149 = .ok (.ireturn, 1) := by decide +kernel
theorem dX6_count_150 : decode cX6_count 150 = .ok (.iconst 0, 1) := by decide +kernel
theorem dX6_count_151 : decode cX6_count 151 = .ok (.istore_n 3, 1) := by decide +kernel
theorem dX6_count_152 : decode cX6_count 152 = .ok (.iload_n 3, 1) := by decide +kernel
theorem dX6_count_153 : decode cX6_count 153 = .ok (.bipush 100, 2) := by decide +kernel
theorem dX6_count_155 : decode cX6_count 155 = .ok (.if_icmp .ge 26, 3) := by decide +kernel
theorem dX6_count_158 : decode cX6_count 158 = .ok (.iload_n 2, 1) := by decide +kernel
theorem dX6_count_159 : decode cX6_count 159 = .ok (.aload_n 0, 1) := by decide +kernel
theorem dX6_count_160 : decode cX6_count 160 = .ok (.getfield 19, 3) := by decide +kernel
theorem dX6_count_163 : decode cX6_count 163 = .ok (.iload_n 3, 1) := by decide +kernel
theorem dX6_count_164 : decode cX6_count 164 = .ok (.baload, 1) := by decide +kernel
theorem dX6_count_165 : decode cX6_count 165 = .ok (.ifCond .eq 7, 3) := by decide +kernel
theorem dX6_count_168 : decode cX6_count 168 = .ok (.iconst 1, 1) := by decide +kernel
theorem dX6_count_169 : decode cX6_count 169 = .ok (.goto 4, 3) := by decide +kernel
theorem dX6_count_172 : decode cX6_count 172 = .ok (.iconst 0, 1) := by decide +kernel
theorem dX6_count_173 : decode cX6_count 173 = .ok (.iadd, 1) := by decide +kernel
theorem dX6_count_174 : decode cX6_count 174 = .ok (.istore_n 2, 1) := by decide +kernel
theorem dX6_count_175 : decode cX6_count 175 = .ok (.iinc 3 1, 3) := by decide +kernel
theorem dX6_count_178 : decode cX6_count 178 = .ok (.goto (-26), 3) := by decide +kernel
theorem dX6_count_181 : decode cX6_count 181 = .ok (.iload_n 2, 1) := by decide +kernel
theorem dX6_count_182 : decode cX6_count 182 = .ok (.ireturn, 1) := by decide +kernel
theorem dX6_count_183 : decode cX6_count 183 = .ok (.ldc 82, 2) := by decide +kernel
theorem dX6_count_185 : decode cX6_count 185 = .ok (.ireturn, 1) := by decide +kernel
theorem dX6_status_0 : decode cX6_status 0 = .ok (.aload_n 0, 1) := by decide +kernel
theorem dX6_status_1 : decode cX6_status 1 = .ok (.iconst 0, 1) := by decide +kernel
theorem dX6_status_2 : decode cX6_status 2 = .ok (.putfield 62, 3) := by decide +kernel
theorem dX6_status_5 : decode cX6_status 5 = .ok (.aload_n 0, 1) := by decide +kernel
theorem dX6_status_6 : decode cX6_status 6 = .ok (.getfield 66, 3) := by decide +kernel
theorem dX6_status_9 : decode cX6_status 9 = .ok (.ireturn, 1) := by decide +kernel
end
section
theorem dL_law_0 : decode cL_law 0 = .ok (.new 7, 3) := by decide +kernel
theorem dL_law_3 : decode cL_law 3 = .ok (.dup, 1) := by decide +kernel
theorem dL_law_4 : decode cL_law 4 = .ok (.invokespecial 9, 3) := by decide +kernel
theorem dL_law_7 : decode cL_law 7 = .ok (.astore_n 1, 1) := by decide +kernel
theorem dL_law_8 : decode cL_law 8 = .ok (.new 10, 3) := by decide +kernel
theorem dL_law_11 : decode cL_law 11 = .ok (.dup, 1) := by decide +kernel
theorem dL_law_12 : decode cL_law 12 = .ok (.invokespecial 12, 3) := by decide +kernel
theorem dL_law_15 : decode cL_law 15 = .ok (.astore_n 2, 1) := by decide +kernel
theorem dL_law_16 : decode cL_law 16 = .ok (.iconst 0, 1) := by decide +kernel
theorem dL_law_17 : decode cL_law 17 = .ok (.istore_n 3, 1) := by decide +kernel
theorem dL_law_18 : decode cL_law 18 = .ok (.iload_n 3, 1) := by decide +kernel
theorem dL_law_19 : decode cL_law 19 = .ok (.aload_n 0, 1) := by decide +kernel
theorem dL_law_20 : decode cL_law 20 = .ok (.arraylength, 1) := by decide +kernel
theorem dL_law_21 : decode cL_law 21 = .ok (.bipush 6, 2) := by decide +kernel
theorem dL_law_23 : decode cL_law 23 = .ok (.isub, 1) := by decide +kernel
theorem dL_law_24 : decode cL_law 24 = .ok (.if_icmp .gt 959, 3) := by decide +kernel
theorem dL_law_27 : decode cL_law 27 = .ok (.aload_n 0, 1) := by decide +kernel
theorem dL_law_28 : decode cL_law 28 = .ok (.iload_n 3, 1) := by decide +kernel
theorem dL_law_29 : decode cL_law 29 = .ok (.iaload, 1) := by decide +kernel
theorem dL_law_30 : decode cL_law 30 = .ok (.bipush 31, 2) := by decide +kernel
theorem dL_law_32 : decode cL_law 32 = .ok (.iand, 1) := by decide +kernel
theorem dL_law_33 : decode cL_law 33 = .ok (.tableswitch 944 0 26 #[123, 166, 209, 272, 295, 328, 361, 394, 427, 460, 483, 536, 559, 572, 585, 618, 661, 684, 707, 740, 763, 796, 819, 852, 885, 908, 931], 123) := by decide +kernel
theorem dL_law_156 : decode cL_law 156 = .ok (.aload_n 1, 1) := by decide +kernel
theorem dL_law_157 : decode cL_law 157 = .ok (.aload_n 0, 1) := by decide +kernel
theorem dL_law_158 : decode cL_law 158 = .ok (.iload_n 3, 1) := by decide +kernel
theorem dL_law_159 : decode cL_law 159 = .ok (.iconst 1, 1) := by decide +kernel
theorem dL_law_160 : decode cL_law 160 = .ok (.iadd, 1) := by decide +kernel
theorem dL_law_161 : decode cL_law 161 = .ok (.iaload, 1) := by decide +kernel
theorem dL_law_162 : decode cL_law 162 = .ok (.aload_n 0, 1) := by decide +kernel
theorem dL_law_163 : decode cL_law 163 = .ok (.iload_n 3, 1) := by decide +kernel
theorem dL_law_164 : decode cL_law 164 = .ok (.iconst 2, 1) := by decide +kernel
theorem dL_law_165 : decode cL_law 165 = .ok (.iadd, 1) := by decide +kernel
theorem dL_law_166 : decode cL_law 166 = .ok (.iaload, 1) := by decide +kernel
theorem dL_law_167 : decode cL_law 167 = .ok (.aload_n 0, 1) := by decide +kernel
theorem dL_law_168 : decode cL_law 168 = .ok (.iload_n 3, 1) := by decide +kernel
theorem dL_law_169 : decode cL_law 169 = .ok (.iconst 3, 1) := by decide +kernel
theorem dL_law_170 : decode cL_law 170 = .ok (.iadd, 1) := by decide +kernel
theorem dL_law_171 : decode cL_law 171 = .ok (.iaload, 1) := by decide +kernel
theorem dL_law_172 : decode cL_law 172 = .ok (.invokevirtual 13, 3) := by decide +kernel
theorem dL_law_175 : decode cL_law 175 = .ok (.aload_n 2, 1) := by decide +kernel
theorem dL_law_176 : decode cL_law 176 = .ok (.aload_n 0, 1) := by decide +kernel
theorem dL_law_177 : decode cL_law 177 = .ok (.iload_n 3, 1) := by decide +kernel
theorem dL_law_178 : decode cL_law 178 = .ok (.iconst 1, 1) := by decide +kernel
theorem dL_law_179 : decode cL_law 179 = .ok (.iadd, 1) := by decide +kernel
theorem dL_law_180 : decode cL_law 180 = .ok (.iaload, 1) := by decide +kernel
theorem dL_law_181 : decode cL_law 181 = .ok (.aload_n 0, 1) := by decide +kernel
theorem dL_law_182 : decode cL_law 182 = .ok (.iload_n 3, 1) := by decide +kernel
theorem dL_law_183 : decode cL_law 183 = .ok (.iconst 2, 1) := by decide +kernel
theorem dL_law_184 : decode cL_law 184 = .ok (.iadd, 1) := by decide +kernel
theorem dL_law_185 : decode cL_law 185 = .ok (.iaload, 1) := by decide +kernel
theorem dL_law_186 : decode cL_law 186 = .ok (.aload_n 0, 1) := by decide +kernel
theorem dL_law_187 : decode cL_law 187 = .ok (.iload_n 3, 1) := by decide +kernel
theorem dL_law_188 : decode cL_law 188 = .ok (.iconst 3, 1) := by decide +kernel
theorem dL_law_189 : decode cL_law 189 = .ok (.iadd, 1) := by decide +kernel
theorem dL_law_190 : decode cL_law 190 = .ok (.iaload, 1) := by decide +kernel
theorem dL_law_191 : decode cL_law 191 = .ok (.invokevirtual 17, 3) := by decide +kernel
theorem dL_law_194 : decode cL_law 194 = .ok (.if_icmp .eq 783, 3) := by decide +kernel
theorem dL_law_197 : decode cL_law 197 = .ok (.iconst 0, 1) := by decide +kernel
theorem dL_law_198 : decode cL_law 198 = .ok (.ireturn, 1) := by decide +kernel
theorem dL_law_199 : decode cL_law 199 = .ok (.aload_n 1, 1) := by decide +kernel
theorem dL_law_200 : decode cL_law 200 = .ok (.aload_n 0, 1) := by decide +kernel
theorem dL_law_201 : decode cL_law 201 = .ok (.iload_n 3, 1) := by decide +kernel
theorem dL_law_202 : decode cL_law 202 = .ok (.iconst 1, 1) := by decide +kernel
theorem dL_law_203 : decode cL_law 203 = .ok (.iadd, 1) := by decide +kernel
theorem dL_law_204 : decode cL_law 204 = .ok (.iaload, 1) := by decide +kernel
theorem dL_law_205 : decode cL_law 205 = .ok (.aload_n 0, 1) := by decide +kernel
theorem dL_law_206 : decode cL_law 206 = .ok (.iload_n 3, 1) := by decide +kernel
theorem dL_law_207 : decode cL_law 207 = .ok (.iconst 2, 1) := by decide +kernel
theorem dL_law_208 : decode cL_law 208 = .ok (.iadd, 1) := by decide +kernel
theorem dL_law_209 : decode cL_law 209 = .ok (.iaload, 1) := by decide +kernel
theorem dL_law_210 : decode cL_law 210 = .ok (.aload_n 0, 1) := by decide +kernel
theorem dL_law_211 : decode cL_law 211 = .ok (.iload_n 3, 1) := by decide +kernel
theorem dL_law_212 : decode cL_law 212 = .ok (.iconst 3, 1) := by decide +kernel
theorem dL_law_213 : decode cL_law 213 = .ok (.iadd, 1) := by decide +kernel
theorem dL_law_214 : decode cL_law 214 = .ok (.iaload, 1) := by decide +kernel
theorem dL_law_215 : decode cL_law 215 = .ok (.invokevirtual 18, 3) := by decide +kernel
theorem dL_law_218 : decode cL_law 218 = .ok (.aload_n 2, 1) := by decide +kernel
theorem dL_law_219 : decode cL_law 219 = .ok (.aload_n 0, 1) := by decide +kernel
theorem dL_law_220 : decode cL_law 220 = .ok (.iload_n 3, 1) := by decide +kernel
theorem dL_law_221 : decode cL_law 221 = .ok (.iconst 1, 1) := by decide +kernel
theorem dL_law_222 : decode cL_law 222 = .ok (.iadd, 1) := by decide +kernel
theorem dL_law_223 : decode cL_law 223 = .ok (.iaload, 1) := by decide +kernel
theorem dL_law_224 : decode cL_law 224 = .ok (.aload_n 0, 1) := by decide +kernel
theorem dL_law_225 : decode cL_law 225 = .ok (.iload_n 3, 1) := by decide +kernel
theorem dL_law_226 : decode cL_law 226 = .ok (.iconst 2, 1) := by decide +kernel
theorem dL_law_227 : decode cL_law 227 = .ok (.iadd, 1) := by decide +kernel
theorem dL_law_228 : decode cL_law 228 = .ok (.iaload, 1) := by decide +kernel
theorem dL_law_229 : decode cL_law 229 = .ok (.aload_n 0, 1) := by decide +kernel
theorem dL_law_230 : decode cL_law 230 = .ok (.iload_n 3, 1) := by decide +kernel
theorem dL_law_231 : decode cL_law 231 = .ok (.iconst 3, 1) := by decide +kernel
theorem dL_law_232 : decode cL_law 232 = .ok (.iadd, 1) := by decide +kernel
theorem dL_law_233 : decode cL_law 233 = .ok (.iaload, 1) := by decide +kernel
theorem dL_law_234 : decode cL_law 234 = .ok (.invokevirtual 21, 3) := by decide +kernel
theorem dL_law_237 : decode cL_law 237 = .ok (.if_icmp .eq 740, 3) := by decide +kernel
theorem dL_law_240 : decode cL_law 240 = .ok (.iconst 0, 1) := by decide +kernel
theorem dL_law_241 : decode cL_law 241 = .ok (.ireturn, 1) := by decide +kernel
theorem dL_law_242 : decode cL_law 242 = .ok (.aload_n 1, 1) := by decide +kernel
theorem dL_law_243 : decode cL_law 243 = .ok (.aload_n 0, 1) := by decide +kernel
theorem dL_law_244 : decode cL_law 244 = .ok (.iload_n 3, 1) := by decide +kernel
theorem dL_law_245 : decode cL_law 245 = .ok (.iconst 1, 1) := by decide +kernel
theorem dL_law_246 : decode cL_law 246 = .ok (.iadd, 1) := by decide +kernel
theorem dL_law_247 : decode cL_law 247 = .ok (.iaload, 1) := by decide +kernel
theorem dL_law_248 : decode cL_law 248 = .ok (.aload_n 0, 1) := by decide +kernel
theorem dL_law_249 : decode cL_law 249 = .ok (.iload_n 3, 1) := by decide +kernel
theorem dL_law_250 : decode cL_law 250 = .ok (.iconst 2, 1) := by decide +kernel
theorem dL_law_251 : decode cL_law 251 = .ok (.iadd, 1) := by decide +kernel
theorem dL_law_252 : decode cL_law 252 = .ok (.iaload, 1) := by decide +kernel
theorem dL_law_253 : decode cL_law 253 = .ok (.aload_n 0, 1) := by decide +kernel
theorem dL_law_254 : decode cL_law 254 = .ok (.iload_n 3, 1) := by decide +kernel
theorem dL_law_255 : decode cL_law 255 = .ok (.iconst 3, 1) := by decide +kernel
theorem dL_law_256 : decode cL_law 256 = .ok (.iadd, 1) := by decide +kernel
theorem dL_law_257 : decode cL_law 257 = .ok (.iaload, 1) := by decide +kernel
theorem dL_law_258 : decode cL_law 258 = .ok (.aload_n 0, 1) := by decide +kernel
theorem dL_law_259 : decode cL_law 259 = .ok (.iload_n 3, 1) := by decide +kernel
theorem dL_law_260 : decode cL_law 260 = .ok (.iconst 4, 1) := by decide +kernel
theorem dL_law_261 : decode cL_law 261 = .ok (.iadd, 1) := by decide +kernel
theorem dL_law_262 : decode cL_law 262 = .ok (.iaload, 1) := by decide +kernel
theorem dL_law_263 : decode cL_law 263 = .ok (.aload_n 0, 1) := by decide +kernel
theorem dL_law_264 : decode cL_law 264 = .ok (.iload_n 3, 1) := by decide +kernel
theorem dL_law_265 : decode cL_law 265 = .ok (.iconst 5, 1) := by decide +kernel
theorem dL_law_266 : decode cL_law 266 = .ok (.iadd, 1) := by decide +kernel
theorem dL_law_267 : decode cL_law 267 = .ok (.iaload, 1) := by decide +kernel
theorem dL_law_268 : decode cL_law 268 = .ok (.invokevirtual 22, 3) := by decide +kernel
theorem dL_law_271 : decode cL_law 271 = .ok (.aload_n 2, 1) := by decide +kernel
theorem dL_law_272 : decode cL_law 272 = .ok (.aload_n 0, 1) := by decide +kernel
theorem dL_law_273 : decode cL_law 273 = .ok (.iload_n 3, 1) := by decide +kernel
theorem dL_law_274 : decode cL_law 274 = .ok (.iconst 1, 1) := by decide +kernel
theorem dL_law_275 : decode cL_law 275 = .ok (.iadd, 1) := by decide +kernel
theorem dL_law_276 : decode cL_law 276 = .ok (.iaload, 1) := by decide +kernel
theorem dL_law_277 : decode cL_law 277 = .ok (.aload_n 0, 1) := by decide +kernel
theorem dL_law_278 : decode cL_law 278 = .ok (.iload_n 3, 1) := by decide +kernel
theorem dL_law_279 : decode cL_law 279 = .ok (.iconst 2, 1) := by decide +kernel
theorem dL_law_280 : decode cL_law 280 = .ok (.iadd, 1) := by decide +kernel
theorem dL_law_281 : decode cL_law 281 = .ok (.iaload, 1) := by decide +kernel
theorem dL_law_282 : decode cL_law 282 = .ok (.aload_n 0, 1) := by decide +kernel
theorem dL_law_283 : decode cL_law 283 = .ok (.iload_n 3, 1) := by decide +kernel
theorem dL_law_284 : decode cL_law 284 = .ok (.iconst 3, 1) := by decide +kernel
theorem dL_law_285 : decode cL_law 285 = .ok (.iadd, 1) := by decide +kernel
theorem dL_law_286 : decode cL_law 286 = .ok (.iaload, 1) := by decide +kernel
theorem dL_law_287 : decode cL_law 287 = .ok (.aload_n 0, 1) := by decide +kernel
theorem dL_law_288 : decode cL_law 288 = .ok (.iload_n 3, 1) := by decide +kernel
theorem dL_law_289 : decode cL_law 289 = .ok (.iconst 4, 1) := by decide +kernel
theorem dL_law_290 : decode cL_law 290 = .ok (.iadd, 1) := by decide +kernel
theorem dL_law_291 : decode cL_law 291 = .ok (.iaload, 1) := by decide +kernel
theorem dL_law_292 : decode cL_law 292 = .ok (.aload_n 0, 1) := by decide +kernel
theorem dL_law_293 : decode cL_law 293 = .ok (.iload_n 3, 1) := by decide +kernel
theorem dL_law_294 : decode cL_law 294 = .ok (.iconst 5, 1) := by decide +kernel
theorem dL_law_295 : decode cL_law 295 = .ok (.iadd, 1) := by decide +kernel
theorem dL_law_296 : decode cL_law 296 = .ok (.iaload, 1) := by decide +kernel
theorem dL_law_297 : decode cL_law 297 = .ok (.invokevirtual 26, 3) := by decide +kernel
theorem dL_law_300 : decode cL_law 300 = .ok (.if_icmp .eq 677, 3) := by decide +kernel
theorem dL_law_303 : decode cL_law 303 = .ok (.iconst 0, 1) := by decide +kernel
theorem dL_law_304 : decode cL_law 304 = .ok (.ireturn, 1) := by decide +kernel
theorem dL_law_305 : decode cL_law 305 = .ok (.aload_n 1, 1) := by decide +kernel
theorem dL_law_306 : decode cL_law 306 = .ok (.aload_n 0, 1) := by decide +kernel
theorem dL_law_307 : decode cL_law 307 = .ok (.iload_n 3, 1) := by decide +kernel
theorem dL_law_308 : decode cL_law 308 = .ok (.iconst 1, 1) := by decide +kernel
theorem dL_law_309 : decode cL_law 309 = .ok (.iadd, 1) := by decide +kernel
theorem dL_law_310 : decode cL_law 310 = .ok (.iaload, 1) := by decide +kernel
theorem dL_law_311 : decode cL_law 311 = .ok (.invokevirtual 27, 3) := by decide +kernel
theorem dL_law_314 : decode cL_law 314 = .ok (.aload_n 2, 1) := by decide +kernel
theorem dL_law_315 : decode cL_law 315 = .ok (.aload_n 0, 1) := by decide +kernel
theorem dL_law_316 : decode cL_law 316 = .ok (.iload_n 3, 1) := by decide +kernel
theorem dL_law_317 : decode cL_law 317 = .ok (.iconst 1, 1) := by decide +kernel
theorem dL_law_318 : decode cL_law 318 = .ok (.iadd, 1) := by decide +kernel
theorem dL_law_319 : decode cL_law 319 = .ok (.iaload, 1) := by decide +kernel
theorem dL_law_320 : decode cL_law 320 = .ok (.invokevirtual 31, 3) := by decide +kernel
theorem dL_law_323 : decode cL_law 323 = .ok (.if_icmp .eq 654, 3) := by decide +kernel
theorem dL_law_326 : decode cL_law 326 = .ok (.iconst 0, 1) := by decide +kernel
theorem dL_law_327 : decode cL_law 327 = .ok (.ireturn, 1) := by decide +kernel
theorem dL_law_328 : decode cL_law 328 = .ok (.aload_n 1, 1) := by decide +kernel
theorem dL_law_329 : decode cL_law 329 = .ok (.aload_n 0, 1) := by decide +kernel
theorem dL_law_330 : decode cL_law 330 = .ok (.iload_n 3, 1) := by decide +kernel
theorem dL_law_331 : decode cL_law 331 = .ok (.iconst 1, 1) := by decide +kernel
theorem dL_law_332 : decode cL_law 332 = .ok (.iadd, 1) := by decide +kernel
theorem dL_law_333 : decode cL_law 333 = .ok (.iaload, 1) := by decide +kernel
theorem dL_law_334 : decode cL_law 334 = .ok (.aload_n 0, 1) := by decide +kernel
theorem dL_law_335 : decode cL_law 335 = .ok (.iload_n 3, 1) := by decide +kernel
theorem dL_law_336 : decode cL_law 336 = .ok (.iconst 2, 1) := by decide +kernel
theorem dL_law_337 : decode cL_law 337 = .ok (.iadd, 1) := by decide +kernel
theorem dL_law_338 : decode cL_law 338 = .ok (.iaload, 1) := by decide +kernel
theorem dL_law_339 : decode cL_law 339 = .ok (.invokevirtual 32, 3) := by decide +kernel
theorem dL_law_342 : decode cL_law 342 = .ok (.aload_n 2, 1) := by decide +kernel
theorem dL_law_343 : decode cL_law 343 = .ok (.aload_n 0, 1) := by decide +kernel
theorem dL_law_344 : decode cL_law 344 = .ok (.iload_n 3, 1) := by decide +kernel
theorem dL_law_345 : decode cL_law 345 = .ok (.iconst 1, 1) := by decide +kernel
theorem dL_law_346 : decode cL_law 346 = .ok (.iadd, 1) := by decide +kernel
theorem dL_law_347 : decode cL_law 347 = .ok (.iaload, 1) := by decide +kernel
theorem dL_law_348 : decode cL_law 348 = .ok (.aload_n 0, 1) := by decide +kernel
theorem dL_law_349 : decode cL_law 349 = .ok (.iload_n 3, 1) := by decide +kernel
theorem dL_law_350 : decode cL_law 350 = .ok (.iconst 2, 1) := by decide +kernel
theorem dL_law_351 : decode cL_law 351 = .ok (.iadd, 1) := by decide +kernel
theorem dL_law_352 : decode cL_law 352 = .ok (.iaload, 1) := by decide +kernel
theorem dL_law_353 : decode cL_law 353 = .ok (.invokevirtual 36, 3) := by decide +kernel
theorem dL_law_356 : decode cL_law 356 = .ok (.if_icmp .eq 621, 3) := by decide +kernel
theorem dL_law_359 : decode cL_law 359 = .ok (.iconst 0, 1) := by decide +kernel
theorem dL_law_360 : decode cL_law 360 = .ok (.ireturn, 1) := by decide +kernel
theorem dL_law_361 : decode cL_law 361 = .ok (.aload_n 1, 1) := by decide +kernel
theorem dL_law_362 : decode cL_law 362 = .ok (.aload_n 0, 1) := by decide +kernel
theorem dL_law_363 : decode cL_law 363 = .ok (.iload_n 3, 1) := by decide +kernel
theorem dL_law_364 : decode cL_law 364 = .ok (.iconst 1, 1) := by decide +kernel
theorem dL_law_365 : decode cL_law 365 = .ok (.iadd, 1) := by decide +kernel
theorem dL_law_366 : decode cL_law 366 = .ok (.iaload, 1) := by decide +kernel
theorem dL_law_367 : decode cL_law 367 = .ok (.aload_n 0, 1) := by decide +kernel
theorem dL_law_368 : decode cL_law 368 = .ok (.iload_n 3, 1) := by decide +kernel
theorem dL_law_369 : decode cL_law 369 = .ok (.iconst 2, 1) := by decide +kernel
theorem dL_law_370 : decode cL_law 370 = .ok (.iadd, 1) := by decide +kernel
theorem dL_law_371 : decode cL_law 371 = .ok (.iaload, 1) := by decide +kernel
theorem dL_law_372 : decode cL_law 372 = .ok (.invokevirtual 37, 3) := by decide +kernel
theorem dL_law_375 : decode cL_law 375 = .ok (.aload_n 2, 1) := by decide +kernel
theorem dL_law_376 : decode cL_law 376 = .ok (.aload_n 0, 1) := by decide +kernel
theorem dL_law_377 : decode cL_law 377 = .ok (.iload_n 3, 1) := by decide +kernel
theorem dL_law_378 : decode cL_law 378 = .ok (.iconst 1, 1) := by decide +kernel
theorem dL_law_379 : decode cL_law 379 = .ok (.iadd, 1) := by decide +kernel
theorem dL_law_380 : decode cL_law 380 = .ok (.iaload, 1) := by decide +kernel
theorem dL_law_381 : decode cL_law 381 = .ok (.aload_n 0, 1) := by decide +kernel
theorem dL_law_382 : decode cL_law 382 = .ok (.iload_n 3, 1) := by decide +kernel
theorem dL_law_383 : decode cL_law 383 = .ok (.iconst 2, 1) := by decide +kernel
theorem dL_law_384 : decode cL_law 384 = .ok (.iadd, 1) := by decide +kernel
theorem dL_law_385 : decode cL_law 385 = .ok (.iaload, 1) := by decide +kernel
theorem dL_law_386 : decode cL_law 386 = .ok (.invokevirtual 40, 3) := by decide +kernel
theorem dL_law_389 : decode cL_law 389 = .ok (.if_icmp .eq 588, 3) := by decide +kernel
theorem dL_law_392 : decode cL_law 392 = .ok (.iconst 0, 1) := by decide +kernel
theorem dL_law_393 : decode cL_law 393 = .ok (.ireturn, 1) := by decide +kernel
theorem dL_law_394 : decode cL_law 394 = .ok (.aload_n 1, 1) := by decide +kernel
theorem dL_law_395 : decode cL_law 395 = .ok (.aload_n 0, 1) := by decide +kernel
theorem dL_law_396 : decode cL_law 396 = .ok (.iload_n 3, 1) := by decide +kernel
theorem dL_law_397 : decode cL_law 397 = .ok (.iconst 1, 1) := by decide +kernel
theorem dL_law_398 : decode cL_law 398 = .ok (.iadd, 1) := by decide +kernel
theorem dL_law_399 : decode cL_law 399 = .ok (.iaload, 1) := by decide +kernel
theorem dL_law_400 : decode cL_law 400 = .ok (.aload_n 0, 1) := by decide +kernel
theorem dL_law_401 : decode cL_law 401 = .ok (.iload_n 3, 1) := by decide +kernel
theorem dL_law_402 : decode cL_law 402 = .ok (.iconst 2, 1) := by decide +kernel
theorem dL_law_403 : decode cL_law 403 = .ok (.iadd, 1) := by decide +kernel
theorem dL_law_404 : decode cL_law 404 = .ok (.iaload, 1) := by decide +kernel
theorem dL_law_405 : decode cL_law 405 = .ok (.invokevirtual 41, 3) := by decide +kernel
theorem dL_law_408 : decode cL_law 408 = .ok (.aload_n 2, 1) := by decide +kernel
theorem dL_law_409 : decode cL_law 409 = .ok (.aload_n 0, 1) := by decide +kernel
theorem dL_law_410 : decode cL_law 410 = .ok (.iload_n 3, 1) := by decide +kernel
theorem dL_law_411 : decode cL_law 411 = .ok (.iconst 1, 1) := by decide +kernel
theorem dL_law_412 : decode cL_law 412 = .ok (.iadd, 1) := by decide +kernel
theorem dL_law_413 : decode cL_law 413 = .ok (.iaload, 1) := by decide +kernel
theorem dL_law_414 : decode cL_law 414 = .ok (.aload_n 0, 1) := by decide +kernel
theorem dL_law_415 : decode cL_law 415 = .ok (.iload_n 3, 1) := by decide +kernel
theorem dL_law_416 : decode cL_law 416 = .ok (.iconst 2, 1) := by decide +kernel
theorem dL_law_417 : decode cL_law 417 = .ok (.iadd, 1) := by decide +kernel
theorem dL_law_418 : decode cL_law 418 = .ok (.iaload, 1) := by decide +kernel
theorem dL_law_419 : decode cL_law 419 = .ok (.invokevirtual 44, 3) := by decide +kernel
theorem dL_law_422 : decode cL_law 422 = .ok (.if_icmp .eq 555, 3) := by decide +kernel
theorem dL_law_425 : decode cL_law 425 = .ok (.iconst 0, 1) := by decide +kernel
theorem dL_law_426 : decode cL_law 426 = .ok (.ireturn, 1) := by decide +kernel
theorem dL_law_427 : decode cL_law 427 = .ok (.aload_n 1, 1) := by decide +kernel
theorem dL_law_428 : decode cL_law 428 = .ok (.aload_n 0, 1) := by decide +kernel
theorem dL_law_429 : decode cL_law 429 = .ok (.iload_n 3, 1) := by decide +kernel
theorem dL_law_430 : decode cL_law 430 = .ok (.iconst 1, 1) := by decide +kernel
theorem dL_law_431 : decode cL_law 431 = .ok (.iadd, 1) := by decide +kernel
theorem dL_law_432 : decode cL_law 432 = .ok (.iaload, 1) := by decide +kernel
theorem dL_law_433 : decode cL_law 433 = .ok (.aload_n 0, 1) := by decide +kernel
theorem dL_law_434 : decode cL_law 434 = .ok (.iload_n 3, 1) := by decide +kernel
theorem dL_law_435 : decode cL_law 435 = .ok (.iconst 2, 1) := by decide +kernel
theorem dL_law_436 : decode cL_law 436 = .ok (.iadd, 1) := by decide +kernel
theorem dL_law_437 : decode cL_law 437 = .ok (.iaload, 1) := by decide +kernel
theorem dL_law_438 : decode cL_law 438 = .ok (.invokevirtual 45, 3) := by decide +kernel
theorem dL_law_441 : decode cL_law 441 = .ok (.aload_n 2, 1) := by decide +kernel
theorem dL_law_442 : decode cL_law 442 = .ok (.aload_n 0, 1) := by decide +kernel
theorem dL_law_443 : decode cL_law 443 = .ok (.iload_n 3, 1) := by decide +kernel
theorem dL_law_444 : decode cL_law 444 = .ok (.iconst 1, 1) := by decide +kernel
theorem dL_law_445 : decode cL_law 445 = .ok (.iadd, 1) := by decide +kernel
theorem dL_law_446 : decode cL_law 446 = .ok (.iaload, 1) := by decide +kernel
theorem dL_law_447 : decode cL_law 447 = .ok (.aload_n 0, 1) := by decide +kernel
theorem dL_law_448 : decode cL_law 448 = .ok (.iload_n 3, 1) := by decide +kernel
theorem dL_law_449 : decode cL_law 449 = .ok (.iconst 2, 1) := by decide +kernel
theorem dL_law_450 : decode cL_law 450 = .ok (.iadd, 1) := by decide +kernel
theorem dL_law_451 : decode cL_law 451 = .ok (.iaload, 1) := by decide +kernel
theorem dL_law_452 : decode cL_law 452 = .ok (.invokevirtual 48, 3) := by decide +kernel
theorem dL_law_455 : decode cL_law 455 = .ok (.if_icmp .eq 522, 3) := by decide +kernel
theorem dL_law_458 : decode cL_law 458 = .ok (.iconst 0, 1) := by decide +kernel
theorem dL_law_459 : decode cL_law 459 = .ok (.ireturn, 1) := by decide +kernel
theorem dL_law_460 : decode cL_law 460 = .ok (.aload_n 1, 1) := by decide +kernel
theorem dL_law_461 : decode cL_law 461 = .ok (.aload_n 0, 1) := by decide +kernel
theorem dL_law_462 : decode cL_law 462 = .ok (.iload_n 3, 1) := by decide +kernel
theorem dL_law_463 : decode cL_law 463 = .ok (.iconst 1, 1) := by decide +kernel
theorem dL_law_464 : decode cL_law 464 = .ok (.iadd, 1) := by decide +kernel
theorem dL_law_465 : decode cL_law 465 = .ok (.iaload, 1) := by decide +kernel
theorem dL_law_466 : decode cL_law 466 = .ok (.aload_n 0, 1) := by decide +kernel
theorem dL_law_467 : decode cL_law 467 = .ok (.iload_n 3, 1) := by decide +kernel
theorem dL_law_468 : decode cL_law 468 = .ok (.iconst 2, 1) := by decide +kernel
theorem dL_law_469 : decode cL_law 469 = .ok (.iadd, 1) := by decide +kernel
theorem dL_law_470 : decode cL_law 470 = .ok (.iaload, 1) := by decide +kernel
theorem dL_law_471 : decode cL_law 471 = .ok (.invokevirtual 49, 3) := by decide +kernel
theorem dL_law_474 : decode cL_law 474 = .ok (.aload_n 2, 1) := by decide +kernel
theorem dL_law_475 : decode cL_law 475 = .ok (.aload_n 0, 1) := by decide +kernel
theorem dL_law_476 : decode cL_law 476 = .ok (.iload_n 3, 1) := by decide +kernel
theorem dL_law_477 : decode cL_law 477 = .ok (.iconst 1, 1) := by decide +kernel
theorem dL_law_478 : decode cL_law 478 = .ok (.iadd, 1) := by decide +kernel
theorem dL_law_479 : decode cL_law 479 = .ok (.iaload, 1) := by decide +kernel
theorem dL_law_480 : decode cL_law 480 = .ok (.aload_n 0, 1) := by decide +kernel
theorem dL_law_481 : decode cL_law 481 = .ok (.iload_n 3, 1) := by decide +kernel
theorem dL_law_482 : decode cL_law 482 = .ok (.iconst 2, 1) := by decide +kernel
theorem dL_law_483 : decode cL_law 483 = .ok (.iadd, 1) := by decide +kernel
theorem dL_law_484 : decode cL_law 484 = .ok (.iaload, 1) := by decide +kernel
theorem dL_law_485 : decode cL_law 485 = .ok (.invokevirtual 52, 3) := by decide +kernel
theorem dL_law_488 : decode cL_law 488 = .ok (.if_icmp .eq 489, 3) := by decide +kernel
theorem dL_law_491 : decode cL_law 491 = .ok (.iconst 0, 1) := by decide +kernel
theorem dL_law_492 : decode cL_law 492 = .ok (.ireturn, 1) := by decide +kernel
theorem dL_law_493 : decode cL_law 493 = .ok (.aload_n 1, 1) := by decide +kernel
theorem dL_law_494 : decode cL_law 494 = .ok (.aload_n 0, 1) := by decide +kernel
theorem dL_law_495 : decode cL_law 495 = .ok (.iload_n 3, 1) := by decide +kernel
theorem dL_law_496 : decode cL_law 496 = .ok (.iconst 1, 1) := by decide +kernel
theorem dL_law_497 : decode cL_law 497 = .ok (.iadd, 1) := by decide +kernel
theorem dL_law_498 : decode cL_law 498 = .ok (.iaload, 1) := by decide +kernel
theorem dL_law_499 : decode cL_law 499 = .ok (.invokevirtual 53, 3) := by decide +kernel
theorem dL_law_502 : decode cL_law 502 = .ok (.aload_n 2, 1) := by decide +kernel
theorem dL_law_503 : decode cL_law 503 = .ok (.aload_n 0, 1) := by decide +kernel
theorem dL_law_504 : decode cL_law 504 = .ok (.iload_n 3, 1) := by decide +kernel
theorem dL_law_505 : decode cL_law 505 = .ok (.iconst 1, 1) := by decide +kernel
theorem dL_law_506 : decode cL_law 506 = .ok (.iadd, 1) := by decide +kernel
theorem dL_law_507 : decode cL_law 507 = .ok (.iaload, 1) := by decide +kernel
theorem dL_law_508 : decode cL_law 508 = .ok (.invokevirtual 56, 3) := by decide +kernel
theorem dL_law_511 : decode cL_law 511 = .ok (.if_icmp .eq 466, 3) := by decide +kernel
theorem dL_law_514 : decode cL_law 514 = .ok (.iconst 0, 1) := by decide +kernel
theorem dL_law_515 : decode cL_law 515 = .ok (.ireturn, 1) := by decide +kernel
theorem dL_law_516 : decode cL_law 516 = .ok (.aload_n 1, 1) := by decide +kernel
theorem dL_law_517 : decode cL_law 517 = .ok (.aload_n 0, 1) := by decide +kernel
theorem dL_law_518 : decode cL_law 518 = .ok (.iload_n 3, 1) := by decide +kernel
theorem dL_law_519 : decode cL_law 519 = .ok (.iconst 1, 1) := by decide +kernel
theorem dL_law_520 : decode cL_law 520 = .ok (.iadd, 1) := by decide +kernel
theorem dL_law_521 : decode cL_law 521 = .ok (.iaload, 1) := by decide +kernel
theorem dL_law_522 : decode cL_law 522 = .ok (.aload_n 0, 1) := by decide +kernel
theorem dL_law_523 : decode cL_law 523 = .ok (.iload_n 3, 1) := by decide +kernel
theorem dL_law_524 : decode cL_law 524 = .ok (.iconst 2, 1) := by decide +kernel
theorem dL_law_525 : decode cL_law 525 = .ok (.iadd, 1) := by decide +kernel
theorem dL_law_526 : decode cL_law 526 = .ok (.iaload, 1) := by decide +kernel
theorem dL_law_527 : decode cL_law 527 = .ok (.aload_n 0, 1) := by decide +kernel
theorem dL_law_528 : decode cL_law 528 = .ok (.iload_n 3, 1) := by decide +kernel
theorem dL_law_529 : decode cL_law 529 = .ok (.iconst 3, 1) := by decide +kernel
theorem dL_law_530 : decode cL_law 530 = .ok (.iadd, 1) := by decide +kernel
theorem dL_law_531 : decode cL_law 531 = .ok (.iaload, 1) := by decide +kernel
theorem dL_law_532 : decode cL_law 532 = .ok (.aload_n 0, 1) := by decide +kernel
theorem dL_law_533 : decode cL_law 533 = .ok (.iload_n 3, 1) := by decide +kernel
theorem dL_law_534 : decode cL_law 534 = .ok (.iconst 4, 1) := by decide +kernel
theorem dL_law_535 : decode cL_law 535 = .ok (.iadd, 1) := by decide +kernel
theorem dL_law_536 : decode cL_law 536 = .ok (.iaload, 1) := by decide +kernel
theorem dL_law_537 : decode cL_law 537 = .ok (.invokevirtual 57, 3) := by decide +kernel
theorem dL_law_540 : decode cL_law 540 = .ok (.aload_n 2, 1) := by decide +kernel
theorem dL_law_541 : decode cL_law 541 = .ok (.aload_n 0, 1) := by decide +kernel
theorem dL_law_542 : decode cL_law 542 = .ok (.iload_n 3, 1) := by decide +kernel
theorem dL_law_543 : decode cL_law 543 = .ok (.iconst 1, 1) := by decide +kernel
theorem dL_law_544 : decode cL_law 544 = .ok (.iadd, 1) := by decide +kernel
theorem dL_law_545 : decode cL_law 545 = .ok (.iaload, 1) := by decide +kernel
theorem dL_law_546 : decode cL_law 546 = .ok (.aload_n 0, 1) := by decide +kernel
theorem dL_law_547 : decode cL_law 547 = .ok (.iload_n 3, 1) := by decide +kernel
theorem dL_law_548 : decode cL_law 548 = .ok (.iconst 2, 1) := by decide +kernel
theorem dL_law_549 : decode cL_law 549 = .ok (.iadd, 1) := by decide +kernel
theorem dL_law_550 : decode cL_law 550 = .ok (.iaload, 1) := by decide +kernel
theorem dL_law_551 : decode cL_law 551 = .ok (.aload_n 0, 1) := by decide +kernel
theorem dL_law_552 : decode cL_law 552 = .ok (.iload_n 3, 1) := by decide +kernel
theorem dL_law_553 : decode cL_law 553 = .ok (.iconst 3, 1) := by decide +kernel
theorem dL_law_554 : decode cL_law 554 = .ok (.iadd, 1) := by decide +kernel
theorem dL_law_555 : decode cL_law 555 = .ok (.iaload, 1) := by decide +kernel
theorem dL_law_556 : decode cL_law 556 = .ok (.aload_n 0, 1) := by decide +kernel
theorem dL_law_557 : decode cL_law 557 = .ok (.iload_n 3, 1) := by decide +kernel
theorem dL_law_558 : decode cL_law 558 = .ok (.iconst 4, 1) := by decide +kernel
theorem dL_law_559 : decode cL_law 559 = .ok (.iadd, 1) := by decide +kernel
theorem dL_law_560 : decode cL_law 560 = .ok (.iaload, 1) := by decide +kernel
theorem dL_law_561 : decode cL_law 561 = .ok (.invokevirtual 61, 3) := by decide +kernel
theorem dL_law_564 : decode cL_law 564 = .ok (.if_icmp .eq 413, 3) := by decide +kernel
theorem dL_law_567 : decode cL_law 567 = .ok (.iconst 0, 1) := by decide +kernel
theorem dL_law_568 : decode cL_law 568 = .ok (.ireturn, 1) := by decide +kernel
theorem dL_law_569 : decode cL_law 569 = .ok (.aload_n 1, 1) := by decide +kernel
theorem dL_law_570 : decode cL_law 570 = .ok (.aload_n 0, 1) := by decide +kernel
theorem dL_law_571 : decode cL_law 571 = .ok (.iload_n 3, 1) := by decide +kernel
theorem dL_law_572 : decode cL_law 572 = .ok (.iconst 1, 1) := by decide +kernel
theorem dL_law_573 : decode cL_law 573 = .ok (.iadd, 1) := by decide +kernel
theorem dL_law_574 : decode cL_law 574 = .ok (.iaload, 1) := by decide +kernel
theorem dL_law_575 : decode cL_law 575 = .ok (.invokevirtual 62, 3) := by decide +kernel
theorem dL_law_578 : decode cL_law 578 = .ok (.aload_n 2, 1) := by decide +kernel
theorem dL_law_579 : decode cL_law 579 = .ok (.aload_n 0, 1) := by decide +kernel
theorem dL_law_580 : decode cL_law 580 = .ok (.iload_n 3, 1) := by decide +kernel
theorem dL_law_581 : decode cL_law 581 = .ok (.iconst 1, 1) := by decide +kernel
theorem dL_law_582 : decode cL_law 582 = .ok (.iadd, 1) := by decide +kernel
theorem dL_law_583 : decode cL_law 583 = .ok (.iaload, 1) := by decide +kernel
theorem dL_law_584 : decode cL_law 584 = .ok (.invokevirtual 65, 3) := by decide +kernel
theorem dL_law_587 : decode cL_law 587 = .ok (.if_icmp .eq 390, 3) := by decide +kernel
theorem dL_law_590 : decode cL_law 590 = .ok (.iconst 0, 1) := by decide +kernel
theorem dL_law_591 : decode cL_law 591 = .ok (.ireturn, 1) := by decide +kernel
theorem dL_law_592 : decode cL_law 592 = .ok (.aload_n 1, 1) := by decide +kernel
theorem dL_law_593 : decode cL_law 593 = .ok (.invokevirtual 66, 3) := by decide +kernel
theorem dL_law_596 : decode cL_law 596 = .ok (.aload_n 2, 1) := by decide +kernel
theorem dL_law_597 : decode cL_law 597 = .ok (.invokevirtual 70, 3) := by decide +kernel
theorem dL_law_600 : decode cL_law 600 = .ok (.if_icmp .eq 377, 3) := by decide +kernel
theorem dL_law_603 : decode cL_law 603 = .ok (.iconst 0, 1) := by decide +kernel
theorem dL_law_604 : decode cL_law 604 = .ok (.ireturn, 1) := by decide +kernel
theorem dL_law_605 : decode cL_law 605 = .ok (.aload_n 1, 1) := by decide +kernel
theorem dL_law_606 : decode cL_law 606 = .ok (.invokevirtual 71, 3) := by decide +kernel
theorem dL_law_609 : decode cL_law 609 = .ok (.aload_n 2, 1) := by decide +kernel
theorem dL_law_610 : decode cL_law 610 = .ok (.invokevirtual 74, 3) := by decide +kernel
theorem dL_law_613 : decode cL_law 613 = .ok (.if_icmp .eq 364, 3) := by decide +kernel
theorem dL_law_616 : decode cL_law 616 = .ok (.iconst 0, 1) := by decide +kernel
theorem dL_law_617 : decode cL_law 617 = .ok (.ireturn, 1) := by decide +kernel
theorem dL_law_618 : decode cL_law 618 = .ok (.aload_n 1, 1) := by decide +kernel
theorem dL_law_619 : decode cL_law 619 = .ok (.aload_n 0, 1) := by decide +kernel
theorem dL_law_620 : decode cL_law 620 = .ok (.iload_n 3, 1) := by decide +kernel
theorem dL_law_621 : decode cL_law 621 = .ok (.iconst 1, 1) := by decide +kernel
theorem dL_law_622 : decode cL_law 622 = .ok (.iadd, 1) := by decide +kernel
theorem dL_law_623 : decode cL_law 623 = .ok (.iaload, 1) := by decide +kernel
theorem dL_law_624 : decode cL_law 624 = .ok (.aload_n 0, 1) := by decide +kernel
theorem dL_law_625 : decode cL_law 625 = .ok (.iload_n 3, 1) := by decide +kernel
theorem dL_law_626 : decode cL_law 626 = .ok (.iconst 2, 1) := by decide +kernel
theorem dL_law_627 : decode cL_law 627 = .ok (.iadd, 1) := by decide +kernel
theorem dL_law_628 : decode cL_law 628 = .ok (.iaload, 1) := by decide +kernel
theorem dL_law_629 : decode cL_law 629 = .ok (.invokevirtual 75, 3) := by decide +kernel
theorem dL_law_632 : decode cL_law 632 = .ok (.aload_n 2, 1) := by decide +kernel
theorem dL_law_633 : decode cL_law 633 = .ok (.aload_n 0, 1) := by decide +kernel
theorem dL_law_634 : decode cL_law 634 = .ok (.iload_n 3, 1) := by decide +kernel
theorem dL_law_635 : decode cL_law 635 = .ok (.iconst 1, 1) := by decide +kernel
theorem dL_law_636 : decode cL_law 636 = .ok (.iadd, 1) := by decide +kernel
theorem dL_law_637 : decode cL_law 637 = .ok (.iaload, 1) := by decide +kernel
theorem dL_law_638 : decode cL_law 638 = .ok (.aload_n 0, 1) := by decide +kernel
theorem dL_law_639 : decode cL_law 639 = .ok (.iload_n 3, 1) := by decide +kernel
theorem dL_law_640 : decode cL_law 640 = .ok (.iconst 2, 1) := by decide +kernel
theorem dL_law_641 : decode cL_law 641 = .ok (.iadd, 1) := by decide +kernel
theorem dL_law_642 : decode cL_law 642 = .ok (.iaload, 1) := by decide +kernel
theorem dL_law_643 : decode cL_law 643 = .ok (.invokevirtual 78, 3) := by decide +kernel
theorem dL_law_646 : decode cL_law 646 = .ok (.if_icmp .eq 331, 3) := by decide +kernel
theorem dL_law_649 : decode cL_law 649 = .ok (.iconst 0, 1) := by decide +kernel
theorem dL_law_650 : decode cL_law 650 = .ok (.ireturn, 1) := by decide +kernel
theorem dL_law_651 : decode cL_law 651 = .ok (.aload_n 1, 1) := by decide +kernel
theorem dL_law_652 : decode cL_law 652 = .ok (.aload_n 0, 1) := by decide +kernel
theorem dL_law_653 : decode cL_law 653 = .ok (.iload_n 3, 1) := by decide +kernel
theorem dL_law_654 : decode cL_law 654 = .ok (.iconst 1, 1) := by decide +kernel
theorem dL_law_655 : decode cL_law 655 = .ok (.iadd, 1) := by decide +kernel
theorem dL_law_656 : decode cL_law 656 = .ok (.iaload, 1) := by decide +kernel
theorem dL_law_657 : decode cL_law 657 = .ok (.aload_n 0, 1) := by decide +kernel
theorem dL_law_658 : decode cL_law 658 = .ok (.iload_n 3, 1) := by decide +kernel
theorem dL_law_659 : decode cL_law 659 = .ok (.iconst 2, 1) := by decide +kernel
theorem dL_law_660 : decode cL_law 660 = .ok (.iadd, 1) := by decide +kernel
theorem dL_law_661 : decode cL_law 661 = .ok (.iaload, 1) := by decide +kernel
theorem dL_law_662 : decode cL_law 662 = .ok (.aload_n 0, 1) := by decide +kernel
theorem dL_law_663 : decode cL_law 663 = .ok (.iload_n 3, 1) := by decide +kernel
theorem dL_law_664 : decode cL_law 664 = .ok (.iconst 3, 1) := by decide +kernel
theorem dL_law_665 : decode cL_law 665 = .ok (.iadd, 1) := by decide +kernel
theorem dL_law_666 : decode cL_law 666 = .ok (.iaload, 1) := by decide +kernel
theorem dL_law_667 : decode cL_law 667 = .ok (.invokevirtual 79, 3) := by decide +kernel
theorem dL_law_670 : decode cL_law 670 = .ok (.aload_n 2, 1) := by decide +kernel
theorem dL_law_671 : decode cL_law 671 = .ok (.aload_n 0, 1) := by decide +kernel
theorem dL_law_672 : decode cL_law 672 = .ok (.iload_n 3, 1) := by decide +kernel
theorem dL_law_673 : decode cL_law 673 = .ok (.iconst 1, 1) := by decide +kernel
theorem dL_law_674 : decode cL_law 674 = .ok (.iadd, 1) := by decide +kernel
theorem dL_law_675 : decode cL_law 675 = .ok (.iaload, 1) := by decide +kernel
theorem dL_law_676 : decode cL_law 676 = .ok (.aload_n 0, 1) := by decide +kernel
theorem dL_law_677 : decode cL_law 677 = .ok (.iload_n 3, 1) := by decide +kernel
theorem dL_law_678 : decode cL_law 678 = .ok (.iconst 2, 1) := by decide +kernel
theorem dL_law_679 : decode cL_law 679 = .ok (.iadd, 1) := by decide +kernel
theorem dL_law_680 : decode cL_law 680 = .ok (.iaload, 1) := by decide +kernel
theorem dL_law_681 : decode cL_law 681 = .ok (.aload_n 0, 1) := by decide +kernel
theorem dL_law_682 : decode cL_law 682 = .ok (.iload_n 3, 1) := by decide +kernel
theorem dL_law_683 : decode cL_law 683 = .ok (.iconst 3, 1) := by decide +kernel
theorem dL_law_684 : decode cL_law 684 = .ok (.iadd, 1) := by decide +kernel
theorem dL_law_685 : decode cL_law 685 = .ok (.iaload, 1) := by decide +kernel
theorem dL_law_686 : decode cL_law 686 = .ok (.invokevirtual 82, 3) := by decide +kernel
theorem dL_law_689 : decode cL_law 689 = .ok (.if_icmp .eq 288, 3) := by decide +kernel
theorem dL_law_692 : decode cL_law 692 = .ok (.iconst 0, 1) := by decide +kernel
theorem dL_law_693 : decode cL_law 693 = .ok (.ireturn, 1) := by decide +kernel
theorem dL_law_694 : decode cL_law 694 = .ok (.aload_n 1, 1) := by decide +kernel
theorem dL_law_695 : decode cL_law 695 = .ok (.aload_n 0, 1) := by decide +kernel
theorem dL_law_696 : decode cL_law 696 = .ok (.iload_n 3, 1) := by decide +kernel
theorem dL_law_697 : decode cL_law 697 = .ok (.iconst 1, 1) := by decide +kernel
theorem dL_law_698 : decode cL_law 698 = .ok (.iadd, 1) := by decide +kernel
theorem dL_law_699 : decode cL_law 699 = .ok (.iaload, 1) := by decide +kernel
theorem dL_law_700 : decode cL_law 700 = .ok (.invokevirtual 83, 3) := by decide +kernel
theorem dL_law_703 : decode cL_law 703 = .ok (.aload_n 2, 1) := by decide +kernel
theorem dL_law_704 : decode cL_law 704 = .ok (.aload_n 0, 1) := by decide +kernel
theorem dL_law_705 : decode cL_law 705 = .ok (.iload_n 3, 1) := by decide +kernel
theorem dL_law_706 : decode cL_law 706 = .ok (.iconst 1, 1) := by decide +kernel
theorem dL_law_707 : decode cL_law 707 = .ok (.iadd, 1) := by decide +kernel
theorem dL_law_708 : decode cL_law 708 = .ok (.iaload, 1) := by decide +kernel
theorem dL_law_709 : decode cL_law 709 = .ok (.invokevirtual 86, 3) := by decide +kernel
theorem dL_law_712 : decode cL_law 712 = .ok (.if_icmp .eq 265, 3) := by decide +kernel
theorem dL_law_715 : decode cL_law 715 = .ok (.iconst 0, 1) := by decide +kernel
theorem dL_law_716 : decode cL_law 716 = .ok (.ireturn, 1) := by decide +kernel
theorem dL_law_717 : decode cL_law 717 = .ok (.aload_n 1, 1) := by decide +kernel
theorem dL_law_718 : decode cL_law 718 = .ok (.aload_n 0, 1) := by decide +kernel
theorem dL_law_719 : decode cL_law 719 = .ok (.iload_n 3, 1) := by decide +kernel
theorem dL_law_720 : decode cL_law 720 = .ok (.iconst 1, 1) := by decide +kernel
theorem dL_law_721 : decode cL_law 721 = .ok (.iadd, 1) := by decide +kernel
theorem dL_law_722 : decode cL_law 722 = .ok (.iaload, 1) := by decide +kernel
theorem dL_law_723 : decode cL_law 723 = .ok (.invokevirtual 87, 3) := by decide +kernel
theorem dL_law_726 : decode cL_law 726 = .ok (.aload_n 2, 1) := by decide +kernel
theorem dL_law_727 : decode cL_law 727 = .ok (.aload_n 0, 1) := by decide +kernel
theorem dL_law_728 : decode cL_law 728 = .ok (.iload_n 3, 1) := by decide +kernel
theorem dL_law_729 : decode cL_law 729 = .ok (.iconst 1, 1) := by decide +kernel
theorem dL_law_730 : decode cL_law 730 = .ok (.iadd, 1) := by decide +kernel
theorem dL_law_731 : decode cL_law 731 = .ok (.iaload, 1) := by decide +kernel
theorem dL_law_732 : decode cL_law 732 = .ok (.invokevirtual 90, 3) := by decide +kernel
theorem dL_law_735 : decode cL_law 735 = .ok (.if_icmp .eq 242, 3) := by decide +kernel
theorem dL_law_738 : decode cL_law 738 = .ok (.iconst 0, 1) := by decide +kernel
theorem dL_law_739 : decode cL_law 739 = .ok (.ireturn, 1) := by decide +kernel
theorem dL_law_740 : decode cL_law 740 = .ok (.aload_n 1, 1) := by decide +kernel
theorem dL_law_741 : decode cL_law 741 = .ok (.aload_n 0, 1) := by decide +kernel
theorem dL_law_742 : decode cL_law 742 = .ok (.iload_n 3, 1) := by decide +kernel
theorem dL_law_743 : decode cL_law 743 = .ok (.iconst 1, 1) := by decide +kernel
theorem dL_law_744 : decode cL_law 744 = .ok (.iadd, 1) := by decide +kernel
theorem dL_law_745 : decode cL_law 745 = .ok (.iaload, 1) := by decide +kernel
theorem dL_law_746 : decode cL_law 746 = .ok (.aload_n 0, 1) := by decide +kernel
theorem dL_law_747 : decode cL_law 747 = .ok (.iload_n 3, 1) := by decide +kernel
theorem dL_law_748 : decode cL_law 748 = .ok (.iconst 2, 1) := by decide +kernel
theorem dL_law_749 : decode cL_law 749 = .ok (.iadd, 1) := by decide +kernel
theorem dL_law_750 : decode cL_law 750 = .ok (.iaload, 1) := by decide +kernel
theorem dL_law_751 : decode cL_law 751 = .ok (.invokevirtual 91, 3) := by decide +kernel
theorem dL_law_754 : decode cL_law 754 = .ok (.aload_n 2, 1) := by decide +kernel
theorem dL_law_755 : decode cL_law 755 = .ok (.aload_n 0, 1) := by decide +kernel
theorem dL_law_756 : decode cL_law 756 = .ok (.iload_n 3, 1) := by decide +kernel
theorem dL_law_757 : decode cL_law 757 = .ok (.iconst 1, 1) := by decide +kernel
theorem dL_law_758 : decode cL_law 758 = .ok (.iadd, 1) := by decide +kernel
theorem dL_law_759 : decode cL_law 759 = .ok (.iaload, 1) := by decide +kernel
theorem dL_law_760 : decode cL_law 760 = .ok (.aload_n 0, 1) := by decide +kernel
theorem dL_law_761 : decode cL_law 761 = .ok (.iload_n 3, 1) := by decide +kernel
theorem dL_law_762 : decode cL_law 762 = .ok (.iconst 2, 1) := by decide +kernel
theorem dL_law_763 : decode cL_law 763 = .ok (.iadd, 1) := by decide +kernel
theorem dL_law_764 : decode cL_law 764 = .ok (.iaload, 1) := by decide +kernel
theorem dL_law_765 : decode cL_law 765 = .ok (.invokevirtual 94, 3) := by decide +kernel
theorem dL_law_768 : decode cL_law 768 = .ok (.if_icmp .eq 209, 3) := by decide +kernel
theorem dL_law_771 : decode cL_law 771 = .ok (.iconst 0, 1) := by decide +kernel
theorem dL_law_772 : decode cL_law 772 = .ok (.ireturn, 1) := by decide +kernel
theorem dL_law_773 : decode cL_law 773 = .ok (.aload_n 1, 1) := by decide +kernel
theorem dL_law_774 : decode cL_law 774 = .ok (.aload_n 0, 1) := by decide +kernel
theorem dL_law_775 : decode cL_law 775 = .ok (.iload_n 3, 1) := by decide +kernel
theorem dL_law_776 : decode cL_law 776 = .ok (.iconst 1, 1) := by decide +kernel
theorem dL_law_777 : decode cL_law 777 = .ok (.iadd, 1) := by decide +kernel
theorem dL_law_778 : decode cL_law 778 = .ok (.iaload, 1) := by decide +kernel
theorem dL_law_779 : decode cL_law 779 = .ok (.invokevirtual 95, 3) := by decide +kernel
theorem dL_law_782 : decode cL_law 782 = .ok (.aload_n 2, 1) := by decide +kernel
theorem dL_law_783 : decode cL_law 783 = .ok (.aload_n 0, 1) := by decide +kernel
theorem dL_law_784 : decode cL_law 784 = .ok (.iload_n 3, 1) := by decide +kernel
theorem dL_law_785 : decode cL_law 785 = .ok (.iconst 1, 1) := by decide +kernel
theorem dL_law_786 : decode cL_law 786 = .ok (.iadd, 1) := by decide +kernel
theorem dL_law_787 : decode cL_law 787 = .ok (.iaload, 1) := by decide +kernel
theorem dL_law_788 : decode cL_law 788 = .ok (.invokevirtual 98, 3) := by decide +kernel
theorem dL_law_791 : decode cL_law 791 = .ok (.if_icmp .eq 186, 3) := by decide +kernel
theorem dL_law_794 : decode cL_law 794 = .ok (.iconst 0, 1) := by decide +kernel
theorem dL_law_795 : decode cL_law 795 = .ok (.ireturn, 1) := by decide +kernel
theorem dL_law_796 : decode cL_law 796 = .ok (.aload_n 1, 1) := by decide +kernel
theorem dL_law_797 : decode cL_law 797 = .ok (.aload_n 0, 1) := by decide +kernel
theorem dL_law_798 : decode cL_law 798 = .ok (.iload_n 3, 1) := by decide +kernel
theorem dL_law_799 : decode cL_law 799 = .ok (.iconst 1, 1) := by decide +kernel
theorem dL_law_800 : decode cL_law 800 = .ok (.iadd, 1) := by decide +kernel
theorem dL_law_801 : decode cL_law 801 = .ok (.iaload, 1) := by decide +kernel
theorem dL_law_802 : decode cL_law 802 = .ok (.aload_n 0, 1) := by decide +kernel
theorem dL_law_803 : decode cL_law 803 = .ok (.iload_n 3, 1) := by decide +kernel
theorem dL_law_804 : decode cL_law 804 = .ok (.iconst 2, 1) := by decide +kernel
theorem dL_law_805 : decode cL_law 805 = .ok (.iadd, 1) := by decide +kernel
theorem dL_law_806 : decode cL_law 806 = .ok (.iaload, 1) := by decide +kernel
theorem dL_law_807 : decode cL_law 807 = .ok (.invokevirtual 99, 3) := by decide +kernel
theorem dL_law_810 : decode cL_law 810 = .ok (.aload_n 2, 1) := by decide +kernel
theorem dL_law_811 : decode cL_law 811 = .ok (.aload_n 0, 1) := by decide +kernel
theorem dL_law_812 : decode cL_law 812 = .ok (.iload_n 3, 1) := by decide +kernel
theorem dL_law_813 : decode cL_law 813 = .ok (.iconst 1, 1) := by decide +kernel
theorem dL_law_814 : decode cL_law 814 = .ok (.iadd, 1) := by decide +kernel
theorem dL_law_815 : decode cL_law 815 = .ok (.iaload, 1) := by decide +kernel
theorem dL_law_816 : decode cL_law 816 = .ok (.aload_n 0, 1) := by decide +kernel
theorem dL_law_817 : decode cL_law 817 = .ok (.iload_n 3, 1) := by decide +kernel
theorem dL_law_818 : decode cL_law 818 = .ok (.iconst 2, 1) := by decide +kernel
theorem dL_law_819 : decode cL_law 819 = .ok (.iadd, 1) := by decide +kernel
theorem dL_law_820 : decode cL_law 820 = .ok (.iaload, 1) := by decide +kernel
theorem dL_law_821 : decode cL_law 821 = .ok (.invokevirtual 102, 3) := by decide +kernel
theorem dL_law_824 : decode cL_law 824 = .ok (.if_icmp .eq 153, 3) := by decide +kernel
theorem dL_law_827 : decode cL_law 827 = .ok (.iconst 0, 1) := by decide +kernel
theorem dL_law_828 : decode cL_law 828 = .ok (.ireturn, 1) := by decide +kernel
theorem dL_law_829 : decode cL_law 829 = .ok (.aload_n 1, 1) := by decide +kernel
theorem dL_law_830 : decode cL_law 830 = .ok (.aload_n 0, 1) := by decide +kernel
theorem dL_law_831 : decode cL_law 831 = .ok (.iload_n 3, 1) := by decide +kernel
theorem dL_law_832 : decode cL_law 832 = .ok (.iconst 1, 1) := by decide +kernel
theorem dL_law_833 : decode cL_law 833 = .ok (.iadd, 1) := by decide +kernel
theorem dL_law_834 : decode cL_law 834 = .ok (.iaload, 1) := by decide +kernel
theorem dL_law_835 : decode cL_law 835 = .ok (.invokevirtual 103, 3) := by decide +kernel
theorem dL_law_838 : decode cL_law 838 = .ok (.aload_n 2, 1) := by decide +kernel
theorem dL_law_839 : decode cL_law 839 = .ok (.aload_n 0, 1) := by decide +kernel
theorem dL_law_840 : decode cL_law 840 = .ok (.iload_n 3, 1) := by decide +kernel
theorem dL_law_841 : decode cL_law 841 = .ok (.iconst 1, 1) := by decide +kernel
theorem dL_law_842 : decode cL_law 842 = .ok (.iadd, 1) := by decide +kernel
theorem dL_law_843 : decode cL_law 843 = .ok (.iaload, 1) := by decide +kernel
theorem dL_law_844 : decode cL_law 844 = .ok (.invokevirtual 106, 3) := by decide +kernel
theorem dL_law_847 : decode cL_law 847 = .ok (.if_icmp .eq 130, 3) := by decide +kernel
theorem dL_law_850 : decode cL_law 850 = .ok (.iconst 0, 1) := by decide +kernel
theorem dL_law_851 : decode cL_law 851 = .ok (.ireturn, 1) := by decide +kernel
theorem dL_law_852 : decode cL_law 852 = .ok (.aload_n 1, 1) := by decide +kernel
theorem dL_law_853 : decode cL_law 853 = .ok (.aload_n 0, 1) := by decide +kernel
theorem dL_law_854 : decode cL_law 854 = .ok (.iload_n 3, 1) := by decide +kernel
theorem dL_law_855 : decode cL_law 855 = .ok (.iconst 1, 1) := by decide +kernel
theorem dL_law_856 : decode cL_law 856 = .ok (.iadd, 1) := by decide +kernel
theorem dL_law_857 : decode cL_law 857 = .ok (.iaload, 1) := by decide +kernel
theorem dL_law_858 : decode cL_law 858 = .ok (.aload_n 0, 1) := by decide +kernel
theorem dL_law_859 : decode cL_law 859 = .ok (.iload_n 3, 1) := by decide +kernel
theorem dL_law_860 : decode cL_law 860 = .ok (.iconst 2, 1) := by decide +kernel
theorem dL_law_861 : decode cL_law 861 = .ok (.iadd, 1) := by decide +kernel
theorem dL_law_862 : decode cL_law 862 = .ok (.iaload, 1) := by decide +kernel
theorem dL_law_863 : decode cL_law 863 = .ok (.invokevirtual 107, 3) := by decide +kernel
theorem dL_law_866 : decode cL_law 866 = .ok (.aload_n 2, 1) := by decide +kernel
theorem dL_law_867 : decode cL_law 867 = .ok (.aload_n 0, 1) := by decide +kernel
theorem dL_law_868 : decode cL_law 868 = .ok (.iload_n 3, 1) := by decide +kernel
theorem dL_law_869 : decode cL_law 869 = .ok (.iconst 1, 1) := by decide +kernel
theorem dL_law_870 : decode cL_law 870 = .ok (.iadd, 1) := by decide +kernel
theorem dL_law_871 : decode cL_law 871 = .ok (.iaload, 1) := by decide +kernel
theorem dL_law_872 : decode cL_law 872 = .ok (.aload_n 0, 1) := by decide +kernel
theorem dL_law_873 : decode cL_law 873 = .ok (.iload_n 3, 1) := by decide +kernel
theorem dL_law_874 : decode cL_law 874 = .ok (.iconst 2, 1) := by decide +kernel
theorem dL_law_875 : decode cL_law 875 = .ok (.iadd, 1) := by decide +kernel
theorem dL_law_876 : decode cL_law 876 = .ok (.iaload, 1) := by decide +kernel
theorem dL_law_877 : decode cL_law 877 = .ok (.invokevirtual 110, 3) := by decide +kernel
theorem dL_law_880 : decode cL_law 880 = .ok (.if_icmp .eq 97, 3) := by decide +kernel
theorem dL_law_883 : decode cL_law 883 = .ok (.iconst 0, 1) := by decide +kernel
theorem dL_law_884 : decode cL_law 884 = .ok (.ireturn, 1) := by decide +kernel
theorem dL_law_885 : decode cL_law 885 = .ok (.aload_n 1, 1) := by decide +kernel
theorem dL_law_886 : decode cL_law 886 = .ok (.aload_n 0, 1) := by decide +kernel
theorem dL_law_887 : decode cL_law 887 = .ok (.iload_n 3, 1) := by decide +kernel
theorem dL_law_888 : decode cL_law 888 = .ok (.iconst 1, 1) := by decide +kernel
theorem dL_law_889 : decode cL_law 889 = .ok (.iadd, 1) := by decide +kernel
theorem dL_law_890 : decode cL_law 890 = .ok (.iaload, 1) := by decide +kernel
theorem dL_law_891 : decode cL_law 891 = .ok (.aload_n 0, 1) := by decide +kernel
theorem dL_law_892 : decode cL_law 892 = .ok (.iload_n 3, 1) := by decide +kernel
theorem dL_law_893 : decode cL_law 893 = .ok (.iconst 2, 1) := by decide +kernel
theorem dL_law_894 : decode cL_law 894 = .ok (.iadd, 1) := by decide +kernel
theorem dL_law_895 : decode cL_law 895 = .ok (.iaload, 1) := by decide +kernel
theorem dL_law_896 : decode cL_law 896 = .ok (.invokevirtual 111, 3) := by decide +kernel
theorem dL_law_899 : decode cL_law 899 = .ok (.aload_n 2, 1) := by decide +kernel
theorem dL_law_900 : decode cL_law 900 = .ok (.aload_n 0, 1) := by decide +kernel
theorem dL_law_901 : decode cL_law 901 = .ok (.iload_n 3, 1) := by decide +kernel
theorem dL_law_902 : decode cL_law 902 = .ok (.iconst 1, 1) := by decide +kernel
theorem dL_law_903 : decode cL_law 903 = .ok (.iadd, 1) := by decide +kernel
theorem dL_law_904 : decode cL_law 904 = .ok (.iaload, 1) := by decide +kernel
theorem dL_law_905 : decode cL_law 905 = .ok (.aload_n 0, 1) := by decide +kernel
theorem dL_law_906 : decode cL_law 906 = .ok (.iload_n 3, 1) := by decide +kernel
theorem dL_law_907 : decode cL_law 907 = .ok (.iconst 2, 1) := by decide +kernel
theorem dL_law_908 : decode cL_law 908 = .ok (.iadd, 1) := by decide +kernel
theorem dL_law_909 : decode cL_law 909 = .ok (.iaload, 1) := by decide +kernel
theorem dL_law_910 : decode cL_law 910 = .ok (.invokevirtual 114, 3) := by decide +kernel
theorem dL_law_913 : decode cL_law 913 = .ok (.if_icmp .eq 64, 3) := by decide +kernel
theorem dL_law_916 : decode cL_law 916 = .ok (.iconst 0, 1) := by decide +kernel
theorem dL_law_917 : decode cL_law 917 = .ok (.ireturn, 1) := by decide +kernel
theorem dL_law_918 : decode cL_law 918 = .ok (.aload_n 1, 1) := by decide +kernel
theorem dL_law_919 : decode cL_law 919 = .ok (.aload_n 0, 1) := by decide +kernel
theorem dL_law_920 : decode cL_law 920 = .ok (.iload_n 3, 1) := by decide +kernel
theorem dL_law_921 : decode cL_law 921 = .ok (.iconst 1, 1) := by decide +kernel
theorem dL_law_922 : decode cL_law 922 = .ok (.iadd, 1) := by decide +kernel
theorem dL_law_923 : decode cL_law 923 = .ok (.iaload, 1) := by decide +kernel
theorem dL_law_924 : decode cL_law 924 = .ok (.invokevirtual 115, 3) := by decide +kernel
theorem dL_law_927 : decode cL_law 927 = .ok (.aload_n 2, 1) := by decide +kernel
theorem dL_law_928 : decode cL_law 928 = .ok (.aload_n 0, 1) := by decide +kernel
theorem dL_law_929 : decode cL_law 929 = .ok (.iload_n 3, 1) := by decide +kernel
theorem dL_law_930 : decode cL_law 930 = .ok (.iconst 1, 1) := by decide +kernel
theorem dL_law_931 : decode cL_law 931 = .ok (.iadd, 1) := by decide +kernel
theorem dL_law_932 : decode cL_law 932 = .ok (.iaload, 1) := by decide +kernel
theorem dL_law_933 : decode cL_law 933 = .ok (.invokevirtual 118, 3) := by decide +kernel
theorem dL_law_936 : decode cL_law 936 = .ok (.if_icmp .eq 41, 3) := by decide +kernel
theorem dL_law_939 : decode cL_law 939 = .ok (.iconst 0, 1) := by decide +kernel
theorem dL_law_940 : decode cL_law 940 = .ok (.ireturn, 1) := by decide +kernel
theorem dL_law_941 : decode cL_law 941 = .ok (.aload_n 1, 1) := by decide +kernel
theorem dL_law_942 : decode cL_law 942 = .ok (.aload_n 0, 1) := by decide +kernel
theorem dL_law_943 : decode cL_law 943 = .ok (.iload_n 3, 1) := by decide +kernel
theorem dL_law_944 : decode cL_law 944 = .ok (.iconst 1, 1) := by decide +kernel
theorem dL_law_945 : decode cL_law 945 = .ok (.iadd, 1) := by decide +kernel
theorem dL_law_946 : decode cL_law 946 = .ok (.iaload, 1) := by decide +kernel
theorem dL_law_947 : decode cL_law 947 = .ok (.invokevirtual 119, 3) := by decide +kernel
theorem dL_law_950 : decode cL_law 950 = .ok (.aload_n 2, 1) := by decide +kernel
theorem dL_law_951 : decode cL_law 951 = .ok (.aload_n 0, 1) := by decide +kernel
theorem dL_law_952 : decode cL_law 952 = .ok (.iload_n 3, 1) := by decide +kernel
theorem dL_law_953 : decode cL_law 953 = .ok (.iconst 1, 1) := by decide +kernel
theorem dL_law_954 : decode cL_law 954 = .ok (.iadd, 1) := by decide +kernel
theorem dL_law_955 : decode cL_law 955 = .ok (.iaload, 1) := by decide +kernel
theorem dL_law_956 : decode cL_law 956 = .ok (.invokevirtual 122, 3) := by decide +kernel
theorem dL_law_959 : decode cL_law 959 = .ok (.if_icmp .eq 18, 3) := by decide +kernel
theorem dL_law_962 : decode cL_law 962 = .ok (.iconst 0, 1) := by decide +kernel
theorem dL_law_963 : decode cL_law 963 = .ok (.ireturn, 1) := by decide +kernel
theorem dL_law_964 : decode cL_law 964 = .ok (.aload_n 1, 1) := by decide +kernel
theorem dL_law_965 : decode cL_law 965 = .ok (.invokevirtual 123, 3) := by decide +kernel
theorem dL_law_968 : decode cL_law 968 = .ok (.aload_n 2, 1) := by decide +kernel
theorem dL_law_969 : decode cL_law 969 = .ok (.invokevirtual 126, 3) := by decide +kernel
theorem dL_law_972 : decode cL_law 972 = .ok (.if_icmp .eq 5, 3) := by decide +kernel
theorem dL_law_975 : decode cL_law 975 = .ok (.iconst 0, 1) := by decide +kernel
theorem dL_law_976 : decode cL_law 976 = .ok (.ireturn, 1) := by decide +kernel
theorem dL_law_977 : decode cL_law 977 = .ok (.iinc 3 6, 3) := by decide +kernel
theorem dL_law_980 : decode cL_law 980 = .ok (.goto (-962), 3) := by decide +kernel
theorem dL_law_983 : decode cL_law 983 = .ok (.iconst 1, 1) := by decide +kernel
theorem dL_law_984 : decode cL_law 984 = .ok (.ireturn, 1) := by decide +kernel
end
section
/-! ===== the memory: every cell has a number; what it holds of ints is a function of that number and a place ===== -/
abbrev GE : Type := Launch × va_G × (Nat → ClassId) × (Nat → Nat)
abbrev Mem : Type := Nat → Nat → Int32
def ad (G : GE) (c : Nat) : Nat := G.2.2.2 c
def Ug : List Cond := lw_tbl.filter goodWord
theorem ug_in {w : Cond} (i : Nat) (h : tables_1[i]? = some w) (hg : goodWord w = true) : w ∈ Ug := List.mem_filter.mpr ⟨List.mem_append_right _ (List.mem_of_getElem? h), hg⟩
theorem ug_sel (q : MethodName × Nat) (i : Nat) (h : lw_privs[i]? = some q) : Cond.selects q.1.cls q.1 q.1 ∈ Ug := List.mem_filter.mpr ⟨List.mem_append_left _ (List.mem_map.mpr ⟨q, List.mem_of_getElem? h, rfl⟩), rfl⟩
theorem ug_good : GoodIn Ug Ug := fun w hw => ⟨hw, good_of_word (List.mem_filter.mp hw).2⟩
def isNest : Cond → Bool
  | .fieldLinkNest _ _ _ _ _ _ => true
  | .methodLinkNest _ _ _ _ => true
  | _ => false
def nestW : List Cond := tables_1.filter isNest
def NL (U : State) : Prop := ∀ w ∈ nestW, va_Nw w U
theorem nl_in {w : Cond} (i : Nat) (h : tables_1[i]? = some w) (hg : isNest w = true) : w ∈ nestW := List.mem_filter.mpr ⟨List.mem_of_getElem? h, hg⟩
theorem NL.warm {s U : State} (hW : s.WarmedH U.vm) (h : NL s) : NL U := by
  intro w hw
  have h1 := h w hw
  have h2 := (List.mem_filter.mp hw).2
  cases w <;> first | exact va_Nw.warmF hW h1 | exact va_Nw.warmM hW h1 | (exact absurd h2 (by simp [isNest]))
theorem NL.same {s U : State} (hv : s.vm = U.vm) (h : NL s) : NL U := by
  intro w hw
  have h1 := h w hw
  have h2 := (List.mem_filter.mp hw).2
  cases w <;> first | exact va_Nw.same rfl hv h1 | (exact absurd h2 (by simp [isNest]))
/-- a cell of that number, its ints being r -/
def cellR (G : GE) (c : Nat) (r : Nat → Int32) : va_E := match c with
  | 0 => .inr (5, [.ref (ad G 1), .ref (ad G 2), .ref (ad G 3), .ref (ad G 4), .ref (ad G 5), .ref (ad G 6), .ref (ad G 7), .int (r 7), .int (r 8), .int (r 9), .int (r 10)])
  | 1 => .inl (G.2.2.1 3, 8, .inr (.inr (.inr (.inr (fun i => some (ad G (20 + i)))))))
  | 2 => .inl (G.2.2.1 0, 12, .inl r)
  | 3 => .inl (G.2.2.1 2, 12, .inr (.inr (.inr (.inr (fun i => some (ad G (40 + i)))))))
  | 4 => .inr (2, [.ref (ad G 8), .ref (ad G 9), .ref (ad G 10), .ref (ad G 11), .ref (ad G 12), .int (r 5), .int (r 6)])
  | 5 => .inr (0, [.ref (ad G 13), .ref (ad G 14), .ref (ad G 15), .int (r 3), .int (r 4), .int (r 5)])
  | 6 => .inr (4, [.ref (ad G 16), .ref (ad G 17), .ref (ad G 18), .int (r 3)])
  | 7 => .inl (G.2.2.1 0, 16, .inl r)
  | 8 => .inl (G.2.2.1 1, 100, .inl r)
  | 9 => .inl (G.2.2.1 0, 100, .inl r)
  | 10 => .inl (G.2.2.1 0, 200, .inl r)
  | 11 => .inl (G.2.2.1 1, 100, .inl r)
  | 12 => .inl (G.2.2.1 0, 12, .inl r)
  | 13 => .inl (G.2.2.1 0, 100, .inl r)
  | 14 => .inl (G.2.2.1 0, 400, .inl r)
  | 15 => .inl (G.2.2.1 0, 100, .inl r)
  | 16 => .inl (G.2.2.1 0, 12, .inl r)
  | 17 => .inl (G.2.2.1 0, 12, .inl r)
  | 18 => .inl (G.2.2.1 0, 12, .inl r)
  | 100 => .inr (6, [.int (r 0), .int (r 1), .ref (ad G 102), .ref (ad G 103), .ref (ad G 104), .ref (ad G 105), .int (r 6), .ref (ad G 107), .int (r 8), .ref (ad G 109), .ref (ad G 110), .ref (ad G 111), .ref (ad G 112), .ref (ad G 113), .ref (ad G 114), .ref (ad G 115), .ref (ad G 116), .ref (ad G 117), .ref (ad G 118), .ref (ad G 119), .ref (ad G 120), .int (r 21)])
  | 102 => .inl (G.2.2.1 0, 8, .inl r)
  | 103 => .inl (G.2.2.1 0, 8, .inl r)
  | 104 => .inl (G.2.2.1 0, 480, .inl r)
  | 105 => .inl (G.2.2.1 1, 100, .inl r)
  | 107 => .inl (G.2.2.1 0, 12, .inl r)
  | 109 => .inl (G.2.2.1 0, 12, .inl r)
  | 110 => .inl (G.2.2.1 0, 12, .inl r)
  | 111 => .inl (G.2.2.1 0, 12, .inl r)
  | 112 => .inl (G.2.2.1 0, 1200, .inl r)
  | 113 => .inl (G.2.2.1 1, 2160, .inl r)
  | 114 => .inl (G.2.2.1 0, 2, .inl r)
  | 115 => .inl (G.2.2.1 0, 100, .inl r)
  | 116 => .inl (G.2.2.1 0, 100, .inl r)
  | 117 => .inl (G.2.2.1 0, 180, .inl r)
  | 118 => .inl (G.2.2.1 0, 100, .inl r)
  | 119 => .inl (G.2.2.1 0, 12, .inl r)
  | 120 => .inl (G.2.2.1 0, 16, .inl r)
  | c => if c < 30 then .inr (3, [.ref (ad G (c + 10)), .int (r 1), .int (r 2)])
    else if c < 40 then .inl (G.2.2.1 0, 60, .inl r)
    else if c < 60 then .inr (1, [.int (r 0), .ref (ad G (c + 20)), .int (r 2), .int (r 3), .int (r 4)])
    else .inl (G.2.2.1 0, 100, .inl r)
def idsA : List Nat := List.range 19 ++ ((List.range 8).map (20 + ·) ++ ((List.range 8).map (30 + ·) ++ ((List.range 12).map (40 + ·) ++ (List.range 12).map (60 + ·))))
def idsB : List Nat := [100, 102, 103, 104, 105, 107, 109, 110, 111, 112, 113, 114, 115, 116, 117, 118, 119, 120]
def wsM (ids : List Nat) (G : GE) (h : Mem) : va_W := ids.map (fun c => (ad G c, cellR G c (h c)))
def tysG (G : GE) : List (ClassId × FieldType) := [(G.2.2.1 0, .int), (G.2.2.1 1, .boolean), (G.2.2.1 2, .object "LineBundles$Line"), (G.2.2.1 3, .object "LineBundles$Sheet")]
def wr (h : Mem) (c j : Nat) (v : Int32) : Mem := va_up h c (upd (h c) j v)
theorem wsM_at {ids : List Nat} {G : GE} {h : Mem} {c : Nat} (hm : c ∈ ids) : ∃ k : Nat, ids[k]? = some c ∧ (wsM ids G h)[k]? = some (ad G c, cellR G c (h c)) := by
  obtain ⟨k, hk⟩ := List.getElem?_of_mem hm
  exact ⟨k, hk, by rw [wsM, List.getElem?_map, hk]; rfl⟩
theorem wsM_set {ids : List Nat} {G : GE} {h : Mem} {A : Nat → Prop} {k c : Nat} {f : Nat → Int32} (hD : va_D A (wsM ids G h)) (hk : ids[k]? = some c) : (wsM ids G h).set k (ad G c, cellR G c f) = wsM ids G (va_up h c f) := by
  have hw : (wsM ids G h)[k]? = some (ad G c, cellR G c (h c)) := by rw [wsM, List.getElem?_map, hk]; rfl
  apply List.ext_getElem?
  intro j
  by_cases hj : j = k
  · subst hj
    rw [List.getElem?_set_self (List.getElem?_eq_some_iff.mp hw).1, wsM, List.getElem?_map, hk]
    simp [va_up]
  · rw [List.getElem?_set_ne (Ne.symm hj), wsM, wsM, List.getElem?_map, List.getElem?_map]
    cases hc : ids[j]? with
    | none => rfl
    | some c' =>
      have hne : c' ≠ c := by
        intro e
        subst e
        have hw2 : (wsM ids G h)[j]? = some (ad G c', cellR G c' (h c')) := by rw [wsM, List.getElem?_map, hc]; rfl
        exact hj (hD.1 j k _ _ hw2 hw rfl)
      simp [va_up, hne]
/-! ===== V: the machine at a frame of a method over the memory ===== -/
abbrev OV : Type := Option Value
def lvO (ls : Array Slot) (nL : Nat) (lv : List OV) : Prop := ls.size = nL ∧ lv_wf ls ∧ ∀ (i : Nat) (v : Value), lv[i]? = some (some v) → ls[i]? = some (.val v)
def HK (G : GE) (U : State) : Prop := va_K G.2.1 vwCl (tysG G) U ∧ NL U
def Qx (ids : List Nat) (G : GE) (Q : Option Value → Mem → Prop) (A : Nat → Prop) : Array Value → State → Outcome → State → Prop := fun _ st oc t =>
  (∃ (v : Option Value) (h : Mem), oc = .returned v ∧ Q v h ∧ va_P G.2.1 vwCl (wsM ids G h) t.heap ∧ va_D A (wsM ids G h)) ∧ va_F A st t
def V (ids : List Nat) (G : GE) (own : String) (cc : ByteArray) (nL : Nat) (ret : Option FieldType) (R : Room) (pc : Nat) (lv : List OV) (st : List Value) (h : Mem) (Q : Option Value → Mem → Prop) : Prop :=
  ∀ (p : Program) (e : Env) (s : State) (m : MethodId) (args : Array Value) (below : List Frame) (meth : Method) (c : Code) (H : Heap) (locs : List Loc) (ls : Array Slot) (A : Nat → Prop),
    CallFix p m c cc nL s args Ug own → meth.sig.returnType = ret ∧ meth.locks = false → HK G s → va_P G.2.1 vwCl (wsM ids G h) H → va_D A (wsM ids G h) → va_S A s.heap H locs → lvO ls nL lv →
    W p G.1 e R s m args below meth c H locs 0 0 (MQ below (Qx ids G Q A) args s 0 0 A) (F0 m pc ls st)
/-- a contract: from the memory h, with these arguments -/
def Ct (ids : List Nat) (G : GE) (y : MethodName) (cc : ByteArray) (nL : Nat) (ret : Option FieldType) (R : Room) (av : List Value) (h : Mem) (Q : Option Value → Mem → Prop) : Prop :=
  ∀ A : Nat → Prop, Met G.1 y (.code y cc nL ret :: Ug) R (va_Pc av (fun U => va_P G.2.1 vwCl (wsM ids G h) U.heap ∧ HK G U ∧ va_D A (wsM ids G h))) (Qx ids G Q A) 0 0 A
theorem Ct.of {ids : List Nat} {G : GE} {y : MethodName} {cc : ByteArray} {nL : Nat} {ret : Option FieldType} {R : Room} {av : List Value} {h : Mem} {Q : Option Value → Mem → Prop} (lv : List OV) (hy : plainName y.cls = true)
    (hn : (lg_sl av).length ≤ nL) (hlv : ∀ (i : Nat) (v : Value), lv[i]? = some (some v) → (i, v) ∈ lv_args 0 av) (k : V ids G y.cls cc nL ret R 0 lv [] h Q) : Ct ids G y cc nL ret R av h Q := by
  intro A
  refine Met.ofW (cc := cc) (maxL := nL) (ret := ret) hy rfl ?_
  intro p e s m args below meth c s₁ B hml hv
  obtain ⟨rfl, hP, hK, hD⟩ := hv
  have hts := atoms_spec (ws := .code y cc nL ret :: Ug) B.pre
  have hown : s.vm.findClass y.cls = some m.cls := findClass_of_methodNamed B.named
  have hl := lv_entry av (n := nL) hn
  rw [lg_entry_eq]
  exact k p e s m av.toArray below meth c s.heap [] _ A ⟨B.exec, B.bytes, hml, hown, fun w hw => hts w (List.mem_cons_of_mem _ hw)⟩ ⟨B.returns, B.notSynchronized⟩ hK hP hD va_S.rf ⟨hl.1, hl.2.1, fun i v hiv => hl.2.2 (i, v) (hlv i v hiv)⟩
end
section
section VR
variable {ids : List Nat} {G : GE} {own : String} {cc : ByteArray} {nL : Nat} {ret : Option FieldType} {R : Room} {pc : Nat} {lv : List OV} {st : List Value} {h : Mem} {Q : Option Value → Mem → Prop}
def assocOf (lv : List OV) : List (Nat × Value) := (List.range lv.length).filterMap (fun i => (lv.getD i none).map (fun v => (i, v)))
theorem assocOf_mem {lv : List OV} {j : Nat} {w : Value} : (j, w) ∈ assocOf lv ↔ lv[j]? = some (some w) := by
  simp only [assocOf, List.mem_filterMap, List.mem_range, Option.map_eq_some_iff, Prod.mk.injEq]
  constructor
  · rintro ⟨i, hi, v, hv, rfl, rfl⟩
    rw [List.getD_eq_getElem?_getD] at hv
    rw [List.getElem?_eq_getElem hi] at hv ⊢
    simp at hv
    rw [hv]
  · intro hj
    have hl := (List.getElem?_eq_some_iff.mp hj).1
    exact ⟨j, hl, w, by rw [List.getD_eq_getElem?_getD, hj]; rfl, rfl, rfl⟩
theorem lvO.has {ls : Array Slot} {nL : Nat} {lv : List OV} (hl : lvO ls nL lv) : lv_has ls nL (assocOf lv) := ⟨hl.1, hl.2.1, fun q hq => hl.2.2 q.1 q.2 (assocOf_mem.mp hq)⟩
theorem lvO.stored {ls' : Array Slot} {nL i : Nat} {lv : List OV} {v : Value} (hp : ∀ (j : Nat) (w : Value), j + 1 = i → lv[j]? = some (some w) → w.category = 1) (h : lv_has ls' nL ((i, v) :: (assocOf lv).filter (fun q => !(q.1 == i) && !(q.1 + 1 == i && q.2.category == 2)))) : lvO ls' nL (lv.set i (some v)) := by
  refine ⟨h.1, h.2.1, fun j w hj => ?_⟩
  by_cases e : j = i
  · subst e
    by_cases hlt : j < lv.length
    · rw [List.getElem?_set_self hlt] at hj
      cases hj
      exact h.2.2 (j, v) List.mem_cons_self
    · rw [List.getElem?_eq_none (by rw [List.length_set]; omega)] at hj
      cases hj
  · rw [List.getElem?_set_ne (Ne.symm e)] at hj
    refine h.2.2 (j, w) (List.mem_cons_of_mem _ (List.mem_filter.mpr ⟨assocOf_mem.mpr hj, ?_⟩))
    have h1 : (j == i) = false := by simp [e]
    by_cases h2 : j + 1 = i
    · have := hp j w h2 hj
      simp [h1, h2, this]
    · simp [h1, h2]
def okc : OV → Bool
  | none => true
  | some v => v.category == 1
theorem lvO.storedP {ls' : Array Slot} {nL i : Nat} {lv : List OV} {v : Value} (jp : Nat) (a : OV) (hi : jp + 1 = i) (ha : lv[jp]? = some a) (hp : okc a = true) (h : lv_has ls' nL ((i, v) :: (assocOf lv).filter (fun q => !(q.1 == i) && !(q.1 + 1 == i && q.2.category == 2)))) : lvO ls' nL (lv.set i (some v)) := by
  refine lvO.stored (fun j w e q => ?_) h
  have : j = jp := by omega
  subst this
  rw [ha] at q
  cases q
  simpa [okc] using hp

theorem V_iadd {x y : Int32} (hd : decode cc pc = .ok (.iadd, 1)) (k : V ids G own cc nL ret R (pc + 1) lv (.int (x + y) :: st) h Q) : V ids G own cc nL ret R pc lv (.int y :: .int x :: st) h Q :=
  fun p e s m args below meth c H locs ls A hC hr hK hP hD hS hl => lv_iadd hC.1 hC.2.1 hd  (k p e s m args below meth c H locs ls A hC hr hK hP hD hS hl)
theorem V_isub {x y : Int32} (hd : decode cc pc = .ok (.isub, 1)) (k : V ids G own cc nL ret R (pc + 1) lv (.int (x - y) :: st) h Q) : V ids G own cc nL ret R pc lv (.int y :: .int x :: st) h Q :=
  fun p e s m args below meth c H locs ls A hC hr hK hP hD hS hl => lv_isub hC.1 hC.2.1 hd  (k p e s m args below meth c H locs ls A hC hr hK hP hD hS hl)
theorem V_imul {x y : Int32} (hd : decode cc pc = .ok (.imul, 1)) (k : V ids G own cc nL ret R (pc + 1) lv (.int (x * y) :: st) h Q) : V ids G own cc nL ret R pc lv (.int y :: .int x :: st) h Q :=
  fun p e s m args below meth c H locs ls A hC hr hK hP hD hS hl => lv_imul hC.1 hC.2.1 hd  (k p e s m args below meth c H locs ls A hC hr hK hP hD hS hl)
theorem V_iand {x y : Int32} (hd : decode cc pc = .ok (.iand, 1)) (k : V ids G own cc nL ret R (pc + 1) lv (.int (x &&& y) :: st) h Q) : V ids G own cc nL ret R pc lv (.int y :: .int x :: st) h Q :=
  fun p e s m args below meth c H locs ls A hC hr hK hP hD hS hl => lv_iand hC.1 hC.2.1 hd  (k p e s m args below meth c H locs ls A hC hr hK hP hD hS hl)
theorem V_ior {x y : Int32} (hd : decode cc pc = .ok (.ior, 1)) (k : V ids G own cc nL ret R (pc + 1) lv (.int (x ||| y) :: st) h Q) : V ids G own cc nL ret R pc lv (.int y :: .int x :: st) h Q :=
  fun p e s m args below meth c H locs ls A hC hr hK hP hD hS hl => lv_ior hC.1 hC.2.1 hd  (k p e s m args below meth c H locs ls A hC hr hK hP hD hS hl)
theorem V_ixor {x y : Int32} (hd : decode cc pc = .ok (.ixor, 1)) (k : V ids G own cc nL ret R (pc + 1) lv (.int (x ^^^ y) :: st) h Q) : V ids G own cc nL ret R pc lv (.int y :: .int x :: st) h Q :=
  fun p e s m args below meth c H locs ls A hC hr hK hP hD hS hl => lv_ixor hC.1 hC.2.1 hd  (k p e s m args below meth c H locs ls A hC hr hK hP hD hS hl)
theorem V_ineg {x : Int32} (hd : decode cc pc = .ok (.ineg, 1)) (k : V ids G own cc nL ret R (pc + 1) lv (.int (-x) :: st) h Q) : V ids G own cc nL ret R pc lv (.int x :: st) h Q :=
  fun p e s m args below meth c H locs ls A hC hr hK hP hD hS hl => lv_ineg hC.1 hC.2.1 hd  (k p e s m args below meth c H locs ls A hC hr hK hP hD hS hl)
theorem V_ishl {x y : Int32} (hd : decode cc pc = .ok (.ishl, 1)) (k : V ids G own cc nL ret R (pc + 1) lv (.int (x <<< (y &&& 31)) :: st) h Q) : V ids G own cc nL ret R pc lv (.int y :: .int x :: st) h Q :=
  fun p e s m args below meth c H locs ls A hC hr hK hP hD hS hl => lv_ishl hC.1 hC.2.1 hd  (k p e s m args below meth c H locs ls A hC hr hK hP hD hS hl)
theorem V_ishr {x y : Int32} (hd : decode cc pc = .ok (.ishr, 1)) (k : V ids G own cc nL ret R (pc + 1) lv (.int (x >>> (y &&& 31)) :: st) h Q) : V ids G own cc nL ret R pc lv (.int y :: .int x :: st) h Q :=
  fun p e s m args below meth c H locs ls A hC hr hK hP hD hS hl => lv_ishr hC.1 hC.2.1 hd  (k p e s m args below meth c H locs ls A hC hr hK hP hD hS hl)
theorem V_iushr {x y : Int32} (hd : decode cc pc = .ok (.iushr, 1)) (k : V ids G own cc nL ret R (pc + 1) lv (.int (x.toUInt32 >>> (y.toUInt32 &&& Int32.toUInt32 31)).toInt32 :: st) h Q) : V ids G own cc nL ret R pc lv (.int y :: .int x :: st) h Q :=
  fun p e s m args below meth c H locs ls A hC hr hK hP hD hS hl => lv_iushr hC.1 hC.2.1 hd rfl (k p e s m args below meth c H locs ls A hC hr hK hP hD hS hl)
theorem V_i2l {x : Int32} (hd : decode cc pc = .ok (.i2l, 1)) (k : V ids G own cc nL ret R (pc + 1) lv (.long x.toInt64 :: st) h Q) : V ids G own cc nL ret R pc lv (.int x :: st) h Q :=
  fun p e s m args below meth c H locs ls A hC hr hK hP hD hS hl => lv_i2l hC.1 hC.2.1 hd rfl (k p e s m args below meth c H locs ls A hC hr hK hP hD hS hl)
theorem V_i2b {x : Int32} (hd : decode cc pc = .ok (.i2b, 1)) (k : V ids G own cc nL ret R (pc + 1) lv (.int x.toInt8.toInt32 :: st) h Q) : V ids G own cc nL ret R pc lv (.int x :: st) h Q :=
  fun p e s m args below meth c H locs ls A hC hr hK hP hD hS hl => lv_i2b hC.1 hC.2.1 hd rfl (k p e s m args below meth c H locs ls A hC hr hK hP hD hS hl)
theorem V_i2s {x : Int32} (hd : decode cc pc = .ok (.i2s, 1)) (k : V ids G own cc nL ret R (pc + 1) lv (.int x.toInt16.toInt32 :: st) h Q) : V ids G own cc nL ret R pc lv (.int x :: st) h Q :=
  fun p e s m args below meth c H locs ls A hC hr hK hP hD hS hl => lv_i2s hC.1 hC.2.1 hd rfl (k p e s m args below meth c H locs ls A hC hr hK hP hD hS hl)
theorem V_ladd {x y : Int64} (hd : decode cc pc = .ok (.ladd, 1)) (k : V ids G own cc nL ret R (pc + 1) lv (.long (x + y) :: st) h Q) : V ids G own cc nL ret R pc lv (.long y :: .long x :: st) h Q :=
  fun p e s m args below meth c H locs ls A hC hr hK hP hD hS hl => lv_ladd hC.1 hC.2.1 hd  (k p e s m args below meth c H locs ls A hC hr hK hP hD hS hl)
theorem V_lcmp {x y : Int64} (hd : decode cc pc = .ok (.lcmp, 1)) (k : V ids G own cc nL ret R (pc + 1) lv (.int (lg_cmp x y) :: st) h Q) : V ids G own cc nL ret R pc lv (.long y :: .long x :: st) h Q :=
  fun p e s m args below meth c H locs ls A hC hr hK hP hD hS hl => W.lcmp hC.1 hC.2.1 hd  (k p e s m args below meth c H locs ls A hC hr hK hP hD hS hl)
theorem V_idiv {x y : Int32} (hd : decode cc pc = .ok (.idiv, 1)) (hne : ¬ y = 0) (k : V ids G own cc nL ret R (pc + 1) lv (.int (x / y) :: st) h Q) : V ids G own cc nL ret R pc lv (.int y :: .int x :: st) h Q :=
  fun p e s m args below meth c H locs ls A hC hr hK hP hD hS hl => lv_idiv hC.1 hC.2.1 hd hne (k p e s m args below meth c H locs ls A hC hr hK hP hD hS hl)
theorem V_irem {x y : Int32} (hd : decode cc pc = .ok (.irem, 1)) (hne : ¬ y = 0) (k : V ids G own cc nL ret R (pc + 1) lv (.int (x - x / y * y) :: st) h Q) : V ids G own cc nL ret R pc lv (.int y :: .int x :: st) h Q :=
  fun p e s m args below meth c H locs ls A hC hr hK hP hD hS hl => lv_irem hC.1 hC.2.1 hd hne (k p e s m args below meth c H locs ls A hC hr hK hP hD hS hl)
theorem V_iconst {n : Int} (v : Int32) (hd : decode cc pc = .ok (.iconst n, 1)) (hv : Int32.ofInt n = v) (k : V ids G own cc nL ret R (pc + 1) lv (.int v :: st) h Q) : V ids G own cc nL ret R pc lv st h Q :=
  fun p e s m args below meth c H locs ls A hC hr hK hP hD hS hl => lv_iconst hC.1 hC.2.1 hd hv (k p e s m args below meth c H locs ls A hC hr hK hP hD hS hl)
theorem V_bipush {n : Int} (v : Int32) (hd : decode cc pc = .ok (.bipush n, 2)) (hv : (Int8.ofInt n).toInt32 = v) (k : V ids G own cc nL ret R (pc + 2) lv (.int v :: st) h Q) : V ids G own cc nL ret R pc lv st h Q :=
  fun p e s m args below meth c H locs ls A hC hr hK hP hD hS hl => lv_bipush hC.1 hC.2.1 hd hv (k p e s m args below meth c H locs ls A hC hr hK hP hD hS hl)
theorem V_sipush {n : Int} (v : Int32) (hd : decode cc pc = .ok (.sipush n, 3)) (hv : (Int16.ofInt n).toInt32 = v) (k : V ids G own cc nL ret R (pc + 3) lv (.int v :: st) h Q) : V ids G own cc nL ret R pc lv st h Q :=
  fun p e s m args below meth c H locs ls A hC hr hK hP hD hS hl => lv_sipush hC.1 hC.2.1 hd hv (k p e s m args below meth c H locs ls A hC hr hK hP hD hS hl)
theorem V_lconst {n : Fin 2} (v : Int64) (hd : decode cc pc = .ok (.lconst n, 1)) (hv : Int64.ofNat (n : Nat) = v) (k : V ids G own cc nL ret R (pc + 1) lv (.long v :: st) h Q) : V ids G own cc nL ret R pc lv st h Q :=
  fun p e s m args below meth c H locs ls A hC hr hK hP hD hS hl => lv_lconst hC.1 hC.2.1 hd hv (k p e s m args below meth c H locs ls A hC hr hK hP hD hS hl)
theorem V_dup {va : Value} (hd : decode cc pc = .ok (.dup, 1)) (h1 : va.category = 1) (k : V ids G own cc nL ret R (pc + 1) lv (va :: va :: st) h Q) : V ids G own cc nL ret R pc lv (va :: st) h Q :=
  fun p e s m args below meth c H locs ls A hC hr hK hP hD hS hl => lv_dup hC.1 hC.2.1 hd h1 (k p e s m args below meth c H locs ls A hC hr hK hP hD hS hl)
theorem V_dup_x1 {va vb : Value} (hd : decode cc pc = .ok (.dup_x1, 1)) (h1 : va.category = 1) (h2 : vb.category = 1) (k : V ids G own cc nL ret R (pc + 1) lv (va :: vb :: va :: st) h Q) : V ids G own cc nL ret R pc lv (va :: vb :: st) h Q :=
  fun p e s m args below meth c H locs ls A hC hr hK hP hD hS hl => lv_dup_x1 hC.1 hC.2.1 hd h1 h2 (k p e s m args below meth c H locs ls A hC hr hK hP hD hS hl)
theorem V_dup2 {va vb : Value} (hd : decode cc pc = .ok (.dup2, 1)) (h1 : va.category = 1) (h2 : vb.category = 1) (k : V ids G own cc nL ret R (pc + 1) lv (va :: vb :: va :: vb :: st) h Q) : V ids G own cc nL ret R pc lv (va :: vb :: st) h Q :=
  fun p e s m args below meth c H locs ls A hC hr hK hP hD hS hl => lv_dup2_11 hC.1 hC.2.1 hd h1 h2 (k p e s m args below meth c H locs ls A hC hr hK hP hD hS hl)
theorem V_if_eq {x : Int32} {off : Int} (tgt : Nat) (hd : decode cc pc = .ok (.ifCond .eq off, 3)) (ht : (pc : Int) + off = (tgt : Int)) (kt : x = 0 → V ids G own cc nL ret R tgt lv st h Q) (kf : ¬ x = 0 → V ids G own cc nL ret R (pc + 3) lv st h Q) : V ids G own cc nL ret R pc lv (.int x :: st) h Q :=
  fun p e s m args below meth c H locs ls A hC hr hK hP hD hS hl => lv_if_eq hC.1 hC.2.1 hd ht (fun q => kt q p e s m args below meth c H locs ls A hC hr hK hP hD hS hl) (fun q => kf q p e s m args below meth c H locs ls A hC hr hK hP hD hS hl)
theorem V_icmp_eq {x y : Int32} {off : Int} (tgt : Nat) (hd : decode cc pc = .ok (.if_icmp .eq off, 3)) (ht : (pc : Int) + off = (tgt : Int)) (kt : x = y → V ids G own cc nL ret R tgt lv st h Q) (kf : ¬ x = y → V ids G own cc nL ret R (pc + 3) lv st h Q) : V ids G own cc nL ret R pc lv (.int y :: .int x :: st) h Q :=
  fun p e s m args below meth c H locs ls A hC hr hK hP hD hS hl => lv_icmp_eq hC.1 hC.2.1 hd ht (fun q => kt q p e s m args below meth c H locs ls A hC hr hK hP hD hS hl) (fun q => kf q p e s m args below meth c H locs ls A hC hr hK hP hD hS hl)
theorem V_if_ne {x : Int32} {off : Int} (tgt : Nat) (hd : decode cc pc = .ok (.ifCond .ne off, 3)) (ht : (pc : Int) + off = (tgt : Int)) (kt : ¬ x = 0 → V ids G own cc nL ret R tgt lv st h Q) (kf : x = 0 → V ids G own cc nL ret R (pc + 3) lv st h Q) : V ids G own cc nL ret R pc lv (.int x :: st) h Q :=
  fun p e s m args below meth c H locs ls A hC hr hK hP hD hS hl => lv_if_ne hC.1 hC.2.1 hd ht (fun q => kt q p e s m args below meth c H locs ls A hC hr hK hP hD hS hl) (fun q => kf q p e s m args below meth c H locs ls A hC hr hK hP hD hS hl)
theorem V_icmp_ne {x y : Int32} {off : Int} (tgt : Nat) (hd : decode cc pc = .ok (.if_icmp .ne off, 3)) (ht : (pc : Int) + off = (tgt : Int)) (kt : ¬ x = y → V ids G own cc nL ret R tgt lv st h Q) (kf : x = y → V ids G own cc nL ret R (pc + 3) lv st h Q) : V ids G own cc nL ret R pc lv (.int y :: .int x :: st) h Q :=
  fun p e s m args below meth c H locs ls A hC hr hK hP hD hS hl => lv_icmp_ne hC.1 hC.2.1 hd ht (fun q => kt q p e s m args below meth c H locs ls A hC hr hK hP hD hS hl) (fun q => kf q p e s m args below meth c H locs ls A hC hr hK hP hD hS hl)
theorem V_if_lt {x : Int32} {off : Int} (tgt : Nat) (hd : decode cc pc = .ok (.ifCond .lt off, 3)) (ht : (pc : Int) + off = (tgt : Int)) (kt : x < 0 → V ids G own cc nL ret R tgt lv st h Q) (kf : ¬ x < 0 → V ids G own cc nL ret R (pc + 3) lv st h Q) : V ids G own cc nL ret R pc lv (.int x :: st) h Q :=
  fun p e s m args below meth c H locs ls A hC hr hK hP hD hS hl => lv_if_lt hC.1 hC.2.1 hd ht (fun q => kt q p e s m args below meth c H locs ls A hC hr hK hP hD hS hl) (fun q => kf q p e s m args below meth c H locs ls A hC hr hK hP hD hS hl)
theorem V_icmp_lt {x y : Int32} {off : Int} (tgt : Nat) (hd : decode cc pc = .ok (.if_icmp .lt off, 3)) (ht : (pc : Int) + off = (tgt : Int)) (kt : x < y → V ids G own cc nL ret R tgt lv st h Q) (kf : ¬ x < y → V ids G own cc nL ret R (pc + 3) lv st h Q) : V ids G own cc nL ret R pc lv (.int y :: .int x :: st) h Q :=
  fun p e s m args below meth c H locs ls A hC hr hK hP hD hS hl => lv_icmp_lt hC.1 hC.2.1 hd ht (fun q => kt q p e s m args below meth c H locs ls A hC hr hK hP hD hS hl) (fun q => kf q p e s m args below meth c H locs ls A hC hr hK hP hD hS hl)
theorem V_if_ge {x : Int32} {off : Int} (tgt : Nat) (hd : decode cc pc = .ok (.ifCond .ge off, 3)) (ht : (pc : Int) + off = (tgt : Int)) (kt : 0 ≤ x → V ids G own cc nL ret R tgt lv st h Q) (kf : ¬ 0 ≤ x → V ids G own cc nL ret R (pc + 3) lv st h Q) : V ids G own cc nL ret R pc lv (.int x :: st) h Q :=
  fun p e s m args below meth c H locs ls A hC hr hK hP hD hS hl => lv_if_ge hC.1 hC.2.1 hd ht (fun q => kt q p e s m args below meth c H locs ls A hC hr hK hP hD hS hl) (fun q => kf q p e s m args below meth c H locs ls A hC hr hK hP hD hS hl)
theorem V_icmp_ge {x y : Int32} {off : Int} (tgt : Nat) (hd : decode cc pc = .ok (.if_icmp .ge off, 3)) (ht : (pc : Int) + off = (tgt : Int)) (kt : y ≤ x → V ids G own cc nL ret R tgt lv st h Q) (kf : ¬ y ≤ x → V ids G own cc nL ret R (pc + 3) lv st h Q) : V ids G own cc nL ret R pc lv (.int y :: .int x :: st) h Q :=
  fun p e s m args below meth c H locs ls A hC hr hK hP hD hS hl => lv_icmp_ge hC.1 hC.2.1 hd ht (fun q => kt q p e s m args below meth c H locs ls A hC hr hK hP hD hS hl) (fun q => kf q p e s m args below meth c H locs ls A hC hr hK hP hD hS hl)
theorem V_if_gt {x : Int32} {off : Int} (tgt : Nat) (hd : decode cc pc = .ok (.ifCond .gt off, 3)) (ht : (pc : Int) + off = (tgt : Int)) (kt : 0 < x → V ids G own cc nL ret R tgt lv st h Q) (kf : ¬ 0 < x → V ids G own cc nL ret R (pc + 3) lv st h Q) : V ids G own cc nL ret R pc lv (.int x :: st) h Q :=
  fun p e s m args below meth c H locs ls A hC hr hK hP hD hS hl => lv_if_gt hC.1 hC.2.1 hd ht (fun q => kt q p e s m args below meth c H locs ls A hC hr hK hP hD hS hl) (fun q => kf q p e s m args below meth c H locs ls A hC hr hK hP hD hS hl)
theorem V_icmp_gt {x y : Int32} {off : Int} (tgt : Nat) (hd : decode cc pc = .ok (.if_icmp .gt off, 3)) (ht : (pc : Int) + off = (tgt : Int)) (kt : y < x → V ids G own cc nL ret R tgt lv st h Q) (kf : ¬ y < x → V ids G own cc nL ret R (pc + 3) lv st h Q) : V ids G own cc nL ret R pc lv (.int y :: .int x :: st) h Q :=
  fun p e s m args below meth c H locs ls A hC hr hK hP hD hS hl => lv_icmp_gt hC.1 hC.2.1 hd ht (fun q => kt q p e s m args below meth c H locs ls A hC hr hK hP hD hS hl) (fun q => kf q p e s m args below meth c H locs ls A hC hr hK hP hD hS hl)
theorem V_if_le {x : Int32} {off : Int} (tgt : Nat) (hd : decode cc pc = .ok (.ifCond .le off, 3)) (ht : (pc : Int) + off = (tgt : Int)) (kt : x ≤ 0 → V ids G own cc nL ret R tgt lv st h Q) (kf : ¬ x ≤ 0 → V ids G own cc nL ret R (pc + 3) lv st h Q) : V ids G own cc nL ret R pc lv (.int x :: st) h Q :=
  fun p e s m args below meth c H locs ls A hC hr hK hP hD hS hl => lv_if_le hC.1 hC.2.1 hd ht (fun q => kt q p e s m args below meth c H locs ls A hC hr hK hP hD hS hl) (fun q => kf q p e s m args below meth c H locs ls A hC hr hK hP hD hS hl)
theorem V_icmp_le {x y : Int32} {off : Int} (tgt : Nat) (hd : decode cc pc = .ok (.if_icmp .le off, 3)) (ht : (pc : Int) + off = (tgt : Int)) (kt : x ≤ y → V ids G own cc nL ret R tgt lv st h Q) (kf : ¬ x ≤ y → V ids G own cc nL ret R (pc + 3) lv st h Q) : V ids G own cc nL ret R pc lv (.int y :: .int x :: st) h Q :=
  fun p e s m args below meth c H locs ls A hC hr hK hP hD hS hl => lv_icmp_le hC.1 hC.2.1 hd ht (fun q => kt q p e s m args below meth c H locs ls A hC hr hK hP hD hS hl) (fun q => kf q p e s m args below meth c H locs ls A hC hr hK hP hD hS hl)
theorem V_goto {off : Int} (tgt : Nat) (hd : decode cc pc = .ok (.goto off, 3)) (ht : (pc : Int) + off = (tgt : Int)) (k : V ids G own cc nL ret R tgt lv st h Q) : V ids G own cc nL ret R pc lv st h Q :=
  fun p e s m args below meth c H locs ls A hC hr hK hP hD hS hl => lv_goto hC.1 hC.2.1 hd ht (k p e s m args below meth c H locs ls A hC hr hK hP hD hS hl)
theorem V_tableOut {dflt lo hi : Int} {offs : Array Int} {len : Nat} {x : Int32} (tgt : Nat) (hd : decode cc pc = .ok (.tableswitch dflt lo hi offs, len)) (hx : x.toInt < lo ∨ hi < x.toInt) (ht : (pc : Int) + dflt = (tgt : Int)) (k : V ids G own cc nL ret R tgt lv st h Q) : V ids G own cc nL ret R pc lv (.int x :: st) h Q :=
  fun p e s m args below meth c H locs ls A hC hr hK hP hD hS hl => lv_tableOut hC.1 hC.2.1 hd hx ht (k p e s m args below meth c H locs ls A hC hr hK hP hD hS hl)
theorem V_tableIn {dflt lo hi : Int} {offs : Array Int} {len : Nat} {x : Int32} {off : Int} (tgt : Nat) (hd : decode cc pc = .ok (.tableswitch dflt lo hi offs, len)) (h1 : ¬ x.toInt < lo) (h2 : ¬ hi < x.toInt) (ho : offs[(x.toInt - lo).toNat]? = some off) (ht : (pc : Int) + off = (tgt : Int)) (k : V ids G own cc nL ret R tgt lv st h Q) : V ids G own cc nL ret R pc lv (.int x :: st) h Q :=
  fun p e s m args below meth c H locs ls A hC hr hK hP hD hS hl => lv_tableIn hC.1 hC.2.1 hd h1 h2 ho ht (k p e s m args below meth c H locs ls A hC hr hK hP hD hS hl)
theorem V_lookup {dflt : Int} {ps : Array (Int × Int)} {len : Nat} {x : Int32} {off : Int} (tgt : Nat) (hd : decode cc pc = .ok (.lookupswitch dflt ps, len)) (hp : (ps.toList.zip (ps.toList.drop 1)).all (fun (a, next) => a.1 < next.1) = true) (ho : Op.lookupswitch.offset ps.toList dflt x.toInt = off) (ht : (pc : Int) + off = (tgt : Int)) (k : V ids G own cc nL ret R tgt lv st h Q) : V ids G own cc nL ret R pc lv (.int x :: st) h Q :=
  fun p e s m args below meth c H locs ls A hC hr hK hP hD hS hl => lv_lookup hC.1 hC.2.1 hd hp ho ht (k p e s m args below meth c H locs ls A hC hr hK hP hD hS hl)
theorem V_iload0 {lr : List OV} {x : Int32} (hd : decode cc pc = .ok (.iload_n 0, 1)) (k : V ids G own cc nL ret R (pc + 1) (some (.int x) :: lr) (.int x :: st) h Q) : V ids G own cc nL ret R pc (some (.int x) :: lr) st h Q :=
  fun p e s m args below meth c H locs ls A hC hr hK hP hD hS hl => lv_iload_n hC.1 hC.2.1 hd rfl (hl.2.2 0 _ rfl) (k p e s m args below meth c H locs ls A hC hr hK hP hD hS hl)
theorem V_aload0 {lr : List OV} {x : Nat} (hd : decode cc pc = .ok (.aload_n 0, 1)) (k : V ids G own cc nL ret R (pc + 1) (some (.ref x) :: lr) (.ref x :: st) h Q) : V ids G own cc nL ret R pc (some (.ref x) :: lr) st h Q :=
  fun p e s m args below meth c H locs ls A hC hr hK hP hD hS hl => lv_aload_n hC.1 hC.2.1 hd rfl (hl.2.2 0 _ rfl) (k p e s m args below meth c H locs ls A hC hr hK hP hD hS hl)
theorem V_lload0 {lr : List OV} {x : Int64} (hd : decode cc pc = .ok (.lload_n 0, 1)) (k : V ids G own cc nL ret R (pc + 1) (some (.long x) :: lr) (.long x :: st) h Q) : V ids G own cc nL ret R pc (some (.long x) :: lr) st h Q :=
  fun p e s m args below meth c H locs ls A hC hr hK hP hD hS hl => lv_lload_n hC.1 hC.2.1 hd rfl (hl.2.2 0 _ rfl) (k p e s m args below meth c H locs ls A hC hr hK hP hD hS hl)
theorem V_istore0 {az : OV} {lr : List OV} {x : Int32} (hd : decode cc pc = .ok (.istore_n 0, 1)) (hn : 0 < nL) (k : V ids G own cc nL ret R (pc + 1) (some (.int x) :: lr) st h Q) : V ids G own cc nL ret R pc (az :: lr) (.int x :: st) h Q :=
  fun p e s m args below meth c H locs ls A hC hr hK hP hD hS hl => lv_istore_n hC.1 hC.2.1 hd rfl hl.has hn rfl (fun ls' hl' => k p e s m args below meth c H locs ls' A hC hr hK hP hD hS (lvO.stored (lv := az :: lr) (fun j w e q => absurd e (Nat.succ_ne_zero j)) hl'))
theorem V_astore0 {az : OV} {lr : List OV} {x : Nat} (hd : decode cc pc = .ok (.astore_n 0, 1)) (hn : 0 < nL) (k : V ids G own cc nL ret R (pc + 1) (some (.ref x) :: lr) st h Q) : V ids G own cc nL ret R pc (az :: lr) (.ref x :: st) h Q :=
  fun p e s m args below meth c H locs ls A hC hr hK hP hD hS hl => lv_astore_n hC.1 hC.2.1 hd rfl hl.has hn rfl (fun ls' hl' => k p e s m args below meth c H locs ls' A hC hr hK hP hD hS (lvO.stored (lv := az :: lr) (fun j w e q => absurd e (Nat.succ_ne_zero j)) hl'))
theorem V_iinc0 {lr : List OV} {x : Int32} {n : Int} (dn : Int32) (hd : decode cc pc = .ok (.iinc 0 n, 3)) (he : Int32.ofInt n = dn) (hn : 0 < nL) (k : V ids G own cc nL ret R (pc + 3) (some (.int (x + dn)) :: lr) st h Q) : V ids G own cc nL ret R pc (some (.int x) :: lr) st h Q := by
  intro p e s m args below meth c H locs ls A hC hr hK hP hD hS hl
  obtain ⟨kk, hkk⟩ := List.getElem?_of_mem (assocOf_mem.mpr (show ((some (.int x) :: lr) : List OV)[0]? = some (some (.int x)) from rfl))
  exact lv_iinc (v := x + dn) hC.1 hC.2.1 hd hl.has hkk (by rw [he]) hn rfl (fun ls' hl' => k p e s m args below meth c H locs ls' A hC hr hK hP hD hS (lvO.stored (lv := some (.int x) :: lr) (fun j w e q => absurd e (Nat.succ_ne_zero j)) hl'))
theorem V_iload1 {a0 : OV} {lr : List OV} {x : Int32} (hd : decode cc pc = .ok (.iload_n 1, 1)) (k : V ids G own cc nL ret R (pc + 1) (a0 :: some (.int x) :: lr) (.int x :: st) h Q) : V ids G own cc nL ret R pc (a0 :: some (.int x) :: lr) st h Q :=
  fun p e s m args below meth c H locs ls A hC hr hK hP hD hS hl => lv_iload_n hC.1 hC.2.1 hd rfl (hl.2.2 1 _ rfl) (k p e s m args below meth c H locs ls A hC hr hK hP hD hS hl)
theorem V_aload1 {a0 : OV} {lr : List OV} {x : Nat} (hd : decode cc pc = .ok (.aload_n 1, 1)) (k : V ids G own cc nL ret R (pc + 1) (a0 :: some (.ref x) :: lr) (.ref x :: st) h Q) : V ids G own cc nL ret R pc (a0 :: some (.ref x) :: lr) st h Q :=
  fun p e s m args below meth c H locs ls A hC hr hK hP hD hS hl => lv_aload_n hC.1 hC.2.1 hd rfl (hl.2.2 1 _ rfl) (k p e s m args below meth c H locs ls A hC hr hK hP hD hS hl)
theorem V_istore1 {a0 : OV} {az : OV} {lr : List OV} {x : Int32} (hd : decode cc pc = .ok (.istore_n 1, 1)) (hn : 1 < nL) (hp : okc a0 = true) (k : V ids G own cc nL ret R (pc + 1) (a0 :: some (.int x) :: lr) st h Q) : V ids G own cc nL ret R pc (a0 :: az :: lr) (.int x :: st) h Q :=
  fun p e s m args below meth c H locs ls A hC hr hK hP hD hS hl => lv_istore_n hC.1 hC.2.1 hd rfl hl.has hn rfl (fun ls' hl' => k p e s m args below meth c H locs ls' A hC hr hK hP hD hS (lvO.storedP (lv := a0 :: az :: lr) 0 a0 rfl rfl hp hl'))
theorem V_astore1 {a0 : OV} {az : OV} {lr : List OV} {x : Nat} (hd : decode cc pc = .ok (.astore_n 1, 1)) (hn : 1 < nL) (hp : okc a0 = true) (k : V ids G own cc nL ret R (pc + 1) (a0 :: some (.ref x) :: lr) st h Q) : V ids G own cc nL ret R pc (a0 :: az :: lr) (.ref x :: st) h Q :=
  fun p e s m args below meth c H locs ls A hC hr hK hP hD hS hl => lv_astore_n hC.1 hC.2.1 hd rfl hl.has hn rfl (fun ls' hl' => k p e s m args below meth c H locs ls' A hC hr hK hP hD hS (lvO.storedP (lv := a0 :: az :: lr) 0 a0 rfl rfl hp hl'))
theorem V_iinc1 {a0 : OV} {lr : List OV} {x : Int32} {n : Int} (dn : Int32) (hd : decode cc pc = .ok (.iinc 1 n, 3)) (he : Int32.ofInt n = dn) (hn : 1 < nL) (hp : okc a0 = true) (k : V ids G own cc nL ret R (pc + 3) (a0 :: some (.int (x + dn)) :: lr) st h Q) : V ids G own cc nL ret R pc (a0 :: some (.int x) :: lr) st h Q := by
  intro p e s m args below meth c H locs ls A hC hr hK hP hD hS hl
  obtain ⟨kk, hkk⟩ := List.getElem?_of_mem (assocOf_mem.mpr (show ((a0 :: some (.int x) :: lr) : List OV)[1]? = some (some (.int x)) from rfl))
  exact lv_iinc (v := x + dn) hC.1 hC.2.1 hd hl.has hkk (by rw [he]) hn rfl (fun ls' hl' => k p e s m args below meth c H locs ls' A hC hr hK hP hD hS (lvO.storedP (lv := a0 :: some (.int x) :: lr) 0 a0 rfl rfl hp hl'))
theorem V_iload2 {a0 a1 : OV} {lr : List OV} {x : Int32} (hd : decode cc pc = .ok (.iload_n 2, 1)) (k : V ids G own cc nL ret R (pc + 1) (a0 :: a1 :: some (.int x) :: lr) (.int x :: st) h Q) : V ids G own cc nL ret R pc (a0 :: a1 :: some (.int x) :: lr) st h Q :=
  fun p e s m args below meth c H locs ls A hC hr hK hP hD hS hl => lv_iload_n hC.1 hC.2.1 hd rfl (hl.2.2 2 _ rfl) (k p e s m args below meth c H locs ls A hC hr hK hP hD hS hl)
theorem V_aload2 {a0 a1 : OV} {lr : List OV} {x : Nat} (hd : decode cc pc = .ok (.aload_n 2, 1)) (k : V ids G own cc nL ret R (pc + 1) (a0 :: a1 :: some (.ref x) :: lr) (.ref x :: st) h Q) : V ids G own cc nL ret R pc (a0 :: a1 :: some (.ref x) :: lr) st h Q :=
  fun p e s m args below meth c H locs ls A hC hr hK hP hD hS hl => lv_aload_n hC.1 hC.2.1 hd rfl (hl.2.2 2 _ rfl) (k p e s m args below meth c H locs ls A hC hr hK hP hD hS hl)
theorem V_lload2 {a0 a1 : OV} {lr : List OV} {x : Int64} (hd : decode cc pc = .ok (.lload_n 2, 1)) (k : V ids G own cc nL ret R (pc + 1) (a0 :: a1 :: some (.long x) :: lr) (.long x :: st) h Q) : V ids G own cc nL ret R pc (a0 :: a1 :: some (.long x) :: lr) st h Q :=
  fun p e s m args below meth c H locs ls A hC hr hK hP hD hS hl => lv_lload_n hC.1 hC.2.1 hd rfl (hl.2.2 2 _ rfl) (k p e s m args below meth c H locs ls A hC hr hK hP hD hS hl)
theorem V_istore2 {a0 a1 : OV} {az : OV} {lr : List OV} {x : Int32} (hd : decode cc pc = .ok (.istore_n 2, 1)) (hn : 2 < nL) (hp : okc a1 = true) (k : V ids G own cc nL ret R (pc + 1) (a0 :: a1 :: some (.int x) :: lr) st h Q) : V ids G own cc nL ret R pc (a0 :: a1 :: az :: lr) (.int x :: st) h Q :=
  fun p e s m args below meth c H locs ls A hC hr hK hP hD hS hl => lv_istore_n hC.1 hC.2.1 hd rfl hl.has hn rfl (fun ls' hl' => k p e s m args below meth c H locs ls' A hC hr hK hP hD hS (lvO.storedP (lv := a0 :: a1 :: az :: lr) 1 a1 rfl rfl hp hl'))
theorem V_astore2 {a0 a1 : OV} {az : OV} {lr : List OV} {x : Nat} (hd : decode cc pc = .ok (.astore_n 2, 1)) (hn : 2 < nL) (hp : okc a1 = true) (k : V ids G own cc nL ret R (pc + 1) (a0 :: a1 :: some (.ref x) :: lr) st h Q) : V ids G own cc nL ret R pc (a0 :: a1 :: az :: lr) (.ref x :: st) h Q :=
  fun p e s m args below meth c H locs ls A hC hr hK hP hD hS hl => lv_astore_n hC.1 hC.2.1 hd rfl hl.has hn rfl (fun ls' hl' => k p e s m args below meth c H locs ls' A hC hr hK hP hD hS (lvO.storedP (lv := a0 :: a1 :: az :: lr) 1 a1 rfl rfl hp hl'))
theorem V_iinc2 {a0 a1 : OV} {lr : List OV} {x : Int32} {n : Int} (dn : Int32) (hd : decode cc pc = .ok (.iinc 2 n, 3)) (he : Int32.ofInt n = dn) (hn : 2 < nL) (hp : okc a1 = true) (k : V ids G own cc nL ret R (pc + 3) (a0 :: a1 :: some (.int (x + dn)) :: lr) st h Q) : V ids G own cc nL ret R pc (a0 :: a1 :: some (.int x) :: lr) st h Q := by
  intro p e s m args below meth c H locs ls A hC hr hK hP hD hS hl
  obtain ⟨kk, hkk⟩ := List.getElem?_of_mem (assocOf_mem.mpr (show ((a0 :: a1 :: some (.int x) :: lr) : List OV)[2]? = some (some (.int x)) from rfl))
  exact lv_iinc (v := x + dn) hC.1 hC.2.1 hd hl.has hkk (by rw [he]) hn rfl (fun ls' hl' => k p e s m args below meth c H locs ls' A hC hr hK hP hD hS (lvO.storedP (lv := a0 :: a1 :: some (.int x) :: lr) 1 a1 rfl rfl hp hl'))
theorem V_iload3 {a0 a1 a2 : OV} {lr : List OV} {x : Int32} (hd : decode cc pc = .ok (.iload_n 3, 1)) (k : V ids G own cc nL ret R (pc + 1) (a0 :: a1 :: a2 :: some (.int x) :: lr) (.int x :: st) h Q) : V ids G own cc nL ret R pc (a0 :: a1 :: a2 :: some (.int x) :: lr) st h Q :=
  fun p e s m args below meth c H locs ls A hC hr hK hP hD hS hl => lv_iload_n hC.1 hC.2.1 hd rfl (hl.2.2 3 _ rfl) (k p e s m args below meth c H locs ls A hC hr hK hP hD hS hl)
theorem V_aload3 {a0 a1 a2 : OV} {lr : List OV} {x : Nat} (hd : decode cc pc = .ok (.aload_n 3, 1)) (k : V ids G own cc nL ret R (pc + 1) (a0 :: a1 :: a2 :: some (.ref x) :: lr) (.ref x :: st) h Q) : V ids G own cc nL ret R pc (a0 :: a1 :: a2 :: some (.ref x) :: lr) st h Q :=
  fun p e s m args below meth c H locs ls A hC hr hK hP hD hS hl => lv_aload_n hC.1 hC.2.1 hd rfl (hl.2.2 3 _ rfl) (k p e s m args below meth c H locs ls A hC hr hK hP hD hS hl)
theorem V_istore3 {a0 a1 a2 : OV} {az : OV} {lr : List OV} {x : Int32} (hd : decode cc pc = .ok (.istore_n 3, 1)) (hn : 3 < nL) (hp : okc a2 = true) (k : V ids G own cc nL ret R (pc + 1) (a0 :: a1 :: a2 :: some (.int x) :: lr) st h Q) : V ids G own cc nL ret R pc (a0 :: a1 :: a2 :: az :: lr) (.int x :: st) h Q :=
  fun p e s m args below meth c H locs ls A hC hr hK hP hD hS hl => lv_istore_n hC.1 hC.2.1 hd rfl hl.has hn rfl (fun ls' hl' => k p e s m args below meth c H locs ls' A hC hr hK hP hD hS (lvO.storedP (lv := a0 :: a1 :: a2 :: az :: lr) 2 a2 rfl rfl hp hl'))
theorem V_astore3 {a0 a1 a2 : OV} {az : OV} {lr : List OV} {x : Nat} (hd : decode cc pc = .ok (.astore_n 3, 1)) (hn : 3 < nL) (hp : okc a2 = true) (k : V ids G own cc nL ret R (pc + 1) (a0 :: a1 :: a2 :: some (.ref x) :: lr) st h Q) : V ids G own cc nL ret R pc (a0 :: a1 :: a2 :: az :: lr) (.ref x :: st) h Q :=
  fun p e s m args below meth c H locs ls A hC hr hK hP hD hS hl => lv_astore_n hC.1 hC.2.1 hd rfl hl.has hn rfl (fun ls' hl' => k p e s m args below meth c H locs ls' A hC hr hK hP hD hS (lvO.storedP (lv := a0 :: a1 :: a2 :: az :: lr) 2 a2 rfl rfl hp hl'))
theorem V_iinc3 {a0 a1 a2 : OV} {lr : List OV} {x : Int32} {n : Int} (dn : Int32) (hd : decode cc pc = .ok (.iinc 3 n, 3)) (he : Int32.ofInt n = dn) (hn : 3 < nL) (hp : okc a2 = true) (k : V ids G own cc nL ret R (pc + 3) (a0 :: a1 :: a2 :: some (.int (x + dn)) :: lr) st h Q) : V ids G own cc nL ret R pc (a0 :: a1 :: a2 :: some (.int x) :: lr) st h Q := by
  intro p e s m args below meth c H locs ls A hC hr hK hP hD hS hl
  obtain ⟨kk, hkk⟩ := List.getElem?_of_mem (assocOf_mem.mpr (show ((a0 :: a1 :: a2 :: some (.int x) :: lr) : List OV)[3]? = some (some (.int x)) from rfl))
  exact lv_iinc (v := x + dn) hC.1 hC.2.1 hd hl.has hkk (by rw [he]) hn rfl (fun ls' hl' => k p e s m args below meth c H locs ls' A hC hr hK hP hD hS (lvO.storedP (lv := a0 :: a1 :: a2 :: some (.int x) :: lr) 2 a2 rfl rfl hp hl'))
theorem V_iload4 {a0 a1 a2 a3 : OV} {lr : List OV} {x : Int32} (hd : decode cc pc = .ok (.iload 4, 2)) (k : V ids G own cc nL ret R (pc + 2) (a0 :: a1 :: a2 :: a3 :: some (.int x) :: lr) (.int x :: st) h Q) : V ids G own cc nL ret R pc (a0 :: a1 :: a2 :: a3 :: some (.int x) :: lr) st h Q :=
  fun p e s m args below meth c H locs ls A hC hr hK hP hD hS hl => lv_iload hC.1 hC.2.1 hd (hl.2.2 4 _ rfl) (k p e s m args below meth c H locs ls A hC hr hK hP hD hS hl)
theorem V_aload4 {a0 a1 a2 a3 : OV} {lr : List OV} {x : Nat} (hd : decode cc pc = .ok (.aload 4, 2)) (k : V ids G own cc nL ret R (pc + 2) (a0 :: a1 :: a2 :: a3 :: some (.ref x) :: lr) (.ref x :: st) h Q) : V ids G own cc nL ret R pc (a0 :: a1 :: a2 :: a3 :: some (.ref x) :: lr) st h Q :=
  fun p e s m args below meth c H locs ls A hC hr hK hP hD hS hl => lv_aload hC.1 hC.2.1 hd (hl.2.2 4 _ rfl) (k p e s m args below meth c H locs ls A hC hr hK hP hD hS hl)
theorem V_lload4 {a0 a1 a2 a3 : OV} {lr : List OV} {x : Int64} (hd : decode cc pc = .ok (.lload 4, 2)) (k : V ids G own cc nL ret R (pc + 2) (a0 :: a1 :: a2 :: a3 :: some (.long x) :: lr) (.long x :: st) h Q) : V ids G own cc nL ret R pc (a0 :: a1 :: a2 :: a3 :: some (.long x) :: lr) st h Q :=
  fun p e s m args below meth c H locs ls A hC hr hK hP hD hS hl => lv_lload hC.1 hC.2.1 hd (hl.2.2 4 _ rfl) (k p e s m args below meth c H locs ls A hC hr hK hP hD hS hl)
theorem V_istore4 {a0 a1 a2 a3 : OV} {az : OV} {lr : List OV} {x : Int32} (hd : decode cc pc = .ok (.istore 4, 2)) (hn : 4 < nL) (hp : okc a3 = true) (k : V ids G own cc nL ret R (pc + 2) (a0 :: a1 :: a2 :: a3 :: some (.int x) :: lr) st h Q) : V ids G own cc nL ret R pc (a0 :: a1 :: a2 :: a3 :: az :: lr) (.int x :: st) h Q :=
  fun p e s m args below meth c H locs ls A hC hr hK hP hD hS hl => lv_istore hC.1 hC.2.1 hd hl.has hn rfl (fun ls' hl' => k p e s m args below meth c H locs ls' A hC hr hK hP hD hS (lvO.storedP (lv := a0 :: a1 :: a2 :: a3 :: az :: lr) 3 a3 rfl rfl hp hl'))
theorem V_astore4 {a0 a1 a2 a3 : OV} {az : OV} {lr : List OV} {x : Nat} (hd : decode cc pc = .ok (.astore 4, 2)) (hn : 4 < nL) (hp : okc a3 = true) (k : V ids G own cc nL ret R (pc + 2) (a0 :: a1 :: a2 :: a3 :: some (.ref x) :: lr) st h Q) : V ids G own cc nL ret R pc (a0 :: a1 :: a2 :: a3 :: az :: lr) (.ref x :: st) h Q :=
  fun p e s m args below meth c H locs ls A hC hr hK hP hD hS hl => lv_astore hC.1 hC.2.1 hd hl.has hn rfl (fun ls' hl' => k p e s m args below meth c H locs ls' A hC hr hK hP hD hS (lvO.storedP (lv := a0 :: a1 :: a2 :: a3 :: az :: lr) 3 a3 rfl rfl hp hl'))
theorem V_iinc4 {a0 a1 a2 a3 : OV} {lr : List OV} {x : Int32} {n : Int} (dn : Int32) (hd : decode cc pc = .ok (.iinc 4 n, 3)) (he : Int32.ofInt n = dn) (hn : 4 < nL) (hp : okc a3 = true) (k : V ids G own cc nL ret R (pc + 3) (a0 :: a1 :: a2 :: a3 :: some (.int (x + dn)) :: lr) st h Q) : V ids G own cc nL ret R pc (a0 :: a1 :: a2 :: a3 :: some (.int x) :: lr) st h Q := by
  intro p e s m args below meth c H locs ls A hC hr hK hP hD hS hl
  obtain ⟨kk, hkk⟩ := List.getElem?_of_mem (assocOf_mem.mpr (show ((a0 :: a1 :: a2 :: a3 :: some (.int x) :: lr) : List OV)[4]? = some (some (.int x)) from rfl))
  exact lv_iinc (v := x + dn) hC.1 hC.2.1 hd hl.has hkk (by rw [he]) hn rfl (fun ls' hl' => k p e s m args below meth c H locs ls' A hC hr hK hP hD hS (lvO.storedP (lv := a0 :: a1 :: a2 :: a3 :: some (.int x) :: lr) 3 a3 rfl rfl hp hl'))
theorem V_iload5 {a0 a1 a2 a3 a4 : OV} {lr : List OV} {x : Int32} (hd : decode cc pc = .ok (.iload 5, 2)) (k : V ids G own cc nL ret R (pc + 2) (a0 :: a1 :: a2 :: a3 :: a4 :: some (.int x) :: lr) (.int x :: st) h Q) : V ids G own cc nL ret R pc (a0 :: a1 :: a2 :: a3 :: a4 :: some (.int x) :: lr) st h Q :=
  fun p e s m args below meth c H locs ls A hC hr hK hP hD hS hl => lv_iload hC.1 hC.2.1 hd (hl.2.2 5 _ rfl) (k p e s m args below meth c H locs ls A hC hr hK hP hD hS hl)
theorem V_aload5 {a0 a1 a2 a3 a4 : OV} {lr : List OV} {x : Nat} (hd : decode cc pc = .ok (.aload 5, 2)) (k : V ids G own cc nL ret R (pc + 2) (a0 :: a1 :: a2 :: a3 :: a4 :: some (.ref x) :: lr) (.ref x :: st) h Q) : V ids G own cc nL ret R pc (a0 :: a1 :: a2 :: a3 :: a4 :: some (.ref x) :: lr) st h Q :=
  fun p e s m args below meth c H locs ls A hC hr hK hP hD hS hl => lv_aload hC.1 hC.2.1 hd (hl.2.2 5 _ rfl) (k p e s m args below meth c H locs ls A hC hr hK hP hD hS hl)
theorem V_istore5 {a0 a1 a2 a3 a4 : OV} {az : OV} {lr : List OV} {x : Int32} (hd : decode cc pc = .ok (.istore 5, 2)) (hn : 5 < nL) (hp : okc a4 = true) (k : V ids G own cc nL ret R (pc + 2) (a0 :: a1 :: a2 :: a3 :: a4 :: some (.int x) :: lr) st h Q) : V ids G own cc nL ret R pc (a0 :: a1 :: a2 :: a3 :: a4 :: az :: lr) (.int x :: st) h Q :=
  fun p e s m args below meth c H locs ls A hC hr hK hP hD hS hl => lv_istore hC.1 hC.2.1 hd hl.has hn rfl (fun ls' hl' => k p e s m args below meth c H locs ls' A hC hr hK hP hD hS (lvO.storedP (lv := a0 :: a1 :: a2 :: a3 :: a4 :: az :: lr) 4 a4 rfl rfl hp hl'))
theorem V_astore5 {a0 a1 a2 a3 a4 : OV} {az : OV} {lr : List OV} {x : Nat} (hd : decode cc pc = .ok (.astore 5, 2)) (hn : 5 < nL) (hp : okc a4 = true) (k : V ids G own cc nL ret R (pc + 2) (a0 :: a1 :: a2 :: a3 :: a4 :: some (.ref x) :: lr) st h Q) : V ids G own cc nL ret R pc (a0 :: a1 :: a2 :: a3 :: a4 :: az :: lr) (.ref x :: st) h Q :=
  fun p e s m args below meth c H locs ls A hC hr hK hP hD hS hl => lv_astore hC.1 hC.2.1 hd hl.has hn rfl (fun ls' hl' => k p e s m args below meth c H locs ls' A hC hr hK hP hD hS (lvO.storedP (lv := a0 :: a1 :: a2 :: a3 :: a4 :: az :: lr) 4 a4 rfl rfl hp hl'))
theorem V_iinc5 {a0 a1 a2 a3 a4 : OV} {lr : List OV} {x : Int32} {n : Int} (dn : Int32) (hd : decode cc pc = .ok (.iinc 5 n, 3)) (he : Int32.ofInt n = dn) (hn : 5 < nL) (hp : okc a4 = true) (k : V ids G own cc nL ret R (pc + 3) (a0 :: a1 :: a2 :: a3 :: a4 :: some (.int (x + dn)) :: lr) st h Q) : V ids G own cc nL ret R pc (a0 :: a1 :: a2 :: a3 :: a4 :: some (.int x) :: lr) st h Q := by
  intro p e s m args below meth c H locs ls A hC hr hK hP hD hS hl
  obtain ⟨kk, hkk⟩ := List.getElem?_of_mem (assocOf_mem.mpr (show ((a0 :: a1 :: a2 :: a3 :: a4 :: some (.int x) :: lr) : List OV)[5]? = some (some (.int x)) from rfl))
  exact lv_iinc (v := x + dn) hC.1 hC.2.1 hd hl.has hkk (by rw [he]) hn rfl (fun ls' hl' => k p e s m args below meth c H locs ls' A hC hr hK hP hD hS (lvO.storedP (lv := a0 :: a1 :: a2 :: a3 :: a4 :: some (.int x) :: lr) 4 a4 rfl rfl hp hl'))
theorem V_iload6 {a0 a1 a2 a3 a4 a5 : OV} {lr : List OV} {x : Int32} (hd : decode cc pc = .ok (.iload 6, 2)) (k : V ids G own cc nL ret R (pc + 2) (a0 :: a1 :: a2 :: a3 :: a4 :: a5 :: some (.int x) :: lr) (.int x :: st) h Q) : V ids G own cc nL ret R pc (a0 :: a1 :: a2 :: a3 :: a4 :: a5 :: some (.int x) :: lr) st h Q :=
  fun p e s m args below meth c H locs ls A hC hr hK hP hD hS hl => lv_iload hC.1 hC.2.1 hd (hl.2.2 6 _ rfl) (k p e s m args below meth c H locs ls A hC hr hK hP hD hS hl)
theorem V_aload6 {a0 a1 a2 a3 a4 a5 : OV} {lr : List OV} {x : Nat} (hd : decode cc pc = .ok (.aload 6, 2)) (k : V ids G own cc nL ret R (pc + 2) (a0 :: a1 :: a2 :: a3 :: a4 :: a5 :: some (.ref x) :: lr) (.ref x :: st) h Q) : V ids G own cc nL ret R pc (a0 :: a1 :: a2 :: a3 :: a4 :: a5 :: some (.ref x) :: lr) st h Q :=
  fun p e s m args below meth c H locs ls A hC hr hK hP hD hS hl => lv_aload hC.1 hC.2.1 hd (hl.2.2 6 _ rfl) (k p e s m args below meth c H locs ls A hC hr hK hP hD hS hl)
theorem V_istore6 {a0 a1 a2 a3 a4 a5 : OV} {az : OV} {lr : List OV} {x : Int32} (hd : decode cc pc = .ok (.istore 6, 2)) (hn : 6 < nL) (hp : okc a5 = true) (k : V ids G own cc nL ret R (pc + 2) (a0 :: a1 :: a2 :: a3 :: a4 :: a5 :: some (.int x) :: lr) st h Q) : V ids G own cc nL ret R pc (a0 :: a1 :: a2 :: a3 :: a4 :: a5 :: az :: lr) (.int x :: st) h Q :=
  fun p e s m args below meth c H locs ls A hC hr hK hP hD hS hl => lv_istore hC.1 hC.2.1 hd hl.has hn rfl (fun ls' hl' => k p e s m args below meth c H locs ls' A hC hr hK hP hD hS (lvO.storedP (lv := a0 :: a1 :: a2 :: a3 :: a4 :: a5 :: az :: lr) 5 a5 rfl rfl hp hl'))
theorem V_astore6 {a0 a1 a2 a3 a4 a5 : OV} {az : OV} {lr : List OV} {x : Nat} (hd : decode cc pc = .ok (.astore 6, 2)) (hn : 6 < nL) (hp : okc a5 = true) (k : V ids G own cc nL ret R (pc + 2) (a0 :: a1 :: a2 :: a3 :: a4 :: a5 :: some (.ref x) :: lr) st h Q) : V ids G own cc nL ret R pc (a0 :: a1 :: a2 :: a3 :: a4 :: a5 :: az :: lr) (.ref x :: st) h Q :=
  fun p e s m args below meth c H locs ls A hC hr hK hP hD hS hl => lv_astore hC.1 hC.2.1 hd hl.has hn rfl (fun ls' hl' => k p e s m args below meth c H locs ls' A hC hr hK hP hD hS (lvO.storedP (lv := a0 :: a1 :: a2 :: a3 :: a4 :: a5 :: az :: lr) 5 a5 rfl rfl hp hl'))
theorem V_iinc6 {a0 a1 a2 a3 a4 a5 : OV} {lr : List OV} {x : Int32} {n : Int} (dn : Int32) (hd : decode cc pc = .ok (.iinc 6 n, 3)) (he : Int32.ofInt n = dn) (hn : 6 < nL) (hp : okc a5 = true) (k : V ids G own cc nL ret R (pc + 3) (a0 :: a1 :: a2 :: a3 :: a4 :: a5 :: some (.int (x + dn)) :: lr) st h Q) : V ids G own cc nL ret R pc (a0 :: a1 :: a2 :: a3 :: a4 :: a5 :: some (.int x) :: lr) st h Q := by
  intro p e s m args below meth c H locs ls A hC hr hK hP hD hS hl
  obtain ⟨kk, hkk⟩ := List.getElem?_of_mem (assocOf_mem.mpr (show ((a0 :: a1 :: a2 :: a3 :: a4 :: a5 :: some (.int x) :: lr) : List OV)[6]? = some (some (.int x)) from rfl))
  exact lv_iinc (v := x + dn) hC.1 hC.2.1 hd hl.has hkk (by rw [he]) hn rfl (fun ls' hl' => k p e s m args below meth c H locs ls' A hC hr hK hP hD hS (lvO.storedP (lv := a0 :: a1 :: a2 :: a3 :: a4 :: a5 :: some (.int x) :: lr) 5 a5 rfl rfl hp hl'))
theorem V_iload7 {a0 a1 a2 a3 a4 a5 a6 : OV} {lr : List OV} {x : Int32} (hd : decode cc pc = .ok (.iload 7, 2)) (k : V ids G own cc nL ret R (pc + 2) (a0 :: a1 :: a2 :: a3 :: a4 :: a5 :: a6 :: some (.int x) :: lr) (.int x :: st) h Q) : V ids G own cc nL ret R pc (a0 :: a1 :: a2 :: a3 :: a4 :: a5 :: a6 :: some (.int x) :: lr) st h Q :=
  fun p e s m args below meth c H locs ls A hC hr hK hP hD hS hl => lv_iload hC.1 hC.2.1 hd (hl.2.2 7 _ rfl) (k p e s m args below meth c H locs ls A hC hr hK hP hD hS hl)
theorem V_aload7 {a0 a1 a2 a3 a4 a5 a6 : OV} {lr : List OV} {x : Nat} (hd : decode cc pc = .ok (.aload 7, 2)) (k : V ids G own cc nL ret R (pc + 2) (a0 :: a1 :: a2 :: a3 :: a4 :: a5 :: a6 :: some (.ref x) :: lr) (.ref x :: st) h Q) : V ids G own cc nL ret R pc (a0 :: a1 :: a2 :: a3 :: a4 :: a5 :: a6 :: some (.ref x) :: lr) st h Q :=
  fun p e s m args below meth c H locs ls A hC hr hK hP hD hS hl => lv_aload hC.1 hC.2.1 hd (hl.2.2 7 _ rfl) (k p e s m args below meth c H locs ls A hC hr hK hP hD hS hl)
theorem V_istore7 {a0 a1 a2 a3 a4 a5 a6 : OV} {az : OV} {lr : List OV} {x : Int32} (hd : decode cc pc = .ok (.istore 7, 2)) (hn : 7 < nL) (hp : okc a6 = true) (k : V ids G own cc nL ret R (pc + 2) (a0 :: a1 :: a2 :: a3 :: a4 :: a5 :: a6 :: some (.int x) :: lr) st h Q) : V ids G own cc nL ret R pc (a0 :: a1 :: a2 :: a3 :: a4 :: a5 :: a6 :: az :: lr) (.int x :: st) h Q :=
  fun p e s m args below meth c H locs ls A hC hr hK hP hD hS hl => lv_istore hC.1 hC.2.1 hd hl.has hn rfl (fun ls' hl' => k p e s m args below meth c H locs ls' A hC hr hK hP hD hS (lvO.storedP (lv := a0 :: a1 :: a2 :: a3 :: a4 :: a5 :: a6 :: az :: lr) 6 a6 rfl rfl hp hl'))
theorem V_astore7 {a0 a1 a2 a3 a4 a5 a6 : OV} {az : OV} {lr : List OV} {x : Nat} (hd : decode cc pc = .ok (.astore 7, 2)) (hn : 7 < nL) (hp : okc a6 = true) (k : V ids G own cc nL ret R (pc + 2) (a0 :: a1 :: a2 :: a3 :: a4 :: a5 :: a6 :: some (.ref x) :: lr) st h Q) : V ids G own cc nL ret R pc (a0 :: a1 :: a2 :: a3 :: a4 :: a5 :: a6 :: az :: lr) (.ref x :: st) h Q :=
  fun p e s m args below meth c H locs ls A hC hr hK hP hD hS hl => lv_astore hC.1 hC.2.1 hd hl.has hn rfl (fun ls' hl' => k p e s m args below meth c H locs ls' A hC hr hK hP hD hS (lvO.storedP (lv := a0 :: a1 :: a2 :: a3 :: a4 :: a5 :: a6 :: az :: lr) 6 a6 rfl rfl hp hl'))
theorem V_iinc7 {a0 a1 a2 a3 a4 a5 a6 : OV} {lr : List OV} {x : Int32} {n : Int} (dn : Int32) (hd : decode cc pc = .ok (.iinc 7 n, 3)) (he : Int32.ofInt n = dn) (hn : 7 < nL) (hp : okc a6 = true) (k : V ids G own cc nL ret R (pc + 3) (a0 :: a1 :: a2 :: a3 :: a4 :: a5 :: a6 :: some (.int (x + dn)) :: lr) st h Q) : V ids G own cc nL ret R pc (a0 :: a1 :: a2 :: a3 :: a4 :: a5 :: a6 :: some (.int x) :: lr) st h Q := by
  intro p e s m args below meth c H locs ls A hC hr hK hP hD hS hl
  obtain ⟨kk, hkk⟩ := List.getElem?_of_mem (assocOf_mem.mpr (show ((a0 :: a1 :: a2 :: a3 :: a4 :: a5 :: a6 :: some (.int x) :: lr) : List OV)[7]? = some (some (.int x)) from rfl))
  exact lv_iinc (v := x + dn) hC.1 hC.2.1 hd hl.has hkk (by rw [he]) hn rfl (fun ls' hl' => k p e s m args below meth c H locs ls' A hC hr hK hP hD hS (lvO.storedP (lv := a0 :: a1 :: a2 :: a3 :: a4 :: a5 :: a6 :: some (.int x) :: lr) 6 a6 rfl rfl hp hl'))
theorem V_iload8 {a0 a1 a2 a3 a4 a5 a6 a7 : OV} {lr : List OV} {x : Int32} (hd : decode cc pc = .ok (.iload 8, 2)) (k : V ids G own cc nL ret R (pc + 2) (a0 :: a1 :: a2 :: a3 :: a4 :: a5 :: a6 :: a7 :: some (.int x) :: lr) (.int x :: st) h Q) : V ids G own cc nL ret R pc (a0 :: a1 :: a2 :: a3 :: a4 :: a5 :: a6 :: a7 :: some (.int x) :: lr) st h Q :=
  fun p e s m args below meth c H locs ls A hC hr hK hP hD hS hl => lv_iload hC.1 hC.2.1 hd (hl.2.2 8 _ rfl) (k p e s m args below meth c H locs ls A hC hr hK hP hD hS hl)
theorem V_aload8 {a0 a1 a2 a3 a4 a5 a6 a7 : OV} {lr : List OV} {x : Nat} (hd : decode cc pc = .ok (.aload 8, 2)) (k : V ids G own cc nL ret R (pc + 2) (a0 :: a1 :: a2 :: a3 :: a4 :: a5 :: a6 :: a7 :: some (.ref x) :: lr) (.ref x :: st) h Q) : V ids G own cc nL ret R pc (a0 :: a1 :: a2 :: a3 :: a4 :: a5 :: a6 :: a7 :: some (.ref x) :: lr) st h Q :=
  fun p e s m args below meth c H locs ls A hC hr hK hP hD hS hl => lv_aload hC.1 hC.2.1 hd (hl.2.2 8 _ rfl) (k p e s m args below meth c H locs ls A hC hr hK hP hD hS hl)
theorem V_istore8 {a0 a1 a2 a3 a4 a5 a6 a7 : OV} {az : OV} {lr : List OV} {x : Int32} (hd : decode cc pc = .ok (.istore 8, 2)) (hn : 8 < nL) (hp : okc a7 = true) (k : V ids G own cc nL ret R (pc + 2) (a0 :: a1 :: a2 :: a3 :: a4 :: a5 :: a6 :: a7 :: some (.int x) :: lr) st h Q) : V ids G own cc nL ret R pc (a0 :: a1 :: a2 :: a3 :: a4 :: a5 :: a6 :: a7 :: az :: lr) (.int x :: st) h Q :=
  fun p e s m args below meth c H locs ls A hC hr hK hP hD hS hl => lv_istore hC.1 hC.2.1 hd hl.has hn rfl (fun ls' hl' => k p e s m args below meth c H locs ls' A hC hr hK hP hD hS (lvO.storedP (lv := a0 :: a1 :: a2 :: a3 :: a4 :: a5 :: a6 :: a7 :: az :: lr) 7 a7 rfl rfl hp hl'))
theorem V_astore8 {a0 a1 a2 a3 a4 a5 a6 a7 : OV} {az : OV} {lr : List OV} {x : Nat} (hd : decode cc pc = .ok (.astore 8, 2)) (hn : 8 < nL) (hp : okc a7 = true) (k : V ids G own cc nL ret R (pc + 2) (a0 :: a1 :: a2 :: a3 :: a4 :: a5 :: a6 :: a7 :: some (.ref x) :: lr) st h Q) : V ids G own cc nL ret R pc (a0 :: a1 :: a2 :: a3 :: a4 :: a5 :: a6 :: a7 :: az :: lr) (.ref x :: st) h Q :=
  fun p e s m args below meth c H locs ls A hC hr hK hP hD hS hl => lv_astore hC.1 hC.2.1 hd hl.has hn rfl (fun ls' hl' => k p e s m args below meth c H locs ls' A hC hr hK hP hD hS (lvO.storedP (lv := a0 :: a1 :: a2 :: a3 :: a4 :: a5 :: a6 :: a7 :: az :: lr) 7 a7 rfl rfl hp hl'))
theorem V_iinc8 {a0 a1 a2 a3 a4 a5 a6 a7 : OV} {lr : List OV} {x : Int32} {n : Int} (dn : Int32) (hd : decode cc pc = .ok (.iinc 8 n, 3)) (he : Int32.ofInt n = dn) (hn : 8 < nL) (hp : okc a7 = true) (k : V ids G own cc nL ret R (pc + 3) (a0 :: a1 :: a2 :: a3 :: a4 :: a5 :: a6 :: a7 :: some (.int (x + dn)) :: lr) st h Q) : V ids G own cc nL ret R pc (a0 :: a1 :: a2 :: a3 :: a4 :: a5 :: a6 :: a7 :: some (.int x) :: lr) st h Q := by
  intro p e s m args below meth c H locs ls A hC hr hK hP hD hS hl
  obtain ⟨kk, hkk⟩ := List.getElem?_of_mem (assocOf_mem.mpr (show ((a0 :: a1 :: a2 :: a3 :: a4 :: a5 :: a6 :: a7 :: some (.int x) :: lr) : List OV)[8]? = some (some (.int x)) from rfl))
  exact lv_iinc (v := x + dn) hC.1 hC.2.1 hd hl.has hkk (by rw [he]) hn rfl (fun ls' hl' => k p e s m args below meth c H locs ls' A hC hr hK hP hD hS (lvO.storedP (lv := a0 :: a1 :: a2 :: a3 :: a4 :: a5 :: a6 :: a7 :: some (.int x) :: lr) 7 a7 rfl rfl hp hl'))
theorem V_iload9 {a0 a1 a2 a3 a4 a5 a6 a7 a8 : OV} {lr : List OV} {x : Int32} (hd : decode cc pc = .ok (.iload 9, 2)) (k : V ids G own cc nL ret R (pc + 2) (a0 :: a1 :: a2 :: a3 :: a4 :: a5 :: a6 :: a7 :: a8 :: some (.int x) :: lr) (.int x :: st) h Q) : V ids G own cc nL ret R pc (a0 :: a1 :: a2 :: a3 :: a4 :: a5 :: a6 :: a7 :: a8 :: some (.int x) :: lr) st h Q :=
  fun p e s m args below meth c H locs ls A hC hr hK hP hD hS hl => lv_iload hC.1 hC.2.1 hd (hl.2.2 9 _ rfl) (k p e s m args below meth c H locs ls A hC hr hK hP hD hS hl)
theorem V_aload9 {a0 a1 a2 a3 a4 a5 a6 a7 a8 : OV} {lr : List OV} {x : Nat} (hd : decode cc pc = .ok (.aload 9, 2)) (k : V ids G own cc nL ret R (pc + 2) (a0 :: a1 :: a2 :: a3 :: a4 :: a5 :: a6 :: a7 :: a8 :: some (.ref x) :: lr) (.ref x :: st) h Q) : V ids G own cc nL ret R pc (a0 :: a1 :: a2 :: a3 :: a4 :: a5 :: a6 :: a7 :: a8 :: some (.ref x) :: lr) st h Q :=
  fun p e s m args below meth c H locs ls A hC hr hK hP hD hS hl => lv_aload hC.1 hC.2.1 hd (hl.2.2 9 _ rfl) (k p e s m args below meth c H locs ls A hC hr hK hP hD hS hl)
theorem V_istore9 {a0 a1 a2 a3 a4 a5 a6 a7 a8 : OV} {az : OV} {lr : List OV} {x : Int32} (hd : decode cc pc = .ok (.istore 9, 2)) (hn : 9 < nL) (hp : okc a8 = true) (k : V ids G own cc nL ret R (pc + 2) (a0 :: a1 :: a2 :: a3 :: a4 :: a5 :: a6 :: a7 :: a8 :: some (.int x) :: lr) st h Q) : V ids G own cc nL ret R pc (a0 :: a1 :: a2 :: a3 :: a4 :: a5 :: a6 :: a7 :: a8 :: az :: lr) (.int x :: st) h Q :=
  fun p e s m args below meth c H locs ls A hC hr hK hP hD hS hl => lv_istore hC.1 hC.2.1 hd hl.has hn rfl (fun ls' hl' => k p e s m args below meth c H locs ls' A hC hr hK hP hD hS (lvO.storedP (lv := a0 :: a1 :: a2 :: a3 :: a4 :: a5 :: a6 :: a7 :: a8 :: az :: lr) 8 a8 rfl rfl hp hl'))
theorem V_astore9 {a0 a1 a2 a3 a4 a5 a6 a7 a8 : OV} {az : OV} {lr : List OV} {x : Nat} (hd : decode cc pc = .ok (.astore 9, 2)) (hn : 9 < nL) (hp : okc a8 = true) (k : V ids G own cc nL ret R (pc + 2) (a0 :: a1 :: a2 :: a3 :: a4 :: a5 :: a6 :: a7 :: a8 :: some (.ref x) :: lr) st h Q) : V ids G own cc nL ret R pc (a0 :: a1 :: a2 :: a3 :: a4 :: a5 :: a6 :: a7 :: a8 :: az :: lr) (.ref x :: st) h Q :=
  fun p e s m args below meth c H locs ls A hC hr hK hP hD hS hl => lv_astore hC.1 hC.2.1 hd hl.has hn rfl (fun ls' hl' => k p e s m args below meth c H locs ls' A hC hr hK hP hD hS (lvO.storedP (lv := a0 :: a1 :: a2 :: a3 :: a4 :: a5 :: a6 :: a7 :: a8 :: az :: lr) 8 a8 rfl rfl hp hl'))
theorem V_iinc9 {a0 a1 a2 a3 a4 a5 a6 a7 a8 : OV} {lr : List OV} {x : Int32} {n : Int} (dn : Int32) (hd : decode cc pc = .ok (.iinc 9 n, 3)) (he : Int32.ofInt n = dn) (hn : 9 < nL) (hp : okc a8 = true) (k : V ids G own cc nL ret R (pc + 3) (a0 :: a1 :: a2 :: a3 :: a4 :: a5 :: a6 :: a7 :: a8 :: some (.int (x + dn)) :: lr) st h Q) : V ids G own cc nL ret R pc (a0 :: a1 :: a2 :: a3 :: a4 :: a5 :: a6 :: a7 :: a8 :: some (.int x) :: lr) st h Q := by
  intro p e s m args below meth c H locs ls A hC hr hK hP hD hS hl
  obtain ⟨kk, hkk⟩ := List.getElem?_of_mem (assocOf_mem.mpr (show ((a0 :: a1 :: a2 :: a3 :: a4 :: a5 :: a6 :: a7 :: a8 :: some (.int x) :: lr) : List OV)[9]? = some (some (.int x)) from rfl))
  exact lv_iinc (v := x + dn) hC.1 hC.2.1 hd hl.has hkk (by rw [he]) hn rfl (fun ls' hl' => k p e s m args below meth c H locs ls' A hC hr hK hP hD hS (lvO.storedP (lv := a0 :: a1 :: a2 :: a3 :: a4 :: a5 :: a6 :: a7 :: a8 :: some (.int x) :: lr) 8 a8 rfl rfl hp hl'))
theorem V_iload10 {a0 a1 a2 a3 a4 a5 a6 a7 a8 a9 : OV} {lr : List OV} {x : Int32} (hd : decode cc pc = .ok (.iload 10, 2)) (k : V ids G own cc nL ret R (pc + 2) (a0 :: a1 :: a2 :: a3 :: a4 :: a5 :: a6 :: a7 :: a8 :: a9 :: some (.int x) :: lr) (.int x :: st) h Q) : V ids G own cc nL ret R pc (a0 :: a1 :: a2 :: a3 :: a4 :: a5 :: a6 :: a7 :: a8 :: a9 :: some (.int x) :: lr) st h Q :=
  fun p e s m args below meth c H locs ls A hC hr hK hP hD hS hl => lv_iload hC.1 hC.2.1 hd (hl.2.2 10 _ rfl) (k p e s m args below meth c H locs ls A hC hr hK hP hD hS hl)
theorem V_aload10 {a0 a1 a2 a3 a4 a5 a6 a7 a8 a9 : OV} {lr : List OV} {x : Nat} (hd : decode cc pc = .ok (.aload 10, 2)) (k : V ids G own cc nL ret R (pc + 2) (a0 :: a1 :: a2 :: a3 :: a4 :: a5 :: a6 :: a7 :: a8 :: a9 :: some (.ref x) :: lr) (.ref x :: st) h Q) : V ids G own cc nL ret R pc (a0 :: a1 :: a2 :: a3 :: a4 :: a5 :: a6 :: a7 :: a8 :: a9 :: some (.ref x) :: lr) st h Q :=
  fun p e s m args below meth c H locs ls A hC hr hK hP hD hS hl => lv_aload hC.1 hC.2.1 hd (hl.2.2 10 _ rfl) (k p e s m args below meth c H locs ls A hC hr hK hP hD hS hl)
theorem V_istore10 {a0 a1 a2 a3 a4 a5 a6 a7 a8 a9 : OV} {az : OV} {lr : List OV} {x : Int32} (hd : decode cc pc = .ok (.istore 10, 2)) (hn : 10 < nL) (hp : okc a9 = true) (k : V ids G own cc nL ret R (pc + 2) (a0 :: a1 :: a2 :: a3 :: a4 :: a5 :: a6 :: a7 :: a8 :: a9 :: some (.int x) :: lr) st h Q) : V ids G own cc nL ret R pc (a0 :: a1 :: a2 :: a3 :: a4 :: a5 :: a6 :: a7 :: a8 :: a9 :: az :: lr) (.int x :: st) h Q :=
  fun p e s m args below meth c H locs ls A hC hr hK hP hD hS hl => lv_istore hC.1 hC.2.1 hd hl.has hn rfl (fun ls' hl' => k p e s m args below meth c H locs ls' A hC hr hK hP hD hS (lvO.storedP (lv := a0 :: a1 :: a2 :: a3 :: a4 :: a5 :: a6 :: a7 :: a8 :: a9 :: az :: lr) 9 a9 rfl rfl hp hl'))
theorem V_astore10 {a0 a1 a2 a3 a4 a5 a6 a7 a8 a9 : OV} {az : OV} {lr : List OV} {x : Nat} (hd : decode cc pc = .ok (.astore 10, 2)) (hn : 10 < nL) (hp : okc a9 = true) (k : V ids G own cc nL ret R (pc + 2) (a0 :: a1 :: a2 :: a3 :: a4 :: a5 :: a6 :: a7 :: a8 :: a9 :: some (.ref x) :: lr) st h Q) : V ids G own cc nL ret R pc (a0 :: a1 :: a2 :: a3 :: a4 :: a5 :: a6 :: a7 :: a8 :: a9 :: az :: lr) (.ref x :: st) h Q :=
  fun p e s m args below meth c H locs ls A hC hr hK hP hD hS hl => lv_astore hC.1 hC.2.1 hd hl.has hn rfl (fun ls' hl' => k p e s m args below meth c H locs ls' A hC hr hK hP hD hS (lvO.storedP (lv := a0 :: a1 :: a2 :: a3 :: a4 :: a5 :: a6 :: a7 :: a8 :: a9 :: az :: lr) 9 a9 rfl rfl hp hl'))
theorem V_iinc10 {a0 a1 a2 a3 a4 a5 a6 a7 a8 a9 : OV} {lr : List OV} {x : Int32} {n : Int} (dn : Int32) (hd : decode cc pc = .ok (.iinc 10 n, 3)) (he : Int32.ofInt n = dn) (hn : 10 < nL) (hp : okc a9 = true) (k : V ids G own cc nL ret R (pc + 3) (a0 :: a1 :: a2 :: a3 :: a4 :: a5 :: a6 :: a7 :: a8 :: a9 :: some (.int (x + dn)) :: lr) st h Q) : V ids G own cc nL ret R pc (a0 :: a1 :: a2 :: a3 :: a4 :: a5 :: a6 :: a7 :: a8 :: a9 :: some (.int x) :: lr) st h Q := by
  intro p e s m args below meth c H locs ls A hC hr hK hP hD hS hl
  obtain ⟨kk, hkk⟩ := List.getElem?_of_mem (assocOf_mem.mpr (show ((a0 :: a1 :: a2 :: a3 :: a4 :: a5 :: a6 :: a7 :: a8 :: a9 :: some (.int x) :: lr) : List OV)[10]? = some (some (.int x)) from rfl))
  exact lv_iinc (v := x + dn) hC.1 hC.2.1 hd hl.has hkk (by rw [he]) hn rfl (fun ls' hl' => k p e s m args below meth c H locs ls' A hC hr hK hP hD hS (lvO.storedP (lv := a0 :: a1 :: a2 :: a3 :: a4 :: a5 :: a6 :: a7 :: a8 :: a9 :: some (.int x) :: lr) 9 a9 rfl rfl hp hl'))
theorem V_iload11 {a0 a1 a2 a3 a4 a5 a6 a7 a8 a9 a10 : OV} {lr : List OV} {x : Int32} (hd : decode cc pc = .ok (.iload 11, 2)) (k : V ids G own cc nL ret R (pc + 2) (a0 :: a1 :: a2 :: a3 :: a4 :: a5 :: a6 :: a7 :: a8 :: a9 :: a10 :: some (.int x) :: lr) (.int x :: st) h Q) : V ids G own cc nL ret R pc (a0 :: a1 :: a2 :: a3 :: a4 :: a5 :: a6 :: a7 :: a8 :: a9 :: a10 :: some (.int x) :: lr) st h Q :=
  fun p e s m args below meth c H locs ls A hC hr hK hP hD hS hl => lv_iload hC.1 hC.2.1 hd (hl.2.2 11 _ rfl) (k p e s m args below meth c H locs ls A hC hr hK hP hD hS hl)
theorem V_aload11 {a0 a1 a2 a3 a4 a5 a6 a7 a8 a9 a10 : OV} {lr : List OV} {x : Nat} (hd : decode cc pc = .ok (.aload 11, 2)) (k : V ids G own cc nL ret R (pc + 2) (a0 :: a1 :: a2 :: a3 :: a4 :: a5 :: a6 :: a7 :: a8 :: a9 :: a10 :: some (.ref x) :: lr) (.ref x :: st) h Q) : V ids G own cc nL ret R pc (a0 :: a1 :: a2 :: a3 :: a4 :: a5 :: a6 :: a7 :: a8 :: a9 :: a10 :: some (.ref x) :: lr) st h Q :=
  fun p e s m args below meth c H locs ls A hC hr hK hP hD hS hl => lv_aload hC.1 hC.2.1 hd (hl.2.2 11 _ rfl) (k p e s m args below meth c H locs ls A hC hr hK hP hD hS hl)
theorem V_istore11 {a0 a1 a2 a3 a4 a5 a6 a7 a8 a9 a10 : OV} {az : OV} {lr : List OV} {x : Int32} (hd : decode cc pc = .ok (.istore 11, 2)) (hn : 11 < nL) (hp : okc a10 = true) (k : V ids G own cc nL ret R (pc + 2) (a0 :: a1 :: a2 :: a3 :: a4 :: a5 :: a6 :: a7 :: a8 :: a9 :: a10 :: some (.int x) :: lr) st h Q) : V ids G own cc nL ret R pc (a0 :: a1 :: a2 :: a3 :: a4 :: a5 :: a6 :: a7 :: a8 :: a9 :: a10 :: az :: lr) (.int x :: st) h Q :=
  fun p e s m args below meth c H locs ls A hC hr hK hP hD hS hl => lv_istore hC.1 hC.2.1 hd hl.has hn rfl (fun ls' hl' => k p e s m args below meth c H locs ls' A hC hr hK hP hD hS (lvO.storedP (lv := a0 :: a1 :: a2 :: a3 :: a4 :: a5 :: a6 :: a7 :: a8 :: a9 :: a10 :: az :: lr) 10 a10 rfl rfl hp hl'))
theorem V_astore11 {a0 a1 a2 a3 a4 a5 a6 a7 a8 a9 a10 : OV} {az : OV} {lr : List OV} {x : Nat} (hd : decode cc pc = .ok (.astore 11, 2)) (hn : 11 < nL) (hp : okc a10 = true) (k : V ids G own cc nL ret R (pc + 2) (a0 :: a1 :: a2 :: a3 :: a4 :: a5 :: a6 :: a7 :: a8 :: a9 :: a10 :: some (.ref x) :: lr) st h Q) : V ids G own cc nL ret R pc (a0 :: a1 :: a2 :: a3 :: a4 :: a5 :: a6 :: a7 :: a8 :: a9 :: a10 :: az :: lr) (.ref x :: st) h Q :=
  fun p e s m args below meth c H locs ls A hC hr hK hP hD hS hl => lv_astore hC.1 hC.2.1 hd hl.has hn rfl (fun ls' hl' => k p e s m args below meth c H locs ls' A hC hr hK hP hD hS (lvO.storedP (lv := a0 :: a1 :: a2 :: a3 :: a4 :: a5 :: a6 :: a7 :: a8 :: a9 :: a10 :: az :: lr) 10 a10 rfl rfl hp hl'))
theorem V_iinc11 {a0 a1 a2 a3 a4 a5 a6 a7 a8 a9 a10 : OV} {lr : List OV} {x : Int32} {n : Int} (dn : Int32) (hd : decode cc pc = .ok (.iinc 11 n, 3)) (he : Int32.ofInt n = dn) (hn : 11 < nL) (hp : okc a10 = true) (k : V ids G own cc nL ret R (pc + 3) (a0 :: a1 :: a2 :: a3 :: a4 :: a5 :: a6 :: a7 :: a8 :: a9 :: a10 :: some (.int (x + dn)) :: lr) st h Q) : V ids G own cc nL ret R pc (a0 :: a1 :: a2 :: a3 :: a4 :: a5 :: a6 :: a7 :: a8 :: a9 :: a10 :: some (.int x) :: lr) st h Q := by
  intro p e s m args below meth c H locs ls A hC hr hK hP hD hS hl
  obtain ⟨kk, hkk⟩ := List.getElem?_of_mem (assocOf_mem.mpr (show ((a0 :: a1 :: a2 :: a3 :: a4 :: a5 :: a6 :: a7 :: a8 :: a9 :: a10 :: some (.int x) :: lr) : List OV)[11]? = some (some (.int x)) from rfl))
  exact lv_iinc (v := x + dn) hC.1 hC.2.1 hd hl.has hkk (by rw [he]) hn rfl (fun ls' hl' => k p e s m args below meth c H locs ls' A hC hr hK hP hD hS (lvO.storedP (lv := a0 :: a1 :: a2 :: a3 :: a4 :: a5 :: a6 :: a7 :: a8 :: a9 :: a10 :: some (.int x) :: lr) 10 a10 rfl rfl hp hl'))
theorem V_iload12 {a0 a1 a2 a3 a4 a5 a6 a7 a8 a9 a10 a11 : OV} {lr : List OV} {x : Int32} (hd : decode cc pc = .ok (.iload 12, 2)) (k : V ids G own cc nL ret R (pc + 2) (a0 :: a1 :: a2 :: a3 :: a4 :: a5 :: a6 :: a7 :: a8 :: a9 :: a10 :: a11 :: some (.int x) :: lr) (.int x :: st) h Q) : V ids G own cc nL ret R pc (a0 :: a1 :: a2 :: a3 :: a4 :: a5 :: a6 :: a7 :: a8 :: a9 :: a10 :: a11 :: some (.int x) :: lr) st h Q :=
  fun p e s m args below meth c H locs ls A hC hr hK hP hD hS hl => lv_iload hC.1 hC.2.1 hd (hl.2.2 12 _ rfl) (k p e s m args below meth c H locs ls A hC hr hK hP hD hS hl)
theorem V_aload12 {a0 a1 a2 a3 a4 a5 a6 a7 a8 a9 a10 a11 : OV} {lr : List OV} {x : Nat} (hd : decode cc pc = .ok (.aload 12, 2)) (k : V ids G own cc nL ret R (pc + 2) (a0 :: a1 :: a2 :: a3 :: a4 :: a5 :: a6 :: a7 :: a8 :: a9 :: a10 :: a11 :: some (.ref x) :: lr) (.ref x :: st) h Q) : V ids G own cc nL ret R pc (a0 :: a1 :: a2 :: a3 :: a4 :: a5 :: a6 :: a7 :: a8 :: a9 :: a10 :: a11 :: some (.ref x) :: lr) st h Q :=
  fun p e s m args below meth c H locs ls A hC hr hK hP hD hS hl => lv_aload hC.1 hC.2.1 hd (hl.2.2 12 _ rfl) (k p e s m args below meth c H locs ls A hC hr hK hP hD hS hl)
theorem V_istore12 {a0 a1 a2 a3 a4 a5 a6 a7 a8 a9 a10 a11 : OV} {az : OV} {lr : List OV} {x : Int32} (hd : decode cc pc = .ok (.istore 12, 2)) (hn : 12 < nL) (hp : okc a11 = true) (k : V ids G own cc nL ret R (pc + 2) (a0 :: a1 :: a2 :: a3 :: a4 :: a5 :: a6 :: a7 :: a8 :: a9 :: a10 :: a11 :: some (.int x) :: lr) st h Q) : V ids G own cc nL ret R pc (a0 :: a1 :: a2 :: a3 :: a4 :: a5 :: a6 :: a7 :: a8 :: a9 :: a10 :: a11 :: az :: lr) (.int x :: st) h Q :=
  fun p e s m args below meth c H locs ls A hC hr hK hP hD hS hl => lv_istore hC.1 hC.2.1 hd hl.has hn rfl (fun ls' hl' => k p e s m args below meth c H locs ls' A hC hr hK hP hD hS (lvO.storedP (lv := a0 :: a1 :: a2 :: a3 :: a4 :: a5 :: a6 :: a7 :: a8 :: a9 :: a10 :: a11 :: az :: lr) 11 a11 rfl rfl hp hl'))
theorem V_astore12 {a0 a1 a2 a3 a4 a5 a6 a7 a8 a9 a10 a11 : OV} {az : OV} {lr : List OV} {x : Nat} (hd : decode cc pc = .ok (.astore 12, 2)) (hn : 12 < nL) (hp : okc a11 = true) (k : V ids G own cc nL ret R (pc + 2) (a0 :: a1 :: a2 :: a3 :: a4 :: a5 :: a6 :: a7 :: a8 :: a9 :: a10 :: a11 :: some (.ref x) :: lr) st h Q) : V ids G own cc nL ret R pc (a0 :: a1 :: a2 :: a3 :: a4 :: a5 :: a6 :: a7 :: a8 :: a9 :: a10 :: a11 :: az :: lr) (.ref x :: st) h Q :=
  fun p e s m args below meth c H locs ls A hC hr hK hP hD hS hl => lv_astore hC.1 hC.2.1 hd hl.has hn rfl (fun ls' hl' => k p e s m args below meth c H locs ls' A hC hr hK hP hD hS (lvO.storedP (lv := a0 :: a1 :: a2 :: a3 :: a4 :: a5 :: a6 :: a7 :: a8 :: a9 :: a10 :: a11 :: az :: lr) 11 a11 rfl rfl hp hl'))
theorem V_iinc12 {a0 a1 a2 a3 a4 a5 a6 a7 a8 a9 a10 a11 : OV} {lr : List OV} {x : Int32} {n : Int} (dn : Int32) (hd : decode cc pc = .ok (.iinc 12 n, 3)) (he : Int32.ofInt n = dn) (hn : 12 < nL) (hp : okc a11 = true) (k : V ids G own cc nL ret R (pc + 3) (a0 :: a1 :: a2 :: a3 :: a4 :: a5 :: a6 :: a7 :: a8 :: a9 :: a10 :: a11 :: some (.int (x + dn)) :: lr) st h Q) : V ids G own cc nL ret R pc (a0 :: a1 :: a2 :: a3 :: a4 :: a5 :: a6 :: a7 :: a8 :: a9 :: a10 :: a11 :: some (.int x) :: lr) st h Q := by
  intro p e s m args below meth c H locs ls A hC hr hK hP hD hS hl
  obtain ⟨kk, hkk⟩ := List.getElem?_of_mem (assocOf_mem.mpr (show ((a0 :: a1 :: a2 :: a3 :: a4 :: a5 :: a6 :: a7 :: a8 :: a9 :: a10 :: a11 :: some (.int x) :: lr) : List OV)[12]? = some (some (.int x)) from rfl))
  exact lv_iinc (v := x + dn) hC.1 hC.2.1 hd hl.has hkk (by rw [he]) hn rfl (fun ls' hl' => k p e s m args below meth c H locs ls' A hC hr hK hP hD hS (lvO.storedP (lv := a0 :: a1 :: a2 :: a3 :: a4 :: a5 :: a6 :: a7 :: a8 :: a9 :: a10 :: a11 :: some (.int x) :: lr) 11 a11 rfl rfl hp hl'))
theorem V_ldc {index : Nat} {v : Int32} (hu : Cond.constant own index v ∈ Ug) (hd : decode cc pc = .ok (.ldc index, 2)) (k : V ids G own cc nL ret R (pc + 2) lv (.int v :: st) h Q) : V ids G own cc nL ret R pc lv st h Q :=
  fun p e s m args below meth c H locs ls A hC hr hK hP hD hS hl => lv_ldc hC.1 hC.2.1 hC.2.2.2.1 (hC.2.2.2.2 _ hu) hd (k p e s m args below meth c H locs ls A hC hr hK hP hD hS hl)
theorem V_ldc_w {index : Nat} {v : Int32} (hu : Cond.constant own index v ∈ Ug) (hd : decode cc pc = .ok (.ldc_w index, 3)) (k : V ids G own cc nL ret R (pc + 3) lv (.int v :: st) h Q) : V ids G own cc nL ret R pc lv st h Q :=
  fun p e s m args below meth c H locs ls A hC hr hK hP hD hS hl => lv_ldcw hC.1 hC.2.1 hC.2.2.2.1 (hC.2.2.2.2 _ hu) hd (k p e s m args below meth c H locs ls A hC hr hK hP hD hS hl)
theorem V_ldc2_w {index : Nat} {v : Int64} (hu : Cond.constantLong own index v ∈ Ug) (hd : decode cc pc = .ok (.ldc2_w index, 3)) (k : V ids G own cc nL ret R (pc + 3) lv (.long v :: st) h Q) : V ids G own cc nL ret R pc lv st h Q :=
  fun p e s m args below meth c H locs ls A hC hr hK hP hD hS hl => lv_ldc2 hC.1 hC.2.1 hC.2.2.2.1 (hC.2.2.2.2 _ hu) hd (k p e s m args below meth c H locs ls A hC hr hK hP hD hS hl)
theorem V_iret {v : Int32} (hd : decode cc pc = .ok (.ireturn, 1)) (hq : Q (some (.int v)) h) : V ids G own cc nL (some .int) R pc lv [.int v] h Q :=
  fun p e s m args below meth c H locs ls A hC hr hK hP hD hS hl => W.iret hC.1 hC.2.1 hr.1 (fun t ht hW => ⟨⟨_, h, rfl, hq, by rw [ht]; exact hP, hD⟩, hS.F ht⟩) hS.2.2 hd hr.2
theorem V_zret {v : Int32} (hd : decode cc pc = .ok (.ireturn, 1)) (hv : v = 0 ∨ v = 1) (hq : Q (some (.int v)) h) : V ids G own cc nL (some .boolean) R pc lv [.int v] h Q :=
  fun p e s m args below meth c H locs ls A hC hr hK hP hD hS hl => W.zret hC.1 hC.2.1 hr.1 (by rcases hv with rfl | rfl <;> decide +kernel) (fun t ht hW => ⟨⟨_, h, rfl, hq, by rw [ht]; exact hP, hD⟩, hS.F ht⟩) hS.2.2 hd hr.2
theorem V_vret (hd : decode cc pc = .ok (.return_, 1)) (hq : Q none h) : V ids G own cc nL none R pc lv [] h Q :=
  fun p e s m args below meth c H locs ls A hC hr hK hP hD hS hl => W.vret hC.1 hC.2.1 hr.1 (fun t ht hW => ⟨⟨_, h, rfl, hq, by rw [ht]; exact hP, hD⟩, hS.F ht⟩) hS.2.2 hd hr.2
theorem V.eq {h' : Mem} (e : h = h') (k : V ids G own cc nL ret R pc lv st h' Q) : V ids G own cc nL ret R pc lv st h Q := e ▸ k
end VR
end
section
section VM
variable {ids : List Nat} {G : GE} {own : String} {cc : ByteArray} {nL : Nat} {ret : Option FieldType} {R : Room} {pc : Nat} {lv : List OV} {st : List Value} {h : Mem} {Q : Option Value → Mem → Prop}
/-- a field is read; an int or a reference -/
theorem V_getG {ref C : String} {T : u_T} {N ci index : Nat} {v : Value} {fs : List Value} (c : Nat) (hm : c ∈ ids) (hin : ∀ w ∈ u_ws C T N, w ∈ Ug) (hcell : cellR G c (h c) = .inr (ci, fs)) (hc : vwCl[ci]? = some (C, T, N)) (k : Nat) (hk : k < N)
    (hlink : Cond.fieldLink own index ref (T k).2.1 (T k).2.2.1 ∈ Ug) (hs : (T k).1 = ref) (hv : fs[k]? = some v) (hd : decode cc pc = .ok (.getfield index, 3)) (kk : V ids G own cc nL ret R (pc + 3) lv (v :: st) h Q) : V ids G own cc nL ret R pc lv (.ref (ad G c) :: st) h Q := by
  intro p e s m args below meth c' H locs ls A hC hr hK hP hD hS hl
  obtain ⟨q0, hq0, hw⟩ := wsM_at (G := G) (h := h) hm
  rw [hcell] at hw
  exact va_get hC.1 hC.2.1 hC.2.2.2.2 hin hC.2.2.2.1 hK.1 hP q0 hw hc k hk (hC.2.2.2.2 _ hlink) (fun x hx => by rw [← hs]; exact hx) hv hd (kk p e s m args below meth c' H locs ls A hC hr hK hP hD hS hl)
theorem V_getN {ref C host : String} {T : u_T} {N ci index : Nat} {v : Value} {fs : List Value} (c : Nat) (hm : c ∈ ids) (hin : ∀ w ∈ u_ws C T N, w ∈ Ug) (hcell : cellR G c (h c) = .inr (ci, fs)) (hc : vwCl[ci]? = some (C, T, N)) (k : Nat) (hk : k < N)
    (hlink : Cond.fieldLinkNest own index ref (T k).2.1 (T k).2.2.1 host ∈ nestW) (hs : (T k).1 = ref) (hv : fs[k]? = some v) (hd : decode cc pc = .ok (.getfield index, 3)) (kk : V ids G own cc nL ret R (pc + 3) lv (v :: st) h Q) : V ids G own cc nL ret R pc lv (.ref (ad G c) :: st) h Q := by
  intro p e s m args below meth c' H locs ls A hC hr hK hP hD hS hl
  obtain ⟨q0, hq0, hw⟩ := wsM_at (G := G) (h := h) hm
  rw [hcell] at hw
  exact va_getN hC.1 hC.2.1 hC.2.2.2.2 hin hC.2.2.2.1 hK.1 hP q0 hw hc k hk (va_Nw.use rfl (hK.2 _ hlink)) (fun x hx => by rw [← hs]; exact hx) hv hd (kk p e s m args below meth c' H locs ls A hC hr hK hP hD hS hl)
theorem V_putG {ref C : String} {T : u_T} {N ci index : Nat} {v : Int32} {fs : List Value} (c : Nat) (hm : c ∈ ids) (hin : ∀ w ∈ u_ws C T N, w ∈ Ug) (ty0 : Nat → FieldType) (hty : ∀ k, k < N → parseFieldDescriptor (T k).2.2.1 = some (ty0 k)) (hnm : ∀ a, a < N → ∀ b, b < N → a ≠ b → (T a).2.1 ≠ (T b).2.1) (hcell : cellR G c (h c) = .inr (ci, fs)) (hc : vwCl[ci]? = some (C, T, N)) (k : Nat) (hk : k < N)
    (hlink : Cond.fieldLink own index ref (T k).2.1 (T k).2.2.1 ∈ Ug) (hs : (T k).1 = ref) (hfin : (T k).2.2.2 = false) (hi : parseFieldDescriptor (T k).2.2.1 = some .int) (hl0 : k < fs.length) (hset : (Sum.inr (ci, fs.set k (.int v)) : va_E) = cellR G c (upd (h c) k v))
    (hd : decode cc pc = .ok (.putfield index, 3)) (kk : V ids G own cc nL ret R (pc + 3) lv st (wr h c k v) Q) : V ids G own cc nL ret R pc lv (.int v :: .ref (ad G c) :: st) h Q := by
  intro p e s m args below meth c' H locs ls A hC hr hK hP hD hS hl
  obtain ⟨q0, hq0, hw⟩ := wsM_at (G := G) (h := h) hm
  rw [hcell] at hw
  refine va_put (ty := .int) hC.1 hC.2.1 hC.2.2.2.2 hin ty0 hty hnm hC.2.2.2.1 hK.1 hP hD hS q0 hw hc k hk (hC.2.2.2.2 _ hlink) (fun x hx => by rw [← hs]; exact hx) hfin hi rfl rfl hl0 hd (fun H1 locs1 hP1 hD1 hS1 => ?_)
  rw [hset, wsM_set hD hq0] at hP1 hD1
  exact kk p e s m args below meth c' H1 locs1 ls A hC hr hK hP1 hD1 hS1 hl
theorem V_putN {ref C host : String} {T : u_T} {N ci index : Nat} {v : Int32} {fs : List Value} (c : Nat) (hm : c ∈ ids) (hin : ∀ w ∈ u_ws C T N, w ∈ Ug) (ty0 : Nat → FieldType) (hty : ∀ k, k < N → parseFieldDescriptor (T k).2.2.1 = some (ty0 k)) (hnm : ∀ a, a < N → ∀ b, b < N → a ≠ b → (T a).2.1 ≠ (T b).2.1) (hcell : cellR G c (h c) = .inr (ci, fs)) (hc : vwCl[ci]? = some (C, T, N)) (k : Nat) (hk : k < N)
    (hlink : Cond.fieldLinkNest own index ref (T k).2.1 (T k).2.2.1 host ∈ nestW) (hs : (T k).1 = ref) (hfin : (T k).2.2.2 = false) (hi : parseFieldDescriptor (T k).2.2.1 = some .int) (hl0 : k < fs.length) (hset : (Sum.inr (ci, fs.set k (.int v)) : va_E) = cellR G c (upd (h c) k v))
    (hd : decode cc pc = .ok (.putfield index, 3)) (kk : V ids G own cc nL ret R (pc + 3) lv st (wr h c k v) Q) : V ids G own cc nL ret R pc lv (.int v :: .ref (ad G c) :: st) h Q := by
  intro p e s m args below meth c' H locs ls A hC hr hK hP hD hS hl
  obtain ⟨q0, hq0, hw⟩ := wsM_at (G := G) (h := h) hm
  rw [hcell] at hw
  refine va_putN (ty := .int) hC.1 hC.2.1 hC.2.2.2.2 hin ty0 hty hnm hC.2.2.2.1 hK.1 hP hD hS q0 hw hc k hk (va_Nw.use rfl (hK.2 _ hlink)) (fun x hx => by rw [← hs]; exact hx) hfin hi rfl rfl hl0 hd (fun H1 locs1 hP1 hD1 hS1 => ?_)
  rw [hset, wsM_set hD hq0] at hP1 hD1
  exact kk p e s m args below meth c' H1 locs1 ls A hC hr hK hP1 hD1 hS1 hl
theorem tys_0 (G : GE) : (tysG G)[0]? = some (G.2.2.1 0, .int) := rfl
theorem tys_1 (G : GE) : (tysG G)[1]? = some (G.2.2.1 1, .boolean) := rfl
theorem tys_2 (G : GE) : (tysG G)[2]? = some (G.2.2.1 2, .object "LineBundles$Line") := rfl
theorem tys_3 (G : GE) : (tysG G)[3]? = some (G.2.2.1 3, .object "LineBundles$Sheet") := rfl
/-- a cell is a row of n ints (of n booleans) -/
def isI (c n : Nat) : Prop := ∀ (G : GE) (r : Nat → Int32), cellR G c r = .inl (G.2.2.1 0, n, .inl r)
def isZ (c n : Nat) : Prop := ∀ (G : GE) (r : Nat → Int32), cellR G c r = .inl (G.2.2.1 1, n, .inl r)
theorem V_iaload {c n j : Nat} {i : Int32} (hm : c ∈ ids) (hI : isI c n) (hn : n < 2 ^ 31) (hi : i = nI j) (hj : j < n) (hd : decode cc pc = .ok (.iaload, 1)) (kk : V ids G own cc nL ret R (pc + 1) lv (.int (h c j) :: st) h Q) : V ids G own cc nL ret R pc lv (.int i :: .ref (ad G c) :: st) h Q := by
  intro p e s m args below meth c' H locs ls A hC hr hK hP hD hS hl
  obtain ⟨q0, hq0, hw⟩ := wsM_at (G := G) (h := h) hm
  rw [hI] at hw
  subst hi
  refine va_iald hC.1 hC.2.1 hK.1 hP q0 0 hw (tys_0 G) (vp_in_nI hj hn) hd ?_
  rw [nI_clamp (by omega)]
  exact kk p e s m args below meth c' H locs ls A hC hr hK hP hD hS hl
theorem V_baload {c n j : Nat} {i : Int32} (hm : c ∈ ids) (hI : isZ c n) (hn : n < 2 ^ 31) (hi : i = nI j) (hj : j < n) (hd : decode cc pc = .ok (.baload, 1)) (kk : V ids G own cc nL ret R (pc + 1) lv (.int (h c j) :: st) h Q) : V ids G own cc nL ret R pc lv (.int i :: .ref (ad G c) :: st) h Q := by
  intro p e s m args below meth c' H locs ls A hC hr hK hP hD hS hl
  obtain ⟨q0, hq0, hw⟩ := wsM_at (G := G) (h := h) hm
  rw [hI] at hw
  subst hi
  refine va_zald hC.1 hC.2.1 hK.1 hP q0 1 hw (tys_1 G) (vp_in_nI hj hn) hd ?_
  rw [nI_clamp (by omega)]
  exact kk p e s m args below meth c' H locs ls A hC hr hK hP hD hS hl
theorem V_iastore {c n j : Nat} {i x : Int32} (hm : c ∈ ids) (hI : isI c n) (hn : n < 2 ^ 31) (hi : i = nI j) (hj : j < n) (hd : decode cc pc = .ok (.iastore, 1)) (kk : V ids G own cc nL ret R (pc + 1) lv st (wr h c j x) Q) : V ids G own cc nL ret R pc lv (.int x :: .int i :: .ref (ad G c) :: st) h Q := by
  intro p e s m args below meth c' H locs ls A hC hr hK hP hD hS hl
  obtain ⟨q0, hq0, hw⟩ := wsM_at (G := G) (h := h) hm
  rw [hI] at hw
  subst hi
  refine va_iast hC.1 hC.2.1 hK.1 hP hD hS q0 0 hw (tys_0 G) (vp_in_nI hj hn) hd (fun H1 locs1 hP1 hD1 hS1 => ?_)
  rw [nI_clamp (by omega), ← hI G (upd (h c) j x), wsM_set hD hq0] at hP1 hD1
  exact kk p e s m args below meth c' H1 locs1 ls A hC hr hK hP1 hD1 hS1 hl
theorem V_bastore {c n j : Nat} {i x : Int32} (hm : c ∈ ids) (hI : isZ c n) (hn : n < 2 ^ 31) (hi : i = nI j) (hj : j < n) (hx : x = 0 ∨ x = 1) (hd : decode cc pc = .ok (.bastore, 1)) (kk : V ids G own cc nL ret R (pc + 1) lv st (wr h c j x) Q) : V ids G own cc nL ret R pc lv (.int x :: .int i :: .ref (ad G c) :: st) h Q := by
  intro p e s m args below meth c' H locs ls A hC hr hK hP hD hS hl
  obtain ⟨q0, hq0, hw⟩ := wsM_at (G := G) (h := h) hm
  rw [hI] at hw
  subst hi
  have hx2 : vp_nar .boolean x = x := by rcases hx with rfl | rfl <;> decide +kernel
  refine va_zast hC.1 hC.2.1 hK.1 hP hD hS q0 1 hw (tys_1 G) (vp_in_nI hj hn) hd (fun H1 locs1 hP1 hD1 hS1 => ?_)
  rw [nI_clamp (by omega), hx2, ← hI G (upd (h c) j x), wsM_set hD hq0] at hP1 hD1
  exact kk p e s m args below meth c' H1 locs1 ls A hC hr hK hP1 hD1 hS1 hl
theorem V_aaloadS {j : Nat} {i : Int32} (hm : 1 ∈ ids) (hi : i = nI j) (hj : j < 8) (hd : decode cc pc = .ok (.aaload, 1)) (kk : V ids G own cc nL ret R (pc + 1) lv (.ref (ad G (20 + j)) :: st) h Q) : V ids G own cc nL ret R pc lv (.int i :: .ref (ad G 1) :: st) h Q := by
  intro p e s m args below meth c' H locs ls A hC hr hK hP hD hS hl
  obtain ⟨q0, hq0, hw⟩ := wsM_at (G := G) (h := h) hm
  subst hi
  refine va_aldq hC.1 hC.2.1 hK.1 hP q0 3 hw (tys_3 G) (vp_in_nI hj (by decide)) hd ?_
  rw [nI_clamp (by omega)]
  exact kk p e s m args below meth c' H locs ls A hC hr hK hP hD hS hl
theorem V_aaloadL {j : Nat} {i : Int32} (hm : 3 ∈ ids) (hi : i = nI j) (hj : j < 12) (hd : decode cc pc = .ok (.aaload, 1)) (kk : V ids G own cc nL ret R (pc + 1) lv (.ref (ad G (40 + j)) :: st) h Q) : V ids G own cc nL ret R pc lv (.int i :: .ref (ad G 3) :: st) h Q := by
  intro p e s m args below meth c' H locs ls A hC hr hK hP hD hS hl
  obtain ⟨q0, hq0, hw⟩ := wsM_at (G := G) (h := h) hm
  subst hi
  refine va_aldq hC.1 hC.2.1 hK.1 hP q0 2 hw (tys_2 G) (vp_in_nI hj (by decide)) hd ?_
  rw [nI_clamp (by omega)]
  exact kk p e s m args below meth c' H locs ls A hC hr hK hP hD hS hl
/-- System.arraycopy between int rows -/
theorem V_acopy {index c0 c1 n0 n1 sj dj nj : Nat} {sp dp n : Int32} (hlink : Cond.methodLink own index arraycopyName ∈ Ug) (hnat : Cond.native arraycopyName ∈ Ug) (hstat : Cond.static arraycopyName ∈ Ug) (hini : Cond.initialized "java/lang/System" ∈ Ug) (hm0 : c0 ∈ ids) (hm1 : c1 ∈ ids) (hI0 : isI c0 n0) (hI1 : isI c1 n1) (hn0 : n0 < 2 ^ 31) (hn1 : n1 < 2 ^ 31)
    (es : sp = nI sj) (ed : dp = nI dj) (en : n = nI nj) (h4 : sj + nj ≤ n0) (h5 : dj + nj ≤ n1) (hf : 1 ≤ R.frames) (hlo : (st.map fun v => v.category).sum + (nativeFrameWords "java/lang/System" "arraycopy" 5 + 11) ≤ R.locals) (hd : decode cc pc = .ok (.invokestatic index, 3))
    (kk : V ids G own cc nL ret R (pc + 3) lv st (va_up h c1 (va_cpy (h c0) (h c1) sj dj nj)) Q) : V ids G own cc nL ret R pc lv (.int n :: .int dp :: .ref (ad G c1) :: .int sp :: .ref (ad G c0) :: st) h Q := by
  intro p e s m args below meth c' H locs ls A hC hr hK hP hD hS hl
  obtain ⟨q0, hq0, hw0⟩ := wsM_at (G := G) (h := h) hm0
  obtain ⟨q1, hq1, hw1⟩ := wsM_at (G := G) (h := h) hm1
  rw [hI0] at hw0
  rw [hI1] at hw1
  subst es; subst ed; subst en
  have a1 : sj < 2 ^ 31 := by omega
  have a2 : dj < 2 ^ 31 := by omega
  have a3 : nj < 2 ^ 31 := by omega
  refine va_copyi (ty := .int) hC.1 hC.2.1 (hC.2.2.1.trans hl.1.symm) hC.2.2.2.1 (hC.2.2.2.2 _ hlink) (hC.2.2.2.2 _ hnat) (hC.2.2.2.2 _ hstat) (hC.2.2.2.2 _ hini) hK.1 hP hD hS q0 q1 0 0 hw0 hw1 (tys_0 G) (tys_0 G) rfl (nI_pos a1) (nI_pos a2) (nI_pos a3) (by rw [nI_clamp a1, nI_clamp a3]; exact h4) (by rw [nI_clamp a2, nI_clamp a3]; exact h5) (fun _ _ => rfl) hf hlo hd (fun H1 locs1 hP1 hD1 hS1 => ?_)
  rw [nI_clamp a1, nI_clamp a2, nI_clamp a3, ← hI1 G (va_cpy (h c0) (h c1) sj dj nj), wsM_set hD hq1] at hP1 hD1
  exact kk p e s m args below meth c' H1 locs1 ls A hC hr hK hP1 hD1 hS1 hl
theorem V_mmax {index : Nat} {x y : Int32} (hlink : Cond.methodLink own index Lib.Math.max.name ∈ Ug) (hstat : Cond.static Lib.Math.max.name ∈ Ug) (hini : Cond.initialized "java/lang/Math" ∈ Ug) (hcode : Cond.code Lib.Math.max.name Lib.Math.max.code 2 (some .int) ∈ Ug) (hf : 1 ≤ R.frames) (hlo : (st.map fun v => v.category).sum + 13 ≤ R.locals) (hd : decode cc pc = .ok (.invokestatic index, 3))
    (kk : V ids G own cc nL ret R (pc + 3) lv (.int (if x < y then y else x) :: st) h Q) : V ids G own cc nL ret R pc lv (.int y :: .int x :: st) h Q :=
  fun p e s m args below meth c H locs ls A hC hr hK hP hD hS hl => va_mmax hC.1 hC.2.1 (hC.2.2.1.trans hl.1.symm) hC.2.2.2.1 (hC.2.2.2.2 _ hlink) (hC.2.2.2.2 _ hstat) (hC.2.2.2.2 _ hini) (hC.2.2.2.2 _ hcode) hf hlo (Nat.zero_le _) (Nat.zero_le _) hd (kk p e s m args below meth c H locs ls A hC hr hK hP hD hS hl)
theorem V_mmin {index : Nat} {x y : Int32} (hlink : Cond.methodLink own index Lib.Math.min.name ∈ Ug) (hstat : Cond.static Lib.Math.min.name ∈ Ug) (hini : Cond.initialized "java/lang/Math" ∈ Ug) (hcode : Cond.code Lib.Math.min.name Lib.Math.min.code 2 (some .int) ∈ Ug) (hf : 1 ≤ R.frames) (hlo : (st.map fun v => v.category).sum + 13 ≤ R.locals) (hd : decode cc pc = .ok (.invokestatic index, 3))
    (kk : V ids G own cc nL ret R (pc + 3) lv (.int (if y < x then y else x) :: st) h Q) : V ids G own cc nL ret R pc lv (.int y :: .int x :: st) h Q :=
  fun p e s m args below meth c H locs ls A hC hr hK hP hD hS hl => va_mmin hC.1 hC.2.1 (hC.2.2.1.trans hl.1.symm) hC.2.2.2.1 (hC.2.2.2.2 _ hlink) (hC.2.2.2.2 _ hstat) (hC.2.2.2.2 _ hini) (hC.2.2.2.2 _ hcode) hf hlo (Nat.zero_le _) (Nat.zero_le _) hd (kk p e s m args below meth c H locs ls A hC hr hK hP hD hS hl)
theorem V_mabs {index : Nat} {x : Int32} (hlink : Cond.methodLink own index Lib.Math.abs.name ∈ Ug) (hstat : Cond.static Lib.Math.abs.name ∈ Ug) (hini : Cond.initialized "java/lang/Math" ∈ Ug) (hcode : Cond.code Lib.Math.abs.name Lib.Math.abs.code 1 (some .int) ∈ Ug) (hf : 1 ≤ R.frames) (hlo : (st.map fun v => v.category).sum + 13 ≤ R.locals) (hd : decode cc pc = .ok (.invokestatic index, 3))
    (kk : V ids G own cc nL ret R (pc + 3) lv (.int (if 0 ≤ x then x else 0 - x) :: st) h Q) : V ids G own cc nL ret R pc lv (.int x :: st) h Q :=
  fun p e s m args below meth c H locs ls A hC hr hK hP hD hS hl => va_mabs hC.1 hC.2.1 (hC.2.2.1.trans hl.1.symm) hC.2.2.2.1 (hC.2.2.2.2 _ hlink) (hC.2.2.2.2 _ hstat) (hC.2.2.2.2 _ hini) (hC.2.2.2.2 _ hcode) hf hlo (Nat.zero_le _) (Nat.zero_le _) hd (kk p e s m args below meth c H locs ls A hC hr hK hP hD hS hl)
/-! calls -/
def mOK (y : MethodName) (n : Nat) : Prop := y.cls ≠ "java/lang/invoke/MethodHandle" ∧ y.cls ≠ "java/lang/invoke/VarHandle" ∧ (parseMethodDescriptor y.desc).map (fun d => d.parameters.length) = some n
def rOK (R R' : Room) (nL' : Nat) : Prop := R'.cells = 0 ∧ R'.slots = 0 ∧ R'.frames + 1 ≤ R.frames ∧ 8 + (nL' + 11) + R'.locals ≤ R.locals
def rmD (d : Nat) : Room := { frames := d, cells := 0, slots := 0, locals := 40 * d }
theorem rOK_d {d d' n : Nat} (h : d' < d) (hn : n ≤ 21) : rOK (rmD d) (rmD d') n := ⟨rfl, rfl, h, by show 8 + (n + 11) + 40 * d' ≤ 40 * d; omega⟩
theorem good_code {y : MethodName} {c2 : ByteArray} {n2 : Nat} {r2 : Option FieldType} (hcode : Cond.code y c2 n2 r2 ∈ Ug) : GoodIn Ug (Cond.code y c2 n2 r2 :: Ug) := by
  intro w hw
  rcases List.mem_cons.mp hw with rfl | hw
  · exact ug_good _ hcode
  · exact ug_good _ hw
theorem Pc_blind {G : GE} {h : Mem} {av : List Value} {A : Nat → Prop} : FrameBlind (va_Pc av (fun U => va_P G.2.1 vwCl (wsM ids G h) U.heap ∧ HK G U ∧ va_D A (wsM ids G h))) := by
  intro a U g mk q
  obtain ⟨q0, qP, ⟨qK, qN⟩, qD⟩ := q
  exact ⟨q0, qP, ⟨va_K.moved (u := U) (U := U.calling g mk a) (Vm.Alike.refl U.vm) qK, NL.same (s := U) (U := U.calling g mk a) rfl qN⟩, qD⟩
theorem V_run {p : Program} {e : Env} {s : State} {m : MethodId} {args : Array Value} {below : List Frame} {meth : Method} {c : Code} {H : Heap} {locs : List Loc} {ls : Array Slot} {A : Nat → Prop} {rest : List Value} {Qc : Option Value → Mem → Prop} {av : Array Value}
    (hC : CallFix p m c cc nL s args Ug own) (hr : meth.sig.returnType = ret ∧ meth.locks = false) (hK : HK G s) (hS : va_S A s.heap H locs) (hl : lvO ls nL lv)
    (run : va_Run p G.1 e R s m args below meth c H locs 0 0 0 0 (F0 m pc ls st) rest (Qx ids G Qc A av) A) (k : ∀ v h', Qc v h' → V ids G own cc nL ret R (pc + 3) lv (v.toList ++ rest) h' Q) :
    W p G.1 e R s m args below meth c H locs 0 0 (MQ below (Qx ids G Q A) args s 0 0 A) (F0 m pc ls st) := by
  intro T hT X
  obtain ⟨v, st₀, t, T', L, h0, X', hL, e1, e2, ⟨⟨v', h', hv, hq, hP1, hD1⟩, hz, hk⟩, stp⟩ := run T hT X
  cases hv
  rw [h0] at hz hk
  obtain ⟨t2, a1, b1⟩ := k v h' hq p e s m args below meth c T'.heap (locs ++ L) ls A hC hr hK (by rw [e1]; exact hP1) hD1
    ⟨Nat.le_trans hS.1 (by rw [e1]; exact hz), fun q h1 h2 => by rw [e1, hk q (Nat.lt_of_lt_of_le h1 hS.1) h2]; exact hS.2.1 q h1 h2, fun q hq => by
      rcases List.mem_append.mp hq with h | h
      · exact hS.2.2 q h
      · exact hL q h⟩ hl T' rfl X'
  exact ⟨t2, stp t2 a1, b1⟩
theorem V_callS {y : MethodName} {c2 : ByteArray} {n2 : Nat} {r2 : Option FieldType} {R2 : Room} {av : List Value} {Qc : Option Value → Mem → Prop} {index : Nat} {rest : List Value} (hM : Ct ids G y c2 n2 r2 R2 av h Qc) (hlink : Cond.methodLink own index y ∈ Ug) (hst : Cond.static y ∈ Ug) (hini : Cond.initialized y.cls ∈ Ug) (hcode : Cond.code y c2 n2 r2 ∈ Ug) (ho : mOK y av.length) (hR : rOK R R2 n2)
    (hs : st = av.reverse ++ rest) (hw : (rest.map fun v => v.category).sum ≤ 8) (hd : decode cc pc = .ok (.invokestatic index, 3)) (k : ∀ v h', Qc v h' → V ids G own cc nL ret R (pc + 3) lv (v.toList ++ rest) h' Q) : V ids G own cc nL ret R pc lv st h Q := by
  intro p e s m args below meth c H locs ls A hC hr hK hP hD hS hl
  refine V_run (ls := ls) hC hr hK hS hl (va_runS (As := av) (rest := rest) hC (hM A) ⟨callB_of av.length hC.2.2.2.2 (good_code hcode) rfl hR.1 hR.2.1 (hC.2.2.2.2 _ hini) (hC.2.2.2.2 _ hlink) ho hR.2.2, hC.2.2.2.2 _ hst⟩ ⟨Pc_blind, fun U hU hW => ⟨rfl, by rw [hU]; exact hP, ⟨va_K.moved hW.alike hK.1, hK.2.warm hW⟩, hD⟩⟩ rfl rfl hl.1 hs (by show 2 * 0 + _ ≤ 8; omega) hd ⟨Nat.zero_le _, Nat.zero_le _⟩) k
theorem V_callSN {y : MethodName} {c2 : ByteArray} {n2 : Nat} {r2 : Option FieldType} {R2 : Room} {av : List Value} {Qc : Option Value → Mem → Prop} {index : Nat} {rest : List Value} {host : String} (hM : Ct ids G y c2 n2 r2 R2 av h Qc) (hlink : Cond.methodLinkNest own index y host ∈ nestW) (hst : Cond.static y ∈ Ug) (hini : Cond.initialized y.cls ∈ Ug) (hcode : Cond.code y c2 n2 r2 ∈ Ug) (ho : mOK y av.length) (hR : rOK R R2 n2)
    (hs : st = av.reverse ++ rest) (hw : (rest.map fun v => v.category).sum ≤ 8) (hd : decode cc pc = .ok (.invokestatic index, 3)) (k : ∀ v h', Qc v h' → V ids G own cc nL ret R (pc + 3) lv (v.toList ++ rest) h' Q) : V ids G own cc nL ret R pc lv st h Q := by
  intro p e s m args below meth c H locs ls A hC hr hK hP hD hS hl
  refine V_run (ls := ls) hC hr hK hS hl (va_runSN (As := av) (rest := rest) hC (hM A) ⟨va_cnB av.length hC.2.2.2.2 (good_code hcode) rfl hR.1 hR.2.1 (hK.2 _ hlink) (hC.2.2.2.2 _ hini) ho hR.2.2, hC.2.2.2.2 _ hst, trivial⟩ ⟨Pc_blind, fun U hU hW => ⟨rfl, by rw [hU]; exact hP, ⟨va_K.moved hW.alike hK.1, hK.2.warm hW⟩, hD⟩⟩ rfl rfl hl.1 hs (by show 2 * 0 + _ ≤ 8; omega) hd ⟨Nat.zero_le _, Nat.zero_le _⟩) k
theorem V_callV {y : MethodName} {C : String} {c2 : ByteArray} {n2 : Nat} {r2 : Option FieldType} {R2 : Room} {av : List Value} {Qc : Option Value → Mem → Prop} {index : Nat} {rest : List Value} {b ci : Nat} {fs : List Value} {T : u_T} {N : Nat} (hM : Ct ids G y c2 n2 r2 R2 (.ref (ad G b) :: av) h Qc) (hlink : Cond.methodLink own index y ∈ Ug) (hin : Cond.instanceMethod y ∈ Ug) (hsel : Cond.selects C y y ∈ Ug) (hini : Cond.initialized y.cls ∈ Ug) (hcode : Cond.code y c2 n2 r2 ∈ Ug) (ho : mOK y av.length) (hR : rOK R R2 n2)
    (hm : b ∈ ids) (hcell : cellR G b (h b) = .inr (ci, fs)) (hc : vwCl[ci]? = some (C, T, N))
    (hs : st = av.reverse ++ .ref (ad G b) :: rest) (hw : (rest.map fun v => v.category).sum ≤ 8) (hd : decode cc pc = .ok (.invokevirtual index, 3)) (k : ∀ v h', Qc v h' → V ids G own cc nL ret R (pc + 3) lv (v.toList ++ rest) h' Q) : V ids G own cc nL ret R pc lv st h Q := by
  intro p e s m args below meth c H locs ls A hC hr hK hP hD hS hl
  obtain ⟨q0, hq0, hwb⟩ := wsM_at (G := G) (h := h) hm
  rw [hcell] at hwb
  refine V_run (ls := ls) hC hr hK hS hl (va_runV (C := C) (As := av) (rest := rest) hC (hM A) ⟨callB_of av.length hC.2.2.2.2 (good_code hcode) rfl hR.1 hR.2.1 (hC.2.2.2.2 _ hini) (hC.2.2.2.2 _ hlink) ho hR.2.2, hC.2.2.2.2 _ hin, hC.2.2.2.2 _ hsel⟩ ⟨Pc_blind, va_recv hK.1 hP hc hwb, fun U hU hW => ⟨rfl, by rw [hU]; exact hP, ⟨va_K.moved hW.alike hK.1, hK.2.warm hW⟩, hD⟩⟩ rfl rfl hl.1 hs (by show 2 * 0 + _ ≤ 8; omega) hd ⟨Nat.zero_le _, Nat.zero_le _⟩) k
end VM
end
section
/-! rows over numbers nI n, and over truths bz P -/
def bz (P : Prop) [Decidable P] : Int32 := if P then 1 else 0
theorem bz_t {P : Prop} [Decidable P] (h : P) : bz P = 1 := if_pos h
theorem bz_f {P : Prop} [Decidable P] (h : ¬ P) : bz P = 0 := if_neg h
theorem bz_0 {P : Prop} [Decidable P] : bz P = 0 ↔ ¬ P := by
  unfold bz; split <;> simp [*]
theorem bz_n0 {P : Prop} [Decidable P] : ¬ bz P = 0 ↔ P := by
  unfold bz; split <;> simp [*]
theorem bz_01 {P : Prop} [Decidable P] : bz P = 0 ∨ bz P = 1 := by
  unfold bz; split <;> simp
theorem bz_c {P P' : Prop} [Decidable P] [Decidable P'] (h : P ↔ P') : bz P = bz P' := by
  unfold bz; simp [h]
def Qi (P : Int32 → Mem → Prop) : Option Value → Mem → Prop := fun v h => ∃ r : Int32, v = some (.int r) ∧ P r h
def Qv (P : Mem → Prop) : Option Value → Mem → Prop := fun v h => v = none ∧ P h
section VN
variable {ids : List Nat} {G : GE} {own : String} {cc : ByteArray} {nL : Nat} {ret : Option FieldType} {R : Room} {pc : Nat} {lv : List OV} {st : List Value} {h : Mem} {Q : Option Value → Mem → Prop}
theorem V_iadd_n {a b : Nat} (hd : decode cc pc = .ok (.iadd, 1)) (k : V ids G own cc nL ret R (pc + 1) lv (.int (nI (a + b)) :: st) h Q) : V ids G own cc nL ret R pc lv (.int (nI b) :: .int (nI a) :: st) h Q := V_iadd hd (by rw [nI_add]; exact k)
theorem V_imul_n {a b : Nat} (hd : decode cc pc = .ok (.imul, 1)) (k : V ids G own cc nL ret R (pc + 1) lv (.int (nI (a * b)) :: st) h Q) : V ids G own cc nL ret R pc lv (.int (nI b) :: .int (nI a) :: st) h Q := V_imul hd (by rw [pk_mul]; exact k)
theorem V_isub_n {a b : Nat} (hd : decode cc pc = .ok (.isub, 1)) (hab : b ≤ a) (k : V ids G own cc nL ret R (pc + 1) lv (.int (nI (a - b)) :: st) h Q) : V ids G own cc nL ret R pc lv (.int (nI b) :: .int (nI a) :: st) h Q := V_isub hd (by rw [pk_sub hab]; exact k)
theorem V_idiv_n {a b : Nat} (hd : decode cc pc = .ok (.idiv, 1)) (ha : a < 2 ^ 31) (hb0 : 0 < b) (hb : b < 2 ^ 31) (k : V ids G own cc nL ret R (pc + 1) lv (.int (nI (a / b)) :: st) h Q) : V ids G own cc nL ret R pc lv (.int (nI b) :: .int (nI a) :: st) h Q := V_idiv hd (nI_ne0 hb0 hb) (by rw [pk_div ha hb0 hb]; exact k)
theorem V_irem_n {a b : Nat} (hd : decode cc pc = .ok (.irem, 1)) (ha : a < 2 ^ 31) (hb0 : 0 < b) (hb : b < 2 ^ 31) (k : V ids G own cc nL ret R (pc + 1) lv (.int (nI (a % b)) :: st) h Q) : V ids G own cc nL ret R pc lv (.int (nI b) :: .int (nI a) :: st) h Q := V_irem hd (nI_ne0 hb0 hb) (by rw [pk_rem ha hb0 hb]; exact k)
theorem V_icmp_eq_n {a b : Nat} {off : Int} (tgt : Nat) (hd : decode cc pc = .ok (.if_icmp .eq off, 3)) (ht : (pc : Int) + off = (tgt : Int)) (ha : a < 2 ^ 31) (hb : b < 2 ^ 31) (kt : a = b → V ids G own cc nL ret R tgt lv st h Q) (kf : ¬ a = b → V ids G own cc nL ret R (pc + 3) lv st h Q) : V ids G own cc nL ret R pc lv (.int (nI b) :: .int (nI a) :: st) h Q := V_icmp_eq tgt hd ht (fun c => kt ((nI_eq ha hb).mp c)) (fun c => kf (fun e => c ((nI_eq ha hb).mpr e)))
theorem V_icmp_ne_n {a b : Nat} {off : Int} (tgt : Nat) (hd : decode cc pc = .ok (.if_icmp .ne off, 3)) (ht : (pc : Int) + off = (tgt : Int)) (ha : a < 2 ^ 31) (hb : b < 2 ^ 31) (kt : ¬ a = b → V ids G own cc nL ret R tgt lv st h Q) (kf : a = b → V ids G own cc nL ret R (pc + 3) lv st h Q) : V ids G own cc nL ret R pc lv (.int (nI b) :: .int (nI a) :: st) h Q := V_icmp_ne tgt hd ht (fun c => kt (fun e => c ((nI_eq ha hb).mpr e))) (fun c => kf ((nI_eq ha hb).mp c))
theorem V_icmp_lt_n {a b : Nat} {off : Int} (tgt : Nat) (hd : decode cc pc = .ok (.if_icmp .lt off, 3)) (ht : (pc : Int) + off = (tgt : Int)) (ha : a < 2 ^ 31) (hb : b < 2 ^ 31) (kt : a < b → V ids G own cc nL ret R tgt lv st h Q) (kf : ¬ a < b → V ids G own cc nL ret R (pc + 3) lv st h Q) : V ids G own cc nL ret R pc lv (.int (nI b) :: .int (nI a) :: st) h Q := V_icmp_lt tgt hd ht (fun c => kt ((nI_ltI ha hb).mp c)) (fun c => kf (fun e => c ((nI_ltI ha hb).mpr e)))
theorem V_icmp_ge_n {a b : Nat} {off : Int} (tgt : Nat) (hd : decode cc pc = .ok (.if_icmp .ge off, 3)) (ht : (pc : Int) + off = (tgt : Int)) (ha : a < 2 ^ 31) (hb : b < 2 ^ 31) (kt : b ≤ a → V ids G own cc nL ret R tgt lv st h Q) (kf : ¬ b ≤ a → V ids G own cc nL ret R (pc + 3) lv st h Q) : V ids G own cc nL ret R pc lv (.int (nI b) :: .int (nI a) :: st) h Q := V_icmp_ge tgt hd ht (fun c => kt ((nI_leI hb ha).mp c)) (fun c => kf (fun e => c ((nI_leI hb ha).mpr e)))
theorem V_icmp_gt_n {a b : Nat} {off : Int} (tgt : Nat) (hd : decode cc pc = .ok (.if_icmp .gt off, 3)) (ht : (pc : Int) + off = (tgt : Int)) (ha : a < 2 ^ 31) (hb : b < 2 ^ 31) (kt : b < a → V ids G own cc nL ret R tgt lv st h Q) (kf : ¬ b < a → V ids G own cc nL ret R (pc + 3) lv st h Q) : V ids G own cc nL ret R pc lv (.int (nI b) :: .int (nI a) :: st) h Q := V_icmp_gt tgt hd ht (fun c => kt ((nI_ltI hb ha).mp c)) (fun c => kf (fun e => c ((nI_ltI hb ha).mpr e)))
theorem V_icmp_le_n {a b : Nat} {off : Int} (tgt : Nat) (hd : decode cc pc = .ok (.if_icmp .le off, 3)) (ht : (pc : Int) + off = (tgt : Int)) (ha : a < 2 ^ 31) (hb : b < 2 ^ 31) (kt : a ≤ b → V ids G own cc nL ret R tgt lv st h Q) (kf : ¬ a ≤ b → V ids G own cc nL ret R (pc + 3) lv st h Q) : V ids G own cc nL ret R pc lv (.int (nI b) :: .int (nI a) :: st) h Q := V_icmp_le tgt hd ht (fun c => kt ((nI_leI ha hb).mp c)) (fun c => kf (fun e => c ((nI_leI ha hb).mpr e)))
theorem V_if_eq_n {a : Nat} {off : Int} (tgt : Nat) (hd : decode cc pc = .ok (.ifCond .eq off, 3)) (ht : (pc : Int) + off = (tgt : Int)) (ha : a < 2 ^ 31) (kt : a = 0 → V ids G own cc nL ret R tgt lv st h Q) (kf : ¬ a = 0 → V ids G own cc nL ret R (pc + 3) lv st h Q) : V ids G own cc nL ret R pc lv (.int (nI a) :: st) h Q := V_if_eq tgt hd ht (fun c => kt (Classical.byContradiction fun e => nI_ne0 (Nat.pos_of_ne_zero e) ha c)) (fun c => kf (fun e => c (by rw [e]; exact nI_0)))
theorem V_if_ne_n {a : Nat} {off : Int} (tgt : Nat) (hd : decode cc pc = .ok (.ifCond .ne off, 3)) (ht : (pc : Int) + off = (tgt : Int)) (ha : a < 2 ^ 31) (kt : ¬ a = 0 → V ids G own cc nL ret R tgt lv st h Q) (kf : a = 0 → V ids G own cc nL ret R (pc + 3) lv st h Q) : V ids G own cc nL ret R pc lv (.int (nI a) :: st) h Q := V_if_ne tgt hd ht (fun c => kt (fun e => c (by rw [e]; exact nI_0))) (fun c => kf (Classical.byContradiction fun e => nI_ne0 (Nat.pos_of_ne_zero e) ha c))
theorem V_if_lt_n {a : Nat} {off : Int} (tgt : Nat) (hd : decode cc pc = .ok (.ifCond .lt off, 3)) (ht : (pc : Int) + off = (tgt : Int)) (ha : a < 2 ^ 31) (kt : False → V ids G own cc nL ret R tgt lv st h Q) (kf : True → V ids G own cc nL ret R (pc + 3) lv st h Q) : V ids G own cc nL ret R pc lv (.int (nI a) :: st) h Q := V_if_lt tgt hd ht (fun c => absurd c (nI_pos ha)) (fun _ => kf trivial)
theorem V_if_ge_n {a : Nat} {off : Int} (tgt : Nat) (hd : decode cc pc = .ok (.ifCond .ge off, 3)) (ht : (pc : Int) + off = (tgt : Int)) (ha : a < 2 ^ 31) (kt : True → V ids G own cc nL ret R tgt lv st h Q) (kf : False → V ids G own cc nL ret R (pc + 3) lv st h Q) : V ids G own cc nL ret R pc lv (.int (nI a) :: st) h Q := V_if_ge tgt hd ht (fun _ => kt trivial) (fun c => absurd (nI_pos' ha) c)
theorem V_if_gt_n {a : Nat} {off : Int} (tgt : Nat) (hd : decode cc pc = .ok (.ifCond .gt off, 3)) (ht : (pc : Int) + off = (tgt : Int)) (ha : a < 2 ^ 31) (kt : 0 < a → V ids G own cc nL ret R tgt lv st h Q) (kf : ¬ 0 < a → V ids G own cc nL ret R (pc + 3) lv st h Q) : V ids G own cc nL ret R pc lv (.int (nI a) :: st) h Q := V_if_gt tgt hd ht (fun c => kt (Classical.byContradiction fun e => absurd c (by rw [show a = 0 from by omega]; decide))) (fun c => kf (fun e => c (by rw [← nI_0]; exact nI_lt e ha)))
theorem V_if_le_n {a : Nat} {off : Int} (tgt : Nat) (hd : decode cc pc = .ok (.ifCond .le off, 3)) (ht : (pc : Int) + off = (tgt : Int)) (ha : a < 2 ^ 31) (kt : a = 0 → V ids G own cc nL ret R tgt lv st h Q) (kf : ¬ a = 0 → V ids G own cc nL ret R (pc + 3) lv st h Q) : V ids G own cc nL ret R pc lv (.int (nI a) :: st) h Q := V_if_le tgt hd ht (fun c => kt (Classical.byContradiction fun e => nI_nle (Nat.pos_of_ne_zero e) ha c)) (fun c => kf (fun e => c (by rw [e]; decide)))
theorem V_if_eq_z {P : Prop} [Decidable P] {off : Int} (tgt : Nat) (hd : decode cc pc = .ok (.ifCond .eq off, 3)) (ht : (pc : Int) + off = (tgt : Int)) (kt : ¬ P → V ids G own cc nL ret R tgt lv st h Q) (kf : P → V ids G own cc nL ret R (pc + 3) lv st h Q) : V ids G own cc nL ret R pc lv (.int (bz P) :: st) h Q := V_if_eq tgt hd ht (fun c => kt (bz_0.mp c)) (fun c => kf (bz_n0.mp c))
theorem V_if_ne_z {P : Prop} [Decidable P] {off : Int} (tgt : Nat) (hd : decode cc pc = .ok (.ifCond .ne off, 3)) (ht : (pc : Int) + off = (tgt : Int)) (kt : P → V ids G own cc nL ret R tgt lv st h Q) (kf : ¬ P → V ids G own cc nL ret R (pc + 3) lv st h Q) : V ids G own cc nL ret R pc lv (.int (bz P) :: st) h Q := V_if_ne tgt hd ht (fun c => kt (bz_n0.mp c)) (fun c => kf (bz_0.mp c))
theorem V_ireti {P : Int32 → Mem → Prop} {v : Int32} (hd : decode cc pc = .ok (.ireturn, 1)) (hq : P v h) : V ids G own cc nL (some .int) R pc lv [.int v] h (Qi P) := V_iret hd ⟨v, rfl, hq⟩
theorem V_zreti {P : Int32 → Mem → Prop} {v : Int32} (hd : decode cc pc = .ok (.ireturn, 1)) (hv : v = 0 ∨ v = 1) (hq : P v h) : V ids G own cc nL (some .boolean) R pc lv [.int v] h (Qi P) := V_zret hd hv ⟨v, rfl, hq⟩
theorem V_vreti {P : Mem → Prop} (hd : decode cc pc = .ok (.return_, 1)) (hq : P h) : V ids G own cc nL none R pc lv [] h (Qv P) := V_vret hd ⟨rfl, hq⟩
theorem nI_01 {a : Nat} (h : a = 0 ∨ a = 1) : nI a = 0 ∨ nI a = 1 := by rcases h with rfl | rfl <;> decide
theorem wr_s (h : Mem) (c j : Nat) (v : Int32) : wr h c j v c j = v := by simp [wr, va_up, upd]
theorem wr_j (h : Mem) {c c' j j' : Nat} (v : Int32) (hj : j' ≠ j) : wr h c j v c' j' = h c' j' := by
  by_cases e : c' = c
  · subst e; simp [wr, va_up, upd, hj]
  · simp [wr, va_up, e]
theorem wr_c (h : Mem) {c c' : Nat} (j : Nat) (v : Int32) (hc : c' ≠ c) : wr h c j v c' = h c' := by simp [wr, va_up, hc]
theorem wr_row (h : Mem) (c j : Nat) (v : Int32) : wr h c j v c = upd (h c) j v := by simp [wr, va_up]
theorem va_up_s {α : Type} (f : Nat → α) (k : Nat) (v : α) : va_up f k v k = v := by simp [va_up]
end VN
end
section
theorem ug_list (ws : List Cond) (ps : List Nat) (hp : ws = ps.filterMap (fun i => tables_1[i]?)) (hg : ws.all goodWord = true) : ∀ w ∈ ws, w ∈ Ug := by
  intro w hw
  have h1 := List.all_eq_true.mp hg w hw
  rw [hp] at hw
  obtain ⟨i, -, hi⟩ := List.mem_filterMap.mp hw
  exact ug_in i hi h1
theorem iX0 : ∀ w ∈ u_ws RX0 TX0 6, w ∈ Ug := ug_list _ [84, 86, 88, 90, 92, 94] (by decide +kernel) (by decide +kernel)
theorem iX1 : ∀ w ∈ u_ws RX1 TX1 5, w ∈ Ug := ug_list _ [159, 161, 163, 165, 167] (by decide +kernel) (by decide +kernel)
theorem iX2 : ∀ w ∈ u_ws RX2 TX2 7, w ∈ Ug := ug_list _ [52, 54, 56, 58, 60, 62, 64] (by decide +kernel) (by decide +kernel)
theorem iX3 : ∀ w ∈ u_ws RX3 TX3 3, w ∈ Ug := ug_list _ [129, 131, 133] (by decide +kernel) (by decide +kernel)
theorem iX4 : ∀ w ∈ u_ws RX4 TX4 4, w ∈ Ug := ug_list _ [109, 111, 113, 115] (by decide +kernel) (by decide +kernel)
theorem iX5 : ∀ w ∈ u_ws RX5 TX5 11, w ∈ Ug := ug_list _ [181, 183, 185, 187, 189, 191, 193, 195, 197, 199, 201] (by decide +kernel) (by decide +kernel)
theorem iX6 : ∀ w ∈ u_ws RX6 TX6 22, w ∈ Ug := ug_list _ [629, 631, 633, 635, 637, 639, 641, 643, 645, 647, 649, 651, 653, 655, 657, 659, 661, 663, 665, 667, 669, 671] (by decide +kernel) (by decide +kernel)
theorem in_L : Cond.initialized "LineBundlesLaw" ∈ Ug := ug_in 0 (by decide +kernel) rfl
theorem in_X5 : Cond.initialized "LineBundles" ∈ Ug := ug_in 1 (by decide +kernel) rfl
theorem in_X2 : Cond.initialized "LineBundles$Net" ∈ Ug := ug_in 2 (by decide +kernel) rfl
theorem in_J9 : Cond.initialized "java/lang/Math" ∈ Ug := ug_in 3 (by decide +kernel) rfl
theorem in_X0 : Cond.initialized "LineBundles$Finder" ∈ Ug := ug_in 4 (by decide +kernel) rfl
theorem in_X4 : Cond.initialized "LineBundles$Tinter" ∈ Ug := ug_in 5 (by decide +kernel) rfl
theorem in_X3 : Cond.initialized "LineBundles$Sheet" ∈ Ug := ug_in 6 (by decide +kernel) rfl
theorem in_X1 : Cond.initialized "LineBundles$Line" ∈ Ug := ug_in 7 (by decide +kernel) rfl
theorem in_X6 : Cond.initialized "LineBundlesModel" ∈ Ug := ug_in 8 (by decide +kernel) rfl
theorem in_J10 : Cond.initialized "java/lang/System" ∈ Ug := ug_in 9 (by decide +kernel) rfl
theorem in_J6 : Cond.initialized "java/lang/Integer" ∈ Ug := ug_in 10 (by decide +kernel) rfl
theorem ml_L_9 : Cond.methodLink RL 9 yX5_init ∈ Ug := ug_in 13 (by decide +kernel) rfl
theorem imX5_init : Cond.instanceMethod yX5_init ∈ Ug := ug_in 14 (by decide +kernel) rfl
theorem coX5_init : Cond.code yX5_init cX5_init 2 none ∈ Ug := ug_in 15 (by decide +kernel) rfl
theorem ml_X5_3 : Cond.methodLink RX5 3 objectInit ∈ Ug := ug_in 16 (by decide +kernel) rfl
theorem im_obj : Cond.instanceMethod objectInit ∈ Ug := ug_in 17 (by decide +kernel) rfl
theorem co_obj : Cond.code objectInit ⟨#[0xb1]⟩ 1 none ∈ Ug := ug_in 18 (by decide +kernel) rfl
theorem ml_X5_27 : Cond.methodLink RX5 27 yX2_init ∈ Ug := ug_in 25 (by decide +kernel) rfl
theorem imX2_init : Cond.instanceMethod yX2_init ∈ Ug := ug_in 26 (by decide +kernel) rfl
theorem coX2_init : Cond.code yX2_init cX2_init 2 none ∈ Ug := ug_in 27 (by decide +kernel) rfl
theorem ml_X2_3 : Cond.methodLink RX2 3 objectInit ∈ Ug := ug_in 28 (by decide +kernel) rfl
theorem ct_X2_28 : Cond.constant RX2 28 (-1000000) ∈ Ug := ug_in 29 (by decide +kernel) rfl
theorem ml_X2_29 : Cond.methodLink RX2 29 yX2_putRules ∈ Ug := ug_in 30 (by decide +kernel) rfl
theorem imX2_putRules : Cond.instanceMethod yX2_putRules ∈ Ug := ug_in 31 (by decide +kernel) rfl
theorem seX2_putRules : Cond.selects RX2 yX2_putRules yX2_putRules ∈ Ug := ug_in 32 (by decide +kernel) rfl
theorem coX2_putRules : Cond.code yX2_putRules cX2_putRules 4 none ∈ Ug := ug_in 33 (by decide +kernel) rfl
theorem ml_X2_40 : Cond.methodLink RX2 40 Lib.Math.max.name ∈ Ug := ug_in 34 (by decide +kernel) rfl
theorem sm_max : Cond.static Lib.Math.max.name ∈ Ug := ug_in 35 (by decide +kernel) rfl
theorem co_max : Cond.code Lib.Math.max.name Lib.Math.max.code 2 (some .int) ∈ Ug := ug_in 36 (by decide +kernel) rfl
theorem fl_X2_9 : Cond.fieldLink RX2 9 "LineBundles$Net" "shutAt" "[Z" ∈ Ug := ug_in 37 (by decide +kernel) rfl
theorem fn_X5_106 : Cond.fieldLinkNest RX5 106 "LineBundles$Net" "shutAt" "[Z" "LineBundles" ∈ nestW := nl_in 38 (by decide +kernel) rfl
theorem fn_X0_88 : Cond.fieldLinkNest RX0 88 "LineBundles$Net" "shutAt" "[Z" "LineBundles" ∈ nestW := nl_in 39 (by decide +kernel) rfl
theorem fl_X2_15 : Cond.fieldLink RX2 15 "LineBundles$Net" "pointAt" "[I" ∈ Ug := ug_in 40 (by decide +kernel) rfl
theorem fn_X5_110 : Cond.fieldLinkNest RX5 110 "LineBundles$Net" "pointAt" "[I" "LineBundles" ∈ nestW := nl_in 41 (by decide +kernel) rfl
theorem fl_X2_19 : Cond.fieldLink RX2 19 "LineBundles$Net" "linesBy" "[I" ∈ Ug := ug_in 42 (by decide +kernel) rfl
theorem fn_X0_54 : Cond.fieldLinkNest RX0 54 "LineBundles$Net" "linesBy" "[I" "LineBundles" ∈ nestW := nl_in 43 (by decide +kernel) rfl
theorem fn_X4_40 : Cond.fieldLinkNest RX4 40 "LineBundles$Net" "linesBy" "[I" "LineBundles" ∈ nestW := nl_in 44 (by decide +kernel) rfl
theorem fl_X2_22 : Cond.fieldLink RX2 22 "LineBundles$Net" "goneTo" "[Z" ∈ Ug := ug_in 45 (by decide +kernel) rfl
theorem fl_X2_25 : Cond.fieldLink RX2 25 "LineBundles$Net" "prices" "[I" ∈ Ug := ug_in 46 (by decide +kernel) rfl
theorem fn_X0_49 : Cond.fieldLinkNest RX0 49 "LineBundles$Net" "prices" "[I" "LineBundles" ∈ nestW := nl_in 47 (by decide +kernel) rfl
theorem fl_X2_33 : Cond.fieldLink RX2 33 "LineBundles$Net" "base" "I" ∈ Ug := ug_in 48 (by decide +kernel) rfl
theorem fn_X5_135 : Cond.fieldLinkNest RX5 135 "LineBundles$Net" "base" "I" "LineBundles" ∈ nestW := nl_in 49 (by decide +kernel) rfl
theorem fl_X2_37 : Cond.fieldLink RX2 37 "LineBundles$Net" "save" "I" ∈ Ug := ug_in 50 (by decide +kernel) rfl
theorem fn_X5_138 : Cond.fieldLinkNest RX5 138 "LineBundles$Net" "save" "I" "LineBundles" ∈ nestW := nl_in 51 (by decide +kernel) rfl
theorem mn_X5_34 : Cond.methodLinkNest RX5 34 yX0_init "LineBundles" ∈ nestW := nl_in 71 (by decide +kernel) rfl
theorem imX0_init : Cond.instanceMethod yX0_init ∈ Ug := ug_in 72 (by decide +kernel) rfl
theorem coX0_init : Cond.code yX0_init cX0_init 1 none ∈ Ug := ug_in 73 (by decide +kernel) rfl
theorem ml_X0_3 : Cond.methodLink RX0 3 objectInit ∈ Ug := ug_in 74 (by decide +kernel) rfl
theorem fl_X0_9 : Cond.fieldLink RX0 9 "LineBundles$Finder" "left" "[I" ∈ Ug := ug_in 75 (by decide +kernel) rfl
theorem fl_X0_15 : Cond.fieldLink RX0 15 "LineBundles$Finder" "heap" "[I" ∈ Ug := ug_in 76 (by decide +kernel) rfl
theorem fl_X0_18 : Cond.fieldLink RX0 18 "LineBundles$Finder" "steps" "[I" ∈ Ug := ug_in 77 (by decide +kernel) rfl
theorem fn_X5_155 : Cond.fieldLinkNest RX5 155 "LineBundles$Finder" "steps" "[I" "LineBundles" ∈ nestW := nl_in 78 (by decide +kernel) rfl
theorem fl_X0_73 : Cond.fieldLink RX0 73 "LineBundles$Finder" "heaped" "I" ∈ Ug := ug_in 79 (by decide +kernel) rfl
theorem fl_X0_25 : Cond.fieldLink RX0 25 "LineBundles$Finder" "length" "I" ∈ Ug := ug_in 80 (by decide +kernel) rfl
theorem fn_X5_158 : Cond.fieldLinkNest RX5 158 "LineBundles$Finder" "length" "I" "LineBundles" ∈ nestW := nl_in 81 (by decide +kernel) rfl
theorem fl_X0_35 : Cond.fieldLink RX0 35 "LineBundles$Finder" "cost" "I" ∈ Ug := ug_in 82 (by decide +kernel) rfl
theorem fn_X5_165 : Cond.fieldLinkNest RX5 165 "LineBundles$Finder" "cost" "I" "LineBundles" ∈ nestW := nl_in 83 (by decide +kernel) rfl
theorem mn_X5_41 : Cond.methodLinkNest RX5 41 yX4_init "LineBundles" ∈ nestW := nl_in 99 (by decide +kernel) rfl
theorem imX4_init : Cond.instanceMethod yX4_init ∈ Ug := ug_in 100 (by decide +kernel) rfl
theorem coX4_init : Cond.code yX4_init cX4_init 1 none ∈ Ug := ug_in 101 (by decide +kernel) rfl
theorem ml_X4_3 : Cond.methodLink RX4 3 objectInit ∈ Ug := ug_in 102 (by decide +kernel) rfl
theorem fl_X4_9 : Cond.fieldLink RX4 9 "LineBundles$Tinter" "clashes" "[I" ∈ Ug := ug_in 103 (by decide +kernel) rfl
theorem fl_X4_15 : Cond.fieldLink RX4 15 "LineBundles$Tinter" "tints" "[I" ∈ Ug := ug_in 104 (by decide +kernel) rfl
theorem fn_X5_225 : Cond.fieldLinkNest RX5 225 "LineBundles$Tinter" "tints" "[I" "LineBundles" ∈ nestW := nl_in 105 (by decide +kernel) rfl
theorem fl_X4_18 : Cond.fieldLink RX4 18 "LineBundles$Tinter" "members" "[I" ∈ Ug := ug_in 106 (by decide +kernel) rfl
theorem fl_X4_32 : Cond.fieldLink RX4 32 "LineBundles$Tinter" "tintCount" "I" ∈ Ug := ug_in 107 (by decide +kernel) rfl
theorem fn_X5_222 : Cond.fieldLinkNest RX5 222 "LineBundles$Tinter" "tintCount" "I" "LineBundles" ∈ nestW := nl_in 108 (by decide +kernel) rfl
theorem mn_X5_49 : Cond.methodLinkNest RX5 49 yX3_init "LineBundles" ∈ nestW := nl_in 119 (by decide +kernel) rfl
theorem imX3_init : Cond.instanceMethod yX3_init ∈ Ug := ug_in 120 (by decide +kernel) rfl
theorem coX3_init : Cond.code yX3_init cX3_init 1 none ∈ Ug := ug_in 121 (by decide +kernel) rfl
theorem ml_X3_3 : Cond.methodLink RX3 3 objectInit ∈ Ug := ug_in 122 (by decide +kernel) rfl
theorem fl_X3_9 : Cond.fieldLink RX3 9 "LineBundles$Sheet" "items" "[I" ∈ Ug := ug_in 123 (by decide +kernel) rfl
theorem fn_X5_85 : Cond.fieldLinkNest RX5 85 "LineBundles$Sheet" "items" "[I" "LineBundles" ∈ nestW := nl_in 124 (by decide +kernel) rfl
theorem fl_X3_19 : Cond.fieldLink RX3 19 "LineBundles$Sheet" "lane" "I" ∈ Ug := ug_in 125 (by decide +kernel) rfl
theorem fn_X5_81 : Cond.fieldLinkNest RX5 81 "LineBundles$Sheet" "lane" "I" "LineBundles" ∈ nestW := nl_in 126 (by decide +kernel) rfl
theorem fl_X3_15 : Cond.fieldLink RX3 15 "LineBundles$Sheet" "size" "I" ∈ Ug := ug_in 127 (by decide +kernel) rfl
theorem fn_X5_94 : Cond.fieldLinkNest RX5 94 "LineBundles$Sheet" "size" "I" "LineBundles" ∈ nestW := nl_in 128 (by decide +kernel) rfl
theorem ml_X5_50 : Cond.methodLink RX5 50 yX1_init ∈ Ug := ug_in 137 (by decide +kernel) rfl
theorem imX1_init : Cond.instanceMethod yX1_init ∈ Ug := ug_in 138 (by decide +kernel) rfl
theorem coX1_init : Cond.code yX1_init cX1_init 2 none ∈ Ug := ug_in 139 (by decide +kernel) rfl
theorem ml_X1_3 : Cond.methodLink RX1 3 objectInit ∈ Ug := ug_in 140 (by decide +kernel) rfl
theorem fl_X1_15 : Cond.fieldLink RX1 15 "LineBundles$Line" "bit" "I" ∈ Ug := ug_in 141 (by decide +kernel) rfl
theorem fn_X0_57 : Cond.fieldLinkNest RX0 57 "LineBundles$Line" "bit" "I" "LineBundles" ∈ nestW := nl_in 142 (by decide +kernel) rfl
theorem fn_X2_93 : Cond.fieldLinkNest RX2 93 "LineBundles$Line" "bit" "I" "LineBundles" ∈ nestW := nl_in 143 (by decide +kernel) rfl
theorem fn_X5_209 : Cond.fieldLinkNest RX5 209 "LineBundles$Line" "bit" "I" "LineBundles" ∈ nestW := nl_in 144 (by decide +kernel) rfl
theorem fl_X1_9 : Cond.fieldLink RX1 9 "LineBundles$Line" "steps" "[I" ∈ Ug := ug_in 145 (by decide +kernel) rfl
theorem fn_X2_78 : Cond.fieldLinkNest RX2 78 "LineBundles$Line" "steps" "[I" "LineBundles" ∈ nestW := nl_in 146 (by decide +kernel) rfl
theorem fn_X5_181 : Cond.fieldLinkNest RX5 181 "LineBundles$Line" "steps" "[I" "LineBundles" ∈ nestW := nl_in 147 (by decide +kernel) rfl
theorem fl_X1_19 : Cond.fieldLink RX1 19 "LineBundles$Line" "start" "I" ∈ Ug := ug_in 148 (by decide +kernel) rfl
theorem fn_X0_29 : Cond.fieldLinkNest RX0 29 "LineBundles$Line" "start" "I" "LineBundles" ∈ nestW := nl_in 149 (by decide +kernel) rfl
theorem fn_X2_62 : Cond.fieldLinkNest RX2 62 "LineBundles$Line" "start" "I" "LineBundles" ∈ nestW := nl_in 150 (by decide +kernel) rfl
theorem fn_X5_280 : Cond.fieldLinkNest RX5 280 "LineBundles$Line" "start" "I" "LineBundles" ∈ nestW := nl_in 151 (by decide +kernel) rfl
theorem fl_X1_22 : Cond.fieldLink RX1 22 "LineBundles$Line" "goal" "I" ∈ Ug := ug_in 152 (by decide +kernel) rfl
theorem fn_X0_38 : Cond.fieldLinkNest RX0 38 "LineBundles$Line" "goal" "I" "LineBundles" ∈ nestW := nl_in 153 (by decide +kernel) rfl
theorem fn_X2_71 : Cond.fieldLinkNest RX2 71 "LineBundles$Line" "goal" "I" "LineBundles" ∈ nestW := nl_in 154 (by decide +kernel) rfl
theorem fn_X5_283 : Cond.fieldLinkNest RX5 283 "LineBundles$Line" "goal" "I" "LineBundles" ∈ nestW := nl_in 155 (by decide +kernel) rfl
theorem fl_X1_25 : Cond.fieldLink RX1 25 "LineBundles$Line" "length" "I" ∈ Ug := ug_in 156 (by decide +kernel) rfl
theorem fn_X2_87 : Cond.fieldLinkNest RX2 87 "LineBundles$Line" "length" "I" "LineBundles" ∈ nestW := nl_in 157 (by decide +kernel) rfl
theorem fn_X5_180 : Cond.fieldLinkNest RX5 180 "LineBundles$Line" "length" "I" "LineBundles" ∈ nestW := nl_in 158 (by decide +kernel) rfl
theorem fl_X5_11 : Cond.fieldLink RX5 11 "LineBundles" "sheets" "[LLineBundles$Sheet;" ∈ Ug := ug_in 170 (by decide +kernel) rfl
theorem fl_X5_15 : Cond.fieldLink RX5 15 "LineBundles" "pointPlaces" "[I" ∈ Ug := ug_in 171 (by decide +kernel) rfl
theorem fl_X5_21 : Cond.fieldLink RX5 21 "LineBundles" "lines" "[LLineBundles$Line;" ∈ Ug := ug_in 172 (by decide +kernel) rfl
theorem fl_X5_28 : Cond.fieldLink RX5 28 "LineBundles" "net" "LLineBundles$Net;" ∈ Ug := ug_in 173 (by decide +kernel) rfl
theorem fl_X5_35 : Cond.fieldLink RX5 35 "LineBundles" "finder" "LLineBundles$Finder;" ∈ Ug := ug_in 174 (by decide +kernel) rfl
theorem fl_X5_42 : Cond.fieldLink RX5 42 "LineBundles" "tinter" "LLineBundles$Tinter;" ∈ Ug := ug_in 175 (by decide +kernel) rfl
theorem fl_X5_46 : Cond.fieldLink RX5 46 "LineBundles" "traced" "[I" ∈ Ug := ug_in 176 (by decide +kernel) rfl
theorem fl_X5_115 : Cond.fieldLink RX5 115 "LineBundles" "pointCount" "I" ∈ Ug := ug_in 177 (by decide +kernel) rfl
theorem fl_X5_129 : Cond.fieldLink RX5 129 "LineBundles" "lineCount" "I" ∈ Ug := ug_in 178 (by decide +kernel) rfl
theorem fl_X5_241 : Cond.fieldLink RX5 241 "LineBundles" "traceCount" "I" ∈ Ug := ug_in 179 (by decide +kernel) rfl
theorem fl_X5_264 : Cond.fieldLink RX5 264 "LineBundles" "latestFinding" "I" ∈ Ug := ug_in 180 (by decide +kernel) rfl
theorem ml_L_13 : Cond.methodLink RL 13 yX5_sheet ∈ Ug := ug_in 204 (by decide +kernel) rfl
theorem imX5_sheet : Cond.instanceMethod yX5_sheet ∈ Ug := ug_in 205 (by decide +kernel) rfl
theorem seX5_sheet : Cond.selects RX5 yX5_sheet yX5_sheet ∈ Ug := ug_in 206 (by decide +kernel) rfl
theorem coX5_sheet : Cond.code yX5_sheet cX5_sheet 4 (some .int) ∈ Ug := ug_in 207 (by decide +kernel) rfl
theorem ml_X5_53 : Cond.methodLink RX5 53 yX5_isSheet ∈ Ug := ug_in 208 (by decide +kernel) rfl
theorem smX5_isSheet : Cond.static yX5_isSheet ∈ Ug := ug_in 209 (by decide +kernel) rfl
theorem coX5_isSheet : Cond.code yX5_isSheet cX5_isSheet 1 (some .boolean) ∈ Ug := ug_in 210 (by decide +kernel) rfl
theorem ct_X5_57 : Cond.constant RX5 57 (-1000001) ∈ Ug := ug_in 211 (by decide +kernel) rfl
theorem ml_X5_58 : Cond.methodLink RX5 58 yX5_found ∈ Ug := ug_in 212 (by decide +kernel) rfl
theorem imX5_found : Cond.instanceMethod yX5_found ∈ Ug := ug_in 214 (by decide +kernel) rfl
theorem coX5_found : Cond.code yX5_found cX5_found 2 (some .int) ∈ Ug := ug_in 215 (by decide +kernel) rfl
theorem ct_X5_267 : Cond.constant RX5 267 (-1000010) ∈ Ug := ug_in 216 (by decide +kernel) rfl
theorem ml_X5_62 : Cond.methodLink RX5 62 yX3_begin ∈ Ug := ug_in 217 (by decide +kernel) rfl
theorem imX3_begin : Cond.instanceMethod yX3_begin ∈ Ug := ug_in 218 (by decide +kernel) rfl
theorem seX3_begin : Cond.selects RX3 yX3_begin yX3_begin ∈ Ug := ug_in 219 (by decide +kernel) rfl
theorem coX3_begin : Cond.code yX3_begin cX3_begin 4 none ∈ Ug := ug_in 220 (by decide +kernel) rfl
theorem ml_X5_66 : Cond.methodLink RX5 66 yX5_unfound ∈ Ug := ug_in 221 (by decide +kernel) rfl
theorem imX5_unfound : Cond.instanceMethod yX5_unfound ∈ Ug := ug_in 223 (by decide +kernel) rfl
theorem coX5_unfound : Cond.code yX5_unfound cX5_unfound 2 (some .int) ∈ Ug := ug_in 224 (by decide +kernel) rfl
theorem ml_L_18 : Cond.methodLink RL 18 yX5_set ∈ Ug := ug_in 225 (by decide +kernel) rfl
theorem imX5_set : Cond.instanceMethod yX5_set ∈ Ug := ug_in 226 (by decide +kernel) rfl
theorem seX5_set : Cond.selects RX5 yX5_set yX5_set ∈ Ug := ug_in 227 (by decide +kernel) rfl
theorem coX5_set : Cond.code yX5_set cX5_set 5 (some .int) ∈ Ug := ug_in 228 (by decide +kernel) rfl
theorem ml_X5_69 : Cond.methodLink RX5 69 yX3_isMissing ∈ Ug := ug_in 229 (by decide +kernel) rfl
theorem imX3_isMissing : Cond.instanceMethod yX3_isMissing ∈ Ug := ug_in 230 (by decide +kernel) rfl
theorem seX3_isMissing : Cond.selects RX3 yX3_isMissing yX3_isMissing ∈ Ug := ug_in 231 (by decide +kernel) rfl
theorem coX3_isMissing : Cond.code yX3_isMissing cX3_isMissing 1 (some .boolean) ∈ Ug := ug_in 232 (by decide +kernel) rfl
theorem ml_X5_73 : Cond.methodLink RX5 73 yX3_holds ∈ Ug := ug_in 233 (by decide +kernel) rfl
theorem imX3_holds : Cond.instanceMethod yX3_holds ∈ Ug := ug_in 234 (by decide +kernel) rfl
theorem seX3_holds : Cond.selects RX3 yX3_holds yX3_holds ∈ Ug := ug_in 235 (by decide +kernel) rfl
theorem coX3_holds : Cond.code yX3_holds cX3_holds 3 (some .boolean) ∈ Ug := ug_in 236 (by decide +kernel) rfl
theorem ml_X5_77 : Cond.methodLink RX5 77 yX3_put ∈ Ug := ug_in 237 (by decide +kernel) rfl
theorem imX3_put : Cond.instanceMethod yX3_put ∈ Ug := ug_in 238 (by decide +kernel) rfl
theorem seX3_put : Cond.selects RX3 yX3_put yX3_put ∈ Ug := ug_in 239 (by decide +kernel) rfl
theorem coX3_put : Cond.code yX3_put cX3_put 3 (some .int) ∈ Ug := ug_in 240 (by decide +kernel) rfl
theorem ml_L_22 : Cond.methodLink RL 22 yX5_copy ∈ Ug := ug_in 241 (by decide +kernel) rfl
theorem imX5_copy : Cond.instanceMethod yX5_copy ∈ Ug := ug_in 242 (by decide +kernel) rfl
theorem seX5_copy : Cond.selects RX5 yX5_copy yX5_copy ∈ Ug := ug_in 243 (by decide +kernel) rfl
theorem coX5_copy : Cond.code yX5_copy cX5_copy 8 (some .int) ∈ Ug := ug_in 244 (by decide +kernel) rfl
theorem ml_X5_88 : Cond.methodLink RX5 88 arraycopyName ∈ Ug := ug_in 245 (by decide +kernel) rfl
theorem sm_arraycopy : Cond.static arraycopyName ∈ Ug := ug_in 246 (by decide +kernel) rfl
theorem nat_acopy : Cond.native arraycopyName ∈ Ug := ug_in 247 (by decide +kernel) rfl
theorem ml_L_27 : Cond.methodLink RL 27 yX5_drop ∈ Ug := ug_in 248 (by decide +kernel) rfl
theorem imX5_drop : Cond.instanceMethod yX5_drop ∈ Ug := ug_in 249 (by decide +kernel) rfl
theorem seX5_drop : Cond.selects RX5 yX5_drop yX5_drop ∈ Ug := ug_in 250 (by decide +kernel) rfl
theorem coX5_drop : Cond.code yX5_drop cX5_drop 4 (some .int) ∈ Ug := ug_in 251 (by decide +kernel) rfl
theorem ml_X5_97 : Cond.methodLink RX5 97 yX3_end ∈ Ug := ug_in 252 (by decide +kernel) rfl
theorem imX3_end : Cond.instanceMethod yX3_end ∈ Ug := ug_in 253 (by decide +kernel) rfl
theorem seX3_end : Cond.selects RX3 yX3_end yX3_end ∈ Ug := ug_in 254 (by decide +kernel) rfl
theorem coX3_end : Cond.code yX3_end cX3_end 1 none ∈ Ug := ug_in 255 (by decide +kernel) rfl
theorem ml_L_32 : Cond.methodLink RL 32 yX5_point ∈ Ug := ug_in 256 (by decide +kernel) rfl
theorem imX5_point : Cond.instanceMethod yX5_point ∈ Ug := ug_in 257 (by decide +kernel) rfl
theorem seX5_point : Cond.selects RX5 yX5_point yX5_point ∈ Ug := ug_in 258 (by decide +kernel) rfl
theorem coX5_point : Cond.code yX5_point cX5_point 4 (some .int) ∈ Ug := ug_in 259 (by decide +kernel) rfl
theorem ml_X5_100 : Cond.methodLink RX5 100 yX5_isPlace ∈ Ug := ug_in 260 (by decide +kernel) rfl
theorem smX5_isPlace : Cond.static yX5_isPlace ∈ Ug := ug_in 261 (by decide +kernel) rfl
theorem coX5_isPlace : Cond.code yX5_isPlace cX5_isPlace 2 (some .boolean) ∈ Ug := ug_in 262 (by decide +kernel) rfl
theorem ml_X5_103 : Cond.methodLink RX5 103 yX5_placeAt ∈ Ug := ug_in 263 (by decide +kernel) rfl
theorem smX5_placeAt : Cond.static yX5_placeAt ∈ Ug := ug_in 264 (by decide +kernel) rfl
theorem coX5_placeAt : Cond.code yX5_placeAt cX5_placeAt 2 (some .int) ∈ Ug := ug_in 265 (by decide +kernel) rfl
theorem ct_X5_113 : Cond.constant RX5 113 (-1000000) ∈ Ug := ug_in 266 (by decide +kernel) rfl
theorem ct_X5_114 : Cond.constant RX5 114 (-1000002) ∈ Ug := ug_in 267 (by decide +kernel) rfl
theorem ct_X5_118 : Cond.constant RX5 118 (-1000003) ∈ Ug := ug_in 268 (by decide +kernel) rfl
theorem ml_L_37 : Cond.methodLink RL 37 yX5_shut ∈ Ug := ug_in 269 (by decide +kernel) rfl
theorem imX5_shut : Cond.instanceMethod yX5_shut ∈ Ug := ug_in 270 (by decide +kernel) rfl
theorem seX5_shut : Cond.selects RX5 yX5_shut yX5_shut ∈ Ug := ug_in 271 (by decide +kernel) rfl
theorem coX5_shut : Cond.code yX5_shut cX5_shut 4 (some .int) ∈ Ug := ug_in 272 (by decide +kernel) rfl
theorem ml_X5_119 : Cond.methodLink RX5 119 yX2_isGoneThrough ∈ Ug := ug_in 273 (by decide +kernel) rfl
theorem imX2_isGoneThrough : Cond.instanceMethod yX2_isGoneThrough ∈ Ug := ug_in 274 (by decide +kernel) rfl
theorem seX2_isGoneThrough : Cond.selects RX2 yX2_isGoneThrough yX2_isGoneThrough ∈ Ug := ug_in 275 (by decide +kernel) rfl
theorem coX2_isGoneThrough : Cond.code yX2_isGoneThrough cX2_isGoneThrough 4 (some .boolean) ∈ Ug := ug_in 276 (by decide +kernel) rfl
theorem ml_X2_53 : Cond.methodLink RX2 53 yX2_linesFrom ∈ Ug := ug_in 277 (by decide +kernel) rfl
theorem imX2_linesFrom : Cond.instanceMethod yX2_linesFrom ∈ Ug := ug_in 278 (by decide +kernel) rfl
theorem seX2_linesFrom : Cond.selects RX2 yX2_linesFrom yX2_linesFrom ∈ Ug := ug_in 279 (by decide +kernel) rfl
theorem coX2_linesFrom : Cond.code yX2_linesFrom cX2_linesFrom 4 (some .int) ∈ Ug := ug_in 280 (by decide +kernel) rfl
theorem mn_X2_46 : Cond.methodLinkNest RX2 46 yX5_beside "LineBundles" ∈ nestW := nl_in 281 (by decide +kernel) rfl
theorem smX5_beside : Cond.static yX5_beside ∈ Ug := ug_in 282 (by decide +kernel) rfl
theorem coX5_beside : Cond.code yX5_beside cX5_beside 2 (some .int) ∈ Ug := ug_in 283 (by decide +kernel) rfl
theorem mn_X2_49 : Cond.methodLinkNest RX2 49 yX5_sideBetween "LineBundles" ∈ nestW := nl_in 284 (by decide +kernel) rfl
theorem smX5_sideBetween : Cond.static yX5_sideBetween ∈ Ug := ug_in 285 (by decide +kernel) rfl
theorem coX5_sideBetween : Cond.code yX5_sideBetween cX5_sideBetween 3 (some .int) ∈ Ug := ug_in 286 (by decide +kernel) rfl
theorem ml_X5_268 : Cond.methodLink RX5 268 Lib.Math.min.name ∈ Ug := ug_in 287 (by decide +kernel) rfl
theorem sm_min : Cond.static Lib.Math.min.name ∈ Ug := ug_in 288 (by decide +kernel) rfl
theorem co_min : Cond.code Lib.Math.min.name Lib.Math.min.code 2 (some .int) ∈ Ug := ug_in 289 (by decide +kernel) rfl
theorem ml_X5_122 : Cond.methodLink RX5 122 yX5_turn ∈ Ug := ug_in 290 (by decide +kernel) rfl
theorem imX5_turn : Cond.instanceMethod yX5_turn ∈ Ug := ug_in 292 (by decide +kernel) rfl
theorem coX5_turn : Cond.code yX5_turn cX5_turn 3 (some .int) ∈ Ug := ug_in 293 (by decide +kernel) rfl
theorem ml_L_41 : Cond.methodLink RL 41 yX5_open ∈ Ug := ug_in 294 (by decide +kernel) rfl
theorem imX5_open : Cond.instanceMethod yX5_open ∈ Ug := ug_in 295 (by decide +kernel) rfl
theorem seX5_open : Cond.selects RX5 yX5_open yX5_open ∈ Ug := ug_in 296 (by decide +kernel) rfl
theorem coX5_open : Cond.code yX5_open cX5_open 3 (some .int) ∈ Ug := ug_in 297 (by decide +kernel) rfl
theorem ml_L_45 : Cond.methodLink RL 45 yX5_line ∈ Ug := ug_in 298 (by decide +kernel) rfl
theorem imX5_line : Cond.instanceMethod yX5_line ∈ Ug := ug_in 299 (by decide +kernel) rfl
theorem seX5_line : Cond.selects RX5 yX5_line yX5_line ∈ Ug := ug_in 300 (by decide +kernel) rfl
theorem coX5_line : Cond.code yX5_line cX5_line 3 (some .int) ∈ Ug := ug_in 301 (by decide +kernel) rfl
theorem ml_X5_126 : Cond.methodLink RX5 126 yX5_isPoint ∈ Ug := ug_in 302 (by decide +kernel) rfl
theorem imX5_isPoint : Cond.instanceMethod yX5_isPoint ∈ Ug := ug_in 304 (by decide +kernel) rfl
theorem coX5_isPoint : Cond.code yX5_isPoint cX5_isPoint 2 (some .boolean) ∈ Ug := ug_in 305 (by decide +kernel) rfl
theorem ml_X5_132 : Cond.methodLink RX5 132 yX1_join ∈ Ug := ug_in 306 (by decide +kernel) rfl
theorem imX1_join : Cond.instanceMethod yX1_join ∈ Ug := ug_in 307 (by decide +kernel) rfl
theorem seX1_join : Cond.selects RX1 yX1_join yX1_join ∈ Ug := ug_in 308 (by decide +kernel) rfl
theorem coX1_join : Cond.code yX1_join cX1_join 3 none ∈ Ug := ug_in 309 (by decide +kernel) rfl
theorem ml_L_49 : Cond.methodLink RL 49 yX5_rule ∈ Ug := ug_in 310 (by decide +kernel) rfl
theorem imX5_rule : Cond.instanceMethod yX5_rule ∈ Ug := ug_in 311 (by decide +kernel) rfl
theorem seX5_rule : Cond.selects RX5 yX5_rule yX5_rule ∈ Ug := ug_in 312 (by decide +kernel) rfl
theorem coX5_rule : Cond.code yX5_rule cX5_rule 4 (some .int) ∈ Ug := ug_in 313 (by decide +kernel) rfl
theorem ml_X5_141 : Cond.methodLink RX5 141 yX2_putRules ∈ Ug := ug_in 314 (by decide +kernel) rfl
theorem ml_L_53 : Cond.methodLink RL 53 yX5_lead ∈ Ug := ug_in 315 (by decide +kernel) rfl
theorem imX5_lead : Cond.instanceMethod yX5_lead ∈ Ug := ug_in 316 (by decide +kernel) rfl
theorem seX5_lead : Cond.selects RX5 yX5_lead yX5_lead ∈ Ug := ug_in 317 (by decide +kernel) rfl
theorem coX5_lead : Cond.code yX5_lead cX5_lead 3 (some .int) ∈ Ug := ug_in 318 (by decide +kernel) rfl
theorem ml_X5_144 : Cond.methodLink RX5 144 yX5_isLine ∈ Ug := ug_in 319 (by decide +kernel) rfl
theorem imX5_isLine : Cond.instanceMethod yX5_isLine ∈ Ug := ug_in 321 (by decide +kernel) rfl
theorem coX5_isLine : Cond.code yX5_isLine cX5_isLine 2 (some .boolean) ∈ Ug := ug_in 322 (by decide +kernel) rfl
theorem ml_X5_147 : Cond.methodLink RX5 147 yX0_findWay ∈ Ug := ug_in 323 (by decide +kernel) rfl
theorem imX0_findWay : Cond.instanceMethod yX0_findWay ∈ Ug := ug_in 324 (by decide +kernel) rfl
theorem seX0_findWay : Cond.selects RX0 yX0_findWay yX0_findWay ∈ Ug := ug_in 325 (by decide +kernel) rfl
theorem coX0_findWay : Cond.code yX0_findWay cX0_findWay 6 (some .boolean) ∈ Ug := ug_in 326 (by decide +kernel) rfl
theorem ml_X0_21 : Cond.methodLink RX0 21 yX0_spread ∈ Ug := ug_in 327 (by decide +kernel) rfl
theorem imX0_spread : Cond.instanceMethod yX0_spread ∈ Ug := ug_in 329 (by decide +kernel) rfl
theorem coX0_spread : Cond.code yX0_spread cX0_spread 6 none ∈ Ug := ug_in 330 (by decide +kernel) rfl
theorem ct_X0_34 : Cond.constant RX0 34 (nI 536870912) ∈ Ug := ug_in 331 (by decide +kernel) rfl
theorem ml_X0_76 : Cond.methodLink RX0 76 yX0_reach ∈ Ug := ug_in 332 (by decide +kernel) rfl
theorem imX0_reach : Cond.instanceMethod yX0_reach ∈ Ug := ug_in 334 (by decide +kernel) rfl
theorem coX0_reach : Cond.code yX0_reach cX0_reach 5 none ∈ Ug := ug_in 335 (by decide +kernel) rfl
theorem ml_X0_80 : Cond.methodLink RX0 80 yX0_pull ∈ Ug := ug_in 336 (by decide +kernel) rfl
theorem imX0_pull : Cond.instanceMethod yX0_pull ∈ Ug := ug_in 338 (by decide +kernel) rfl
theorem coX0_pull : Cond.code yX0_pull cX0_pull 5 (some .int) ∈ Ug := ug_in 339 (by decide +kernel) rfl
theorem ml_X0_84 : Cond.methodLink RX0 84 yX0_reachFrom ∈ Ug := ug_in 340 (by decide +kernel) rfl
theorem imX0_reachFrom : Cond.instanceMethod yX0_reachFrom ∈ Ug := ug_in 342 (by decide +kernel) rfl
theorem coX0_reachFrom : Cond.code yX0_reachFrom cX0_reachFrom 7 none ∈ Ug := ug_in 343 (by decide +kernel) rfl
theorem mn_X0_45 : Cond.methodLinkNest RX0 45 yX5_beside "LineBundles" ∈ nestW := nl_in 344 (by decide +kernel) rfl
theorem mn_X0_66 : Cond.methodLinkNest RX0 66 yX5_sideBetween "LineBundles" ∈ nestW := nl_in 345 (by decide +kernel) rfl
theorem ml_X0_70 : Cond.methodLink RX0 70 yX0_weight ∈ Ug := ug_in 346 (by decide +kernel) rfl
theorem smX0_weight : Cond.static yX0_weight ∈ Ug := ug_in 347 (by decide +kernel) rfl
theorem coX0_weight : Cond.code yX0_weight cX0_weight 3 (some .int) ∈ Ug := ug_in 348 (by decide +kernel) rfl
theorem ml_X0_60 : Cond.methodLink RX0 60 yJ6_bitCount_0f7a4 ∈ Ug := ug_in 349 (by decide +kernel) rfl
theorem smJ6_bitCount_0f7a4 : Cond.static yJ6_bitCount_0f7a4 ∈ Ug := ug_in 350 (by decide +kernel) rfl
theorem coJ6_bitCount_0f7a4 : Cond.code yJ6_bitCount_0f7a4 cJ6_bitCount_0f7a4 1 (some .int) ∈ Ug := ug_in 351 (by decide +kernel) rfl
theorem ct_J6_265 : Cond.constant RJ6 265 (nI 1431655765) ∈ Ug := ug_in 352 (by decide +kernel) rfl
theorem ct_J6_266 : Cond.constant RJ6 266 (nI 858993459) ∈ Ug := ug_in 353 (by decide +kernel) rfl
theorem ct_J6_267 : Cond.constant RJ6 267 (nI 252645135) ∈ Ug := ug_in 354 (by decide +kernel) rfl
theorem ml_X0_41 : Cond.methodLink RX0 41 yX0_leastDirection ∈ Ug := ug_in 355 (by decide +kernel) rfl
theorem imX0_leastDirection : Cond.instanceMethod yX0_leastDirection ∈ Ug := ug_in 357 (by decide +kernel) rfl
theorem coX0_leastDirection : Cond.code yX0_leastDirection cX0_leastDirection 6 (some .int) ∈ Ug := ug_in 358 (by decide +kernel) rfl
theorem ml_X5_151 : Cond.methodLink RX5 151 yX2_lift ∈ Ug := ug_in 359 (by decide +kernel) rfl
theorem imX2_lift : Cond.instanceMethod yX2_lift ∈ Ug := ug_in 360 (by decide +kernel) rfl
theorem seX2_lift : Cond.selects RX2 yX2_lift yX2_lift ∈ Ug := ug_in 361 (by decide +kernel) rfl
theorem coX2_lift : Cond.code yX2_lift cX2_lift 2 none ∈ Ug := ug_in 362 (by decide +kernel) rfl
theorem ml_X2_90 : Cond.methodLink RX2 90 yX2_flipAlong ∈ Ug := ug_in 363 (by decide +kernel) rfl
theorem imX2_flipAlong : Cond.instanceMethod yX2_flipAlong ∈ Ug := ug_in 365 (by decide +kernel) rfl
theorem coX2_flipAlong : Cond.code yX2_flipAlong cX2_flipAlong 5 none ∈ Ug := ug_in 366 (by decide +kernel) rfl
theorem ml_X5_161 : Cond.methodLink RX5 161 yX2_giveWay ∈ Ug := ug_in 367 (by decide +kernel) rfl
theorem imX2_giveWay : Cond.instanceMethod yX2_giveWay ∈ Ug := ug_in 368 (by decide +kernel) rfl
theorem seX2_giveWay : Cond.selects RX2 yX2_giveWay yX2_giveWay ∈ Ug := ug_in 369 (by decide +kernel) rfl
theorem coX2_giveWay : Cond.code yX2_giveWay cX2_giveWay 5 none ∈ Ug := ug_in 370 (by decide +kernel) rfl
theorem ml_X2_74 : Cond.methodLink RX2 74 yX2_lift ∈ Ug := ug_in 371 (by decide +kernel) rfl
theorem ml_X2_81 : Cond.methodLink RX2 81 arraycopyName ∈ Ug := ug_in 372 (by decide +kernel) rfl
theorem ml_L_57 : Cond.methodLink RL 57 yX5_lay ∈ Ug := ug_in 373 (by decide +kernel) rfl
theorem imX5_lay : Cond.instanceMethod yX5_lay ∈ Ug := ug_in 374 (by decide +kernel) rfl
theorem seX5_lay : Cond.selects RX5 yX5_lay yX5_lay ∈ Ug := ug_in 375 (by decide +kernel) rfl
theorem coX5_lay : Cond.code yX5_lay cX5_lay 6 (some .int) ∈ Ug := ug_in 376 (by decide +kernel) rfl
theorem ml_X5_168 : Cond.methodLink RX5 168 yX2_isWay ∈ Ug := ug_in 377 (by decide +kernel) rfl
theorem imX2_isWay : Cond.instanceMethod yX2_isWay ∈ Ug := ug_in 378 (by decide +kernel) rfl
theorem seX2_isWay : Cond.selects RX2 yX2_isWay yX2_isWay ∈ Ug := ug_in 379 (by decide +kernel) rfl
theorem coX2_isWay : Cond.code yX2_isWay cX2_isWay 7 (some .boolean) ∈ Ug := ug_in 380 (by decide +kernel) rfl
theorem mn_X2_67 : Cond.methodLinkNest RX2 67 yX5_isDirection "LineBundles" ∈ nestW := nl_in 381 (by decide +kernel) rfl
theorem smX5_isDirection : Cond.static yX5_isDirection ∈ Ug := ug_in 382 (by decide +kernel) rfl
theorem coX5_isDirection : Cond.code yX5_isDirection cX5_isDirection 1 (some .boolean) ∈ Ug := ug_in 383 (by decide +kernel) rfl
theorem ml_L_62 : Cond.methodLink RL 62 yX5_take ∈ Ug := ug_in 384 (by decide +kernel) rfl
theorem imX5_take : Cond.instanceMethod yX5_take ∈ Ug := ug_in 385 (by decide +kernel) rfl
theorem seX5_take : Cond.selects RX5 yX5_take yX5_take ∈ Ug := ug_in 386 (by decide +kernel) rfl
theorem coX5_take : Cond.code yX5_take cX5_take 3 (some .int) ∈ Ug := ug_in 387 (by decide +kernel) rfl
theorem ml_X5_172 : Cond.methodLink RX5 172 yX1_hasWay ∈ Ug := ug_in 388 (by decide +kernel) rfl
theorem imX1_hasWay : Cond.instanceMethod yX1_hasWay ∈ Ug := ug_in 389 (by decide +kernel) rfl
theorem seX1_hasWay : Cond.selects RX1 yX1_hasWay yX1_hasWay ∈ Ug := ug_in 390 (by decide +kernel) rfl
theorem coX1_hasWay : Cond.code yX1_hasWay cX1_hasWay 1 (some .boolean) ∈ Ug := ug_in 391 (by decide +kernel) rfl
theorem ml_L_66 : Cond.methodLink RL 66 yX5_pass ∈ Ug := ug_in 392 (by decide +kernel) rfl
theorem imX5_pass : Cond.instanceMethod yX5_pass ∈ Ug := ug_in 393 (by decide +kernel) rfl
theorem seX5_pass : Cond.selects RX5 yX5_pass yX5_pass ∈ Ug := ug_in 394 (by decide +kernel) rfl
theorem coX5_pass : Cond.code yX5_pass cX5_pass 1 (some .int) ∈ Ug := ug_in 395 (by decide +kernel) rfl
theorem ml_X5_175 : Cond.methodLink RX5 175 yX5_goThroughLines ∈ Ug := ug_in 396 (by decide +kernel) rfl
theorem imX5_goThroughLines : Cond.instanceMethod yX5_goThroughLines ∈ Ug := ug_in 398 (by decide +kernel) rfl
theorem coX5_goThroughLines : Cond.code yX5_goThroughLines cX5_goThroughLines 3 (some .int) ∈ Ug := ug_in 399 (by decide +kernel) rfl
theorem ml_X5_273 : Cond.methodLink RX5 273 yX5_leadIfBetter ∈ Ug := ug_in 400 (by decide +kernel) rfl
theorem imX5_leadIfBetter : Cond.instanceMethod yX5_leadIfBetter ∈ Ug := ug_in 402 (by decide +kernel) rfl
theorem coX5_leadIfBetter : Cond.code yX5_leadIfBetter cX5_leadIfBetter 2 (some .boolean) ∈ Ug := ug_in 403 (by decide +kernel) rfl
theorem ml_X5_277 : Cond.methodLink RX5 277 yX2_costAmongOthers ∈ Ug := ug_in 404 (by decide +kernel) rfl
theorem imX2_costAmongOthers : Cond.instanceMethod yX2_costAmongOthers ∈ Ug := ug_in 405 (by decide +kernel) rfl
theorem seX2_costAmongOthers : Cond.selects RX2 yX2_costAmongOthers yX2_costAmongOthers ∈ Ug := ug_in 406 (by decide +kernel) rfl
theorem coX2_costAmongOthers : Cond.code yX2_costAmongOthers cX2_costAmongOthers 4 (some .int) ∈ Ug := ug_in 407 (by decide +kernel) rfl
theorem ml_X2_56 : Cond.methodLink RX2 56 yJ6_bitCount_0f7a4 ∈ Ug := ug_in 408 (by decide +kernel) rfl
theorem ml_L_71 : Cond.methodLink RL 71 yX5_rest ∈ Ug := ug_in 409 (by decide +kernel) rfl
theorem imX5_rest : Cond.instanceMethod yX5_rest ∈ Ug := ug_in 410 (by decide +kernel) rfl
theorem seX5_rest : Cond.selects RX5 yX5_rest yX5_rest ∈ Ug := ug_in 411 (by decide +kernel) rfl
theorem coX5_rest : Cond.code yX5_rest cX5_rest 2 (some .int) ∈ Ug := ug_in 412 (by decide +kernel) rfl
theorem ct_X5_179 : Cond.constant RX5 179 (nI 1000000) ∈ Ug := ug_in 413 (by decide +kernel) rfl
theorem ml_L_75 : Cond.methodLink RL 75 yX5_way ∈ Ug := ug_in 414 (by decide +kernel) rfl
theorem imX5_way : Cond.instanceMethod yX5_way ∈ Ug := ug_in 415 (by decide +kernel) rfl
theorem seX5_way : Cond.selects RX5 yX5_way yX5_way ∈ Ug := ug_in 416 (by decide +kernel) rfl
theorem coX5_way : Cond.code yX5_way cX5_way 4 (some .int) ∈ Ug := ug_in 417 (by decide +kernel) rfl
theorem ml_L_79 : Cond.methodLink RL 79 yX5_width ∈ Ug := ug_in 418 (by decide +kernel) rfl
theorem imX5_width : Cond.instanceMethod yX5_width ∈ Ug := ug_in 419 (by decide +kernel) rfl
theorem seX5_width : Cond.selects RX5 yX5_width yX5_width ∈ Ug := ug_in 420 (by decide +kernel) rfl
theorem coX5_width : Cond.code yX5_width cX5_width 4 (some .int) ∈ Ug := ug_in 421 (by decide +kernel) rfl
theorem ml_X5_182 : Cond.methodLink RX5 182 yX5_isDirection ∈ Ug := ug_in 422 (by decide +kernel) rfl
theorem ml_X5_185 : Cond.methodLink RX5 185 yX2_widthFrom ∈ Ug := ug_in 423 (by decide +kernel) rfl
theorem imX2_widthFrom : Cond.instanceMethod yX2_widthFrom ∈ Ug := ug_in 424 (by decide +kernel) rfl
theorem seX2_widthFrom : Cond.selects RX2 yX2_widthFrom yX2_widthFrom ∈ Ug := ug_in 425 (by decide +kernel) rfl
theorem coX2_widthFrom : Cond.code yX2_widthFrom cX2_widthFrom 3 (some .int) ∈ Ug := ug_in 426 (by decide +kernel) rfl
theorem ml_L_83 : Cond.methodLink RL 83 yX5_all ∈ Ug := ug_in 427 (by decide +kernel) rfl
theorem imX5_all : Cond.instanceMethod yX5_all ∈ Ug := ug_in 428 (by decide +kernel) rfl
theorem seX5_all : Cond.selects RX5 yX5_all yX5_all ∈ Ug := ug_in 429 (by decide +kernel) rfl
theorem coX5_all : Cond.code yX5_all cX5_all 2 (some .int) ∈ Ug := ug_in 430 (by decide +kernel) rfl
theorem ml_X5_188 : Cond.methodLink RX5 188 yX2_costOfAll ∈ Ug := ug_in 431 (by decide +kernel) rfl
theorem imX2_costOfAll : Cond.instanceMethod yX2_costOfAll ∈ Ug := ug_in 432 (by decide +kernel) rfl
theorem seX2_costOfAll : Cond.selects RX2 yX2_costOfAll yX2_costOfAll ∈ Ug := ug_in 433 (by decide +kernel) rfl
theorem coX2_costOfAll : Cond.code yX2_costOfAll cX2_costOfAll 5 (some .int) ∈ Ug := ug_in 434 (by decide +kernel) rfl
theorem ml_X5_191 : Cond.methodLink RX5 191 yX2_usedSides ∈ Ug := ug_in 435 (by decide +kernel) rfl
theorem imX2_usedSides : Cond.instanceMethod yX2_usedSides ∈ Ug := ug_in 436 (by decide +kernel) rfl
theorem seX2_usedSides : Cond.selects RX2 yX2_usedSides yX2_usedSides ∈ Ug := ug_in 437 (by decide +kernel) rfl
theorem coX2_usedSides : Cond.code yX2_usedSides cX2_usedSides 3 (some .int) ∈ Ug := ug_in 438 (by decide +kernel) rfl
theorem ml_X5_194 : Cond.methodLink RX5 194 yX2_greatestWidth ∈ Ug := ug_in 439 (by decide +kernel) rfl
theorem imX2_greatestWidth : Cond.instanceMethod yX2_greatestWidth ∈ Ug := ug_in 440 (by decide +kernel) rfl
theorem seX2_greatestWidth : Cond.selects RX2 yX2_greatestWidth yX2_greatestWidth ∈ Ug := ug_in 441 (by decide +kernel) rfl
theorem coX2_greatestWidth : Cond.code yX2_greatestWidth cX2_greatestWidth 3 (some .int) ∈ Ug := ug_in 442 (by decide +kernel) rfl
theorem ml_X5_197 : Cond.methodLink RX5 197 yX2_forks ∈ Ug := ug_in 443 (by decide +kernel) rfl
theorem imX2_forks : Cond.instanceMethod yX2_forks ∈ Ug := ug_in 444 (by decide +kernel) rfl
theorem seX2_forks : Cond.selects RX2 yX2_forks yX2_forks ∈ Ug := ug_in 445 (by decide +kernel) rfl
theorem coX2_forks : Cond.code yX2_forks cX2_forks 3 (some .int) ∈ Ug := ug_in 446 (by decide +kernel) rfl
theorem ml_X2_104 : Cond.methodLink RX2 104 yX2_isFork ∈ Ug := ug_in 447 (by decide +kernel) rfl
theorem imX2_isFork : Cond.instanceMethod yX2_isFork ∈ Ug := ug_in 449 (by decide +kernel) rfl
theorem coX2_isFork : Cond.code yX2_isFork cX2_isFork 6 (some .boolean) ∈ Ug := ug_in 450 (by decide +kernel) rfl
theorem ml_X5_200 : Cond.methodLink RX5 200 yX2_crossings ∈ Ug := ug_in 451 (by decide +kernel) rfl
theorem imX2_crossings : Cond.instanceMethod yX2_crossings ∈ Ug := ug_in 452 (by decide +kernel) rfl
theorem seX2_crossings : Cond.selects RX2 yX2_crossings yX2_crossings ∈ Ug := ug_in 453 (by decide +kernel) rfl
theorem coX2_crossings : Cond.code yX2_crossings cX2_crossings 5 (some .int) ∈ Ug := ug_in 454 (by decide +kernel) rfl
theorem ml_X5_203 : Cond.methodLink RX5 203 yX5_sidesOfWays ∈ Ug := ug_in 455 (by decide +kernel) rfl
theorem imX5_sidesOfWays : Cond.instanceMethod yX5_sidesOfWays ∈ Ug := ug_in 457 (by decide +kernel) rfl
theorem coX5_sidesOfWays : Cond.code yX5_sidesOfWays cX5_sidesOfWays 3 (some .int) ∈ Ug := ug_in 458 (by decide +kernel) rfl
theorem ml_L_87 : Cond.methodLink RL 87 yX5_detour ∈ Ug := ug_in 459 (by decide +kernel) rfl
theorem imX5_detour : Cond.instanceMethod yX5_detour ∈ Ug := ug_in 460 (by decide +kernel) rfl
theorem seX5_detour : Cond.selects RX5 yX5_detour yX5_detour ∈ Ug := ug_in 461 (by decide +kernel) rfl
theorem coX5_detour : Cond.code yX5_detour cX5_detour 2 (some .int) ∈ Ug := ug_in 462 (by decide +kernel) rfl
theorem ml_X5_206 : Cond.methodLink RX5 206 yX1_detourOfWay ∈ Ug := ug_in 463 (by decide +kernel) rfl
theorem imX1_detourOfWay : Cond.instanceMethod yX1_detourOfWay ∈ Ug := ug_in 464 (by decide +kernel) rfl
theorem seX1_detourOfWay : Cond.selects RX1 yX1_detourOfWay yX1_detourOfWay ∈ Ug := ug_in 465 (by decide +kernel) rfl
theorem coX1_detourOfWay : Cond.code yX1_detourOfWay cX1_detourOfWay 2 (some .int) ∈ Ug := ug_in 466 (by decide +kernel) rfl
theorem ml_X1_28 : Cond.methodLink RX1 28 Lib.Math.abs.name ∈ Ug := ug_in 467 (by decide +kernel) rfl
theorem sm_abs : Cond.static Lib.Math.abs.name ∈ Ug := ug_in 468 (by decide +kernel) rfl
theorem co_abs : Cond.code Lib.Math.abs.name Lib.Math.abs.code 1 (some .int) ∈ Ug := ug_in 469 (by decide +kernel) rfl
theorem ct_X1_34 : Cond.constant RX1 34 (-1000000) ∈ Ug := ug_in 470 (by decide +kernel) rfl
theorem ml_L_91 : Cond.methodLink RL 91 yX5_shared ∈ Ug := ug_in 471 (by decide +kernel) rfl
theorem imX5_shared : Cond.instanceMethod yX5_shared ∈ Ug := ug_in 472 (by decide +kernel) rfl
theorem seX5_shared : Cond.selects RX5 yX5_shared yX5_shared ∈ Ug := ug_in 473 (by decide +kernel) rfl
theorem coX5_shared : Cond.code yX5_shared cX5_shared 3 (some .int) ∈ Ug := ug_in 474 (by decide +kernel) rfl
theorem ml_X5_212 : Cond.methodLink RX5 212 yX2_sidesWithAll ∈ Ug := ug_in 475 (by decide +kernel) rfl
theorem imX2_sidesWithAll : Cond.instanceMethod yX2_sidesWithAll ∈ Ug := ug_in 476 (by decide +kernel) rfl
theorem seX2_sidesWithAll : Cond.selects RX2 yX2_sidesWithAll yX2_sidesWithAll ∈ Ug := ug_in 477 (by decide +kernel) rfl
theorem coX2_sidesWithAll : Cond.code yX2_sidesWithAll cX2_sidesWithAll 4 (some .int) ∈ Ug := ug_in 478 (by decide +kernel) rfl
theorem ml_L_95 : Cond.methodLink RL 95 yX5_tint ∈ Ug := ug_in 479 (by decide +kernel) rfl
theorem imX5_tint : Cond.instanceMethod yX5_tint ∈ Ug := ug_in 480 (by decide +kernel) rfl
theorem seX5_tint : Cond.selects RX5 yX5_tint yX5_tint ∈ Ug := ug_in 481 (by decide +kernel) rfl
theorem coX5_tint : Cond.code yX5_tint cX5_tint 2 (some .int) ∈ Ug := ug_in 482 (by decide +kernel) rfl
theorem ml_X5_215 : Cond.methodLink RX5 215 yX5_waysMask ∈ Ug := ug_in 483 (by decide +kernel) rfl
theorem imX5_waysMask : Cond.instanceMethod yX5_waysMask ∈ Ug := ug_in 485 (by decide +kernel) rfl
theorem coX5_waysMask : Cond.code yX5_waysMask cX5_waysMask 3 (some .int) ∈ Ug := ug_in 486 (by decide +kernel) rfl
theorem ml_X5_218 : Cond.methodLink RX5 218 yX4_tintAll ∈ Ug := ug_in 487 (by decide +kernel) rfl
theorem imX4_tintAll : Cond.instanceMethod yX4_tintAll ∈ Ug := ug_in 488 (by decide +kernel) rfl
theorem seX4_tintAll : Cond.selects RX4 yX4_tintAll yX4_tintAll ∈ Ug := ug_in 489 (by decide +kernel) rfl
theorem coX4_tintAll : Cond.code yX4_tintAll cX4_tintAll 4 none ∈ Ug := ug_in 490 (by decide +kernel) rfl
theorem ml_X4_21 : Cond.methodLink RX4 21 yX4_gatherClashes ∈ Ug := ug_in 491 (by decide +kernel) rfl
theorem imX4_gatherClashes : Cond.instanceMethod yX4_gatherClashes ∈ Ug := ug_in 493 (by decide +kernel) rfl
theorem coX4_gatherClashes : Cond.code yX4_gatherClashes cX4_gatherClashes 4 none ∈ Ug := ug_in 494 (by decide +kernel) rfl
theorem ct_X4_25 : Cond.constant RX4 25 (-1000000) ∈ Ug := ug_in 495 (by decide +kernel) rfl
theorem ml_X4_26 : Cond.methodLink RX4 26 yX2_greatestWidth ∈ Ug := ug_in 496 (by decide +kernel) rfl
theorem ml_X4_36 : Cond.methodLink RX4 36 yX4_tintFrom ∈ Ug := ug_in 497 (by decide +kernel) rfl
theorem smX4_tintFrom : Cond.static yX4_tintFrom ∈ Ug := ug_in 498 (by decide +kernel) rfl
theorem coX4_tintFrom : Cond.code yX4_tintFrom cX4_tintFrom 5 (some .boolean) ∈ Ug := ug_in 499 (by decide +kernel) rfl
theorem ml_X4_43 : Cond.methodLink RX4 43 Lib.Math.max.name ∈ Ug := ug_in 500 (by decide +kernel) rfl
theorem ml_L_99 : Cond.methodLink RL 99 yX5_reads ∈ Ug := ug_in 501 (by decide +kernel) rfl
theorem imX5_reads : Cond.instanceMethod yX5_reads ∈ Ug := ug_in 502 (by decide +kernel) rfl
theorem seX5_reads : Cond.selects RX5 yX5_reads yX5_reads ∈ Ug := ug_in 503 (by decide +kernel) rfl
theorem coX5_reads : Cond.code yX5_reads cX5_reads 7 (some .int) ∈ Ug := ug_in 504 (by decide +kernel) rfl
theorem ml_X5_228 : Cond.methodLink RX5 228 yX5_beside ∈ Ug := ug_in 505 (by decide +kernel) rfl
theorem ml_X5_231 : Cond.methodLink RX5 231 yX5_isEndOfWay ∈ Ug := ug_in 506 (by decide +kernel) rfl
theorem imX5_isEndOfWay : Cond.instanceMethod yX5_isEndOfWay ∈ Ug := ug_in 508 (by decide +kernel) rfl
theorem coX5_isEndOfWay : Cond.code yX5_isEndOfWay cX5_isEndOfWay 3 (some .boolean) ∈ Ug := ug_in 509 (by decide +kernel) rfl
theorem ml_X5_234 : Cond.methodLink RX5 234 yX2_onward ∈ Ug := ug_in 510 (by decide +kernel) rfl
theorem imX2_onward : Cond.instanceMethod yX2_onward ∈ Ug := ug_in 511 (by decide +kernel) rfl
theorem seX2_onward : Cond.selects RX2 yX2_onward yX2_onward ∈ Ug := ug_in 512 (by decide +kernel) rfl
theorem coX2_onward : Cond.code yX2_onward cX2_onward 5 (some .int) ∈ Ug := ug_in 513 (by decide +kernel) rfl
theorem ml_L_103 : Cond.methodLink RL 103 yX5_kind ∈ Ug := ug_in 514 (by decide +kernel) rfl
theorem imX5_kind : Cond.instanceMethod yX5_kind ∈ Ug := ug_in 515 (by decide +kernel) rfl
theorem seX5_kind : Cond.selects RX5 yX5_kind yX5_kind ∈ Ug := ug_in 516 (by decide +kernel) rfl
theorem coX5_kind : Cond.code yX5_kind cX5_kind 2 (some .int) ∈ Ug := ug_in 517 (by decide +kernel) rfl
theorem ml_X5_237 : Cond.methodLink RX5 237 yX2_kindOf ∈ Ug := ug_in 518 (by decide +kernel) rfl
theorem imX2_kindOf : Cond.instanceMethod yX2_kindOf ∈ Ug := ug_in 519 (by decide +kernel) rfl
theorem seX2_kindOf : Cond.selects RX2 yX2_kindOf yX2_kindOf ∈ Ug := ug_in 520 (by decide +kernel) rfl
theorem coX2_kindOf : Cond.code yX2_kindOf cX2_kindOf 3 (some .int) ∈ Ug := ug_in 521 (by decide +kernel) rfl
theorem ml_X2_96 : Cond.methodLink RX2 96 yX1_hasWay ∈ Ug := ug_in 522 (by decide +kernel) rfl
theorem ml_X2_100 : Cond.methodLink RX2 100 yX2_sidesWithOthers ∈ Ug := ug_in 523 (by decide +kernel) rfl
theorem imX2_sidesWithOthers : Cond.instanceMethod yX2_sidesWithOthers ∈ Ug := ug_in 524 (by decide +kernel) rfl
theorem seX2_sidesWithOthers : Cond.selects RX2 yX2_sidesWithOthers yX2_sidesWithOthers ∈ Ug := ug_in 525 (by decide +kernel) rfl
theorem coX2_sidesWithOthers : Cond.code yX2_sidesWithOthers cX2_sidesWithOthers 4 (some .int) ∈ Ug := ug_in 526 (by decide +kernel) rfl
theorem ml_L_107 : Cond.methodLink RL 107 yX5_as ∈ Ug := ug_in 527 (by decide +kernel) rfl
theorem imX5_as : Cond.instanceMethod yX5_as ∈ Ug := ug_in 528 (by decide +kernel) rfl
theorem seX5_as : Cond.selects RX5 yX5_as yX5_as ∈ Ug := ug_in 529 (by decide +kernel) rfl
theorem coX5_as : Cond.code yX5_as cX5_as 4 (some .int) ∈ Ug := ug_in 530 (by decide +kernel) rfl
theorem ml_L_111 : Cond.methodLink RL 111 yX5_ask ∈ Ug := ug_in 531 (by decide +kernel) rfl
theorem imX5_ask : Cond.instanceMethod yX5_ask ∈ Ug := ug_in 532 (by decide +kernel) rfl
theorem seX5_ask : Cond.selects RX5 yX5_ask yX5_ask ∈ Ug := ug_in 533 (by decide +kernel) rfl
theorem coX5_ask : Cond.code yX5_ask cX5_ask 4 (some .int) ∈ Ug := ug_in 534 (by decide +kernel) rfl
theorem ml_X5_244 : Cond.methodLink RX5 244 yX5_sizeAsked ∈ Ug := ug_in 535 (by decide +kernel) rfl
theorem imX5_sizeAsked : Cond.instanceMethod yX5_sizeAsked ∈ Ug := ug_in 537 (by decide +kernel) rfl
theorem coX5_sizeAsked : Cond.code yX5_sizeAsked cX5_sizeAsked 2 (some .int) ∈ Ug := ug_in 538 (by decide +kernel) rfl
theorem ml_X5_286 : Cond.methodLink RX5 286 yX5_sizeOfAlone ∈ Ug := ug_in 539 (by decide +kernel) rfl
theorem imX5_sizeOfAlone : Cond.instanceMethod yX5_sizeOfAlone ∈ Ug := ug_in 541 (by decide +kernel) rfl
theorem coX5_sizeOfAlone : Cond.code yX5_sizeOfAlone cX5_sizeOfAlone 2 (some .int) ∈ Ug := ug_in 542 (by decide +kernel) rfl
theorem ml_X5_307 : Cond.methodLink RX5 307 yX5_leave ∈ Ug := ug_in 543 (by decide +kernel) rfl
theorem imX5_leave : Cond.instanceMethod yX5_leave ∈ Ug := ug_in 545 (by decide +kernel) rfl
theorem coX5_leave : Cond.code yX5_leave cX5_leave 2 none ∈ Ug := ug_in 546 (by decide +kernel) rfl
theorem ml_X5_295 : Cond.methodLink RX5 295 yX5_sizeLent ∈ Ug := ug_in 547 (by decide +kernel) rfl
theorem imX5_sizeLent : Cond.instanceMethod yX5_sizeLent ∈ Ug := ug_in 549 (by decide +kernel) rfl
theorem coX5_sizeLent : Cond.code yX5_sizeLent cX5_sizeLent 2 (some .int) ∈ Ug := ug_in 550 (by decide +kernel) rfl
theorem ml_X5_289 : Cond.methodLink RX5 289 yX5_sizeOfBound ∈ Ug := ug_in 551 (by decide +kernel) rfl
theorem imX5_sizeOfBound : Cond.instanceMethod yX5_sizeOfBound ∈ Ug := ug_in 553 (by decide +kernel) rfl
theorem coX5_sizeOfBound : Cond.code yX5_sizeOfBound cX5_sizeOfBound 2 (some .int) ∈ Ug := ug_in 554 (by decide +kernel) rfl
theorem ml_X5_292 : Cond.methodLink RX5 292 yX5_sizeOfForked ∈ Ug := ug_in 555 (by decide +kernel) rfl
theorem imX5_sizeOfForked : Cond.instanceMethod yX5_sizeOfForked ∈ Ug := ug_in 557 (by decide +kernel) rfl
theorem coX5_sizeOfForked : Cond.code yX5_sizeOfForked cX5_sizeOfForked 2 (some .int) ∈ Ug := ug_in 558 (by decide +kernel) rfl
theorem ml_X5_301 : Cond.methodLink RX5 301 yX5_markOfForked ∈ Ug := ug_in 559 (by decide +kernel) rfl
theorem imX5_markOfForked : Cond.instanceMethod yX5_markOfForked ∈ Ug := ug_in 561 (by decide +kernel) rfl
theorem coX5_markOfForked : Cond.code yX5_markOfForked cX5_markOfForked 2 (some .int) ∈ Ug := ug_in 562 (by decide +kernel) rfl
theorem ml_X5_304 : Cond.methodLink RX5 304 yX5_markLent ∈ Ug := ug_in 563 (by decide +kernel) rfl
theorem imX5_markLent : Cond.instanceMethod yX5_markLent ∈ Ug := ug_in 565 (by decide +kernel) rfl
theorem coX5_markLent : Cond.code yX5_markLent cX5_markLent 2 (some .int) ∈ Ug := ug_in 566 (by decide +kernel) rfl
theorem ml_X5_310 : Cond.methodLink RX5 310 yX2_sidesWithOthers ∈ Ug := ug_in 567 (by decide +kernel) rfl
theorem ml_X5_247 : Cond.methodLink RX5 247 yX5_markAsked ∈ Ug := ug_in 568 (by decide +kernel) rfl
theorem imX5_markAsked : Cond.instanceMethod yX5_markAsked ∈ Ug := ug_in 570 (by decide +kernel) rfl
theorem coX5_markAsked : Cond.code yX5_markAsked cX5_markAsked 2 (some .int) ∈ Ug := ug_in 571 (by decide +kernel) rfl
theorem ml_X5_298 : Cond.methodLink RX5 298 yX5_markOfBound ∈ Ug := ug_in 572 (by decide +kernel) rfl
theorem imX5_markOfBound : Cond.instanceMethod yX5_markOfBound ∈ Ug := ug_in 574 (by decide +kernel) rfl
theorem coX5_markOfBound : Cond.code yX5_markOfBound cX5_markOfBound 2 (some .int) ∈ Ug := ug_in 575 (by decide +kernel) rfl
theorem ml_L_115 : Cond.methodLink RL 115 yX5_trace ∈ Ug := ug_in 576 (by decide +kernel) rfl
theorem imX5_trace : Cond.instanceMethod yX5_trace ∈ Ug := ug_in 577 (by decide +kernel) rfl
theorem seX5_trace : Cond.selects RX5 yX5_trace yX5_trace ∈ Ug := ug_in 578 (by decide +kernel) rfl
theorem coX5_trace : Cond.code yX5_trace cX5_trace 2 (some .int) ∈ Ug := ug_in 579 (by decide +kernel) rfl
theorem ml_L_119 : Cond.methodLink RL 119 yX5_count ∈ Ug := ug_in 580 (by decide +kernel) rfl
theorem imX5_count : Cond.instanceMethod yX5_count ∈ Ug := ug_in 581 (by decide +kernel) rfl
theorem seX5_count : Cond.selects RX5 yX5_count yX5_count ∈ Ug := ug_in 582 (by decide +kernel) rfl
theorem coX5_count : Cond.code yX5_count cX5_count 2 (some .int) ∈ Ug := ug_in 583 (by decide +kernel) rfl
theorem ml_X5_250 : Cond.methodLink RX5 250 yX5_sheetsThere ∈ Ug := ug_in 584 (by decide +kernel) rfl
theorem imX5_sheetsThere : Cond.instanceMethod yX5_sheetsThere ∈ Ug := ug_in 586 (by decide +kernel) rfl
theorem coX5_sheetsThere : Cond.code yX5_sheetsThere cX5_sheetsThere 3 (some .int) ∈ Ug := ug_in 587 (by decide +kernel) rfl
theorem ml_X5_253 : Cond.methodLink RX5 253 yJ6_bitCount_0f7a4 ∈ Ug := ug_in 588 (by decide +kernel) rfl
theorem ml_X5_258 : Cond.methodLink RX5 258 yX5_linesOfKind ∈ Ug := ug_in 589 (by decide +kernel) rfl
theorem imX5_linesOfKind : Cond.instanceMethod yX5_linesOfKind ∈ Ug := ug_in 591 (by decide +kernel) rfl
theorem coX5_linesOfKind : Cond.code yX5_linesOfKind cX5_linesOfKind 4 (some .int) ∈ Ug := ug_in 592 (by decide +kernel) rfl
theorem ml_X5_261 : Cond.methodLink RX5 261 yX2_shutPlaces ∈ Ug := ug_in 593 (by decide +kernel) rfl
theorem imX2_shutPlaces : Cond.instanceMethod yX2_shutPlaces ∈ Ug := ug_in 594 (by decide +kernel) rfl
theorem seX2_shutPlaces : Cond.selects RX2 yX2_shutPlaces yX2_shutPlaces ∈ Ug := ug_in 595 (by decide +kernel) rfl
theorem coX2_shutPlaces : Cond.code yX2_shutPlaces cX2_shutPlaces 3 (some .int) ∈ Ug := ug_in 596 (by decide +kernel) rfl
theorem ml_L_123 : Cond.methodLink RL 123 yX5_status ∈ Ug := ug_in 597 (by decide +kernel) rfl
theorem imX5_status : Cond.instanceMethod yX5_status ∈ Ug := ug_in 598 (by decide +kernel) rfl
theorem seX5_status : Cond.selects RX5 yX5_status yX5_status ∈ Ug := ug_in 599 (by decide +kernel) rfl
theorem coX5_status : Cond.code yX5_status cX5_status 1 (some .int) ∈ Ug := ug_in 600 (by decide +kernel) rfl
theorem ml_L_12 : Cond.methodLink RL 12 yX6_init ∈ Ug := ug_in 603 (by decide +kernel) rfl
theorem imX6_init : Cond.instanceMethod yX6_init ∈ Ug := ug_in 604 (by decide +kernel) rfl
theorem coX6_init : Cond.code yX6_init cX6_init 1 none ∈ Ug := ug_in 605 (by decide +kernel) rfl
theorem ml_X6_1 : Cond.methodLink RX6 1 objectInit ∈ Ug := ug_in 606 (by decide +kernel) rfl
theorem fl_X6_62 : Cond.fieldLink RX6 62 "LineBundlesModel" "thrown" "I" ∈ Ug := ug_in 607 (by decide +kernel) rfl
theorem fl_X6_66 : Cond.fieldLink RX6 66 "LineBundlesModel" "status" "I" ∈ Ug := ug_in 608 (by decide +kernel) rfl
theorem fl_X6_7 : Cond.fieldLink RX6 7 "LineBundlesModel" "lane" "[I" ∈ Ug := ug_in 609 (by decide +kernel) rfl
theorem fl_X6_13 : Cond.fieldLink RX6 13 "LineBundlesModel" "many" "[I" ∈ Ug := ug_in 610 (by decide +kernel) rfl
theorem fl_X6_16 : Cond.fieldLink RX6 16 "LineBundlesModel" "item" "[I" ∈ Ug := ug_in 611 (by decide +kernel) rfl
theorem fl_X6_19 : Cond.fieldLink RX6 19 "LineBundlesModel" "isShut" "[Z" ∈ Ug := ug_in 612 (by decide +kernel) rfl
theorem fl_X6_94 : Cond.fieldLink RX6 94 "LineBundlesModel" "points" "I" ∈ Ug := ug_in 613 (by decide +kernel) rfl
theorem fl_X6_23 : Cond.fieldLink RX6 23 "LineBundlesModel" "pointAt" "[I" ∈ Ug := ug_in 614 (by decide +kernel) rfl
theorem fl_X6_102 : Cond.fieldLink RX6 102 "LineBundlesModel" "lines" "I" ∈ Ug := ug_in 615 (by decide +kernel) rfl
theorem fl_X6_26 : Cond.fieldLink RX6 26 "LineBundlesModel" "from" "[I" ∈ Ug := ug_in 616 (by decide +kernel) rfl
theorem fl_X6_29 : Cond.fieldLink RX6 29 "LineBundlesModel" "to" "[I" ∈ Ug := ug_in 617 (by decide +kernel) rfl
theorem fl_X6_32 : Cond.fieldLink RX6 32 "LineBundlesModel" "sides" "[I" ∈ Ug := ug_in 618 (by decide +kernel) rfl
theorem fl_X6_35 : Cond.fieldLink RX6 35 "LineBundlesModel" "way" "[I" ∈ Ug := ug_in 619 (by decide +kernel) rfl
theorem fl_X6_38 : Cond.fieldLink RX6 38 "LineBundlesModel" "uses" "[Z" ∈ Ug := ug_in 620 (by decide +kernel) rfl
theorem fl_X6_41 : Cond.fieldLink RX6 41 "LineBundlesModel" "rule" "[I" ∈ Ug := ug_in 621 (by decide +kernel) rfl
theorem fl_X6_44 : Cond.fieldLink RX6 44 "LineBundlesModel" "cost" "[I" ∈ Ug := ug_in 622 (by decide +kernel) rfl
theorem fl_X6_47 : Cond.fieldLink RX6 47 "LineBundlesModel" "far" "[I" ∈ Ug := ug_in 623 (by decide +kernel) rfl
theorem fl_X6_50 : Cond.fieldLink RX6 50 "LineBundlesModel" "price" "[I" ∈ Ug := ug_in 624 (by decide +kernel) rfl
theorem fl_X6_53 : Cond.fieldLink RX6 53 "LineBundlesModel" "kept" "[I" ∈ Ug := ug_in 625 (by decide +kernel) rfl
theorem fl_X6_56 : Cond.fieldLink RX6 56 "LineBundlesModel" "tint" "[I" ∈ Ug := ug_in 626 (by decide +kernel) rfl
theorem fl_X6_59 : Cond.fieldLink RX6 59 "LineBundlesModel" "trace" "[I" ∈ Ug := ug_in 627 (by decide +kernel) rfl
theorem fl_X6_187 : Cond.fieldLink RX6 187 "LineBundlesModel" "traced" "I" ∈ Ug := ug_in 628 (by decide +kernel) rfl
theorem ml_L_17 : Cond.methodLink RL 17 yX6_sheet ∈ Ug := ug_in 674 (by decide +kernel) rfl
theorem imX6_sheet : Cond.instanceMethod yX6_sheet ∈ Ug := ug_in 675 (by decide +kernel) rfl
theorem seX6_sheet : Cond.selects RX6 yX6_sheet yX6_sheet ∈ Ug := ug_in 676 (by decide +kernel) rfl
theorem coX6_sheet : Cond.code yX6_sheet cX6_sheet 5 (some .int) ∈ Ug := ug_in 677 (by decide +kernel) rfl
theorem ml_X6_76 : Cond.methodLink RX6 76 yX6_isSheet ∈ Ug := ug_in 678 (by decide +kernel) rfl
theorem smX6_isSheet : Cond.static yX6_isSheet ∈ Ug := ug_in 679 (by decide +kernel) rfl
theorem coX6_isSheet : Cond.code yX6_isSheet cX6_isSheet 1 (some .boolean) ∈ Ug := ug_in 680 (by decide +kernel) rfl
theorem ct_X6_70 : Cond.constantLong RX6 70 7 ∈ Ug := ug_in 681 (by decide +kernel) rfl
theorem ml_X6_72 : Cond.methodLink RX6 72 yX6_in ∈ Ug := ug_in 682 (by decide +kernel) rfl
theorem smX6_in : Cond.static yX6_in ∈ Ug := ug_in 683 (by decide +kernel) rfl
theorem coX6_in : Cond.code yX6_in cX6_in 6 (some .boolean) ∈ Ug := ug_in 684 (by decide +kernel) rfl
theorem ct_X6_80 : Cond.constantLong RX6 80 2 ∈ Ug := ug_in 685 (by decide +kernel) rfl
theorem ct_X6_82 : Cond.constant RX6 82 (-1000001) ∈ Ug := ug_in 686 (by decide +kernel) rfl
theorem ml_X6_83 : Cond.methodLink RX6 83 yX6_found ∈ Ug := ug_in 687 (by decide +kernel) rfl
theorem imX6_found : Cond.instanceMethod yX6_found ∈ Ug := ug_in 689 (by decide +kernel) rfl
theorem coX6_found : Cond.code yX6_found cX6_found 2 (some .int) ∈ Ug := ug_in 690 (by decide +kernel) rfl
theorem ct_X6_69 : Cond.constant RX6 69 (-1000010) ∈ Ug := ug_in 691 (by decide +kernel) rfl
theorem ml_L_21 : Cond.methodLink RL 21 yX6_set ∈ Ug := ug_in 692 (by decide +kernel) rfl
theorem imX6_set : Cond.instanceMethod yX6_set ∈ Ug := ug_in 693 (by decide +kernel) rfl
theorem seX6_set : Cond.selects RX6 yX6_set yX6_set ∈ Ug := ug_in 694 (by decide +kernel) rfl
theorem coX6_set : Cond.code yX6_set cX6_set 4 (some .int) ∈ Ug := ug_in 695 (by decide +kernel) rfl
theorem ml_L_26 : Cond.methodLink RL 26 yX6_copy ∈ Ug := ug_in 696 (by decide +kernel) rfl
theorem imX6_copy : Cond.instanceMethod yX6_copy ∈ Ug := ug_in 697 (by decide +kernel) rfl
theorem seX6_copy : Cond.selects RX6 yX6_copy yX6_copy ∈ Ug := ug_in 698 (by decide +kernel) rfl
theorem coX6_copy : Cond.code yX6_copy cX6_copy 9 (some .int) ∈ Ug := ug_in 699 (by decide +kernel) rfl
theorem ml_L_31 : Cond.methodLink RL 31 yX6_drop ∈ Ug := ug_in 700 (by decide +kernel) rfl
theorem imX6_drop : Cond.instanceMethod yX6_drop ∈ Ug := ug_in 701 (by decide +kernel) rfl
theorem seX6_drop : Cond.selects RX6 yX6_drop yX6_drop ∈ Ug := ug_in 702 (by decide +kernel) rfl
theorem coX6_drop : Cond.code yX6_drop cX6_drop 2 (some .int) ∈ Ug := ug_in 703 (by decide +kernel) rfl
theorem ml_L_36 : Cond.methodLink RL 36 yX6_point ∈ Ug := ug_in 704 (by decide +kernel) rfl
theorem imX6_point : Cond.instanceMethod yX6_point ∈ Ug := ug_in 705 (by decide +kernel) rfl
theorem seX6_point : Cond.selects RX6 yX6_point yX6_point ∈ Ug := ug_in 706 (by decide +kernel) rfl
theorem coX6_point : Cond.code yX6_point cX6_point 4 (some .int) ∈ Ug := ug_in 707 (by decide +kernel) rfl
theorem ml_X6_89 : Cond.methodLink RX6 89 yX6_isOn ∈ Ug := ug_in 708 (by decide +kernel) rfl
theorem smX6_isOn : Cond.static yX6_isOn ∈ Ug := ug_in 709 (by decide +kernel) rfl
theorem coX6_isOn : Cond.code yX6_isOn cX6_isOn 2 (some .boolean) ∈ Ug := ug_in 710 (by decide +kernel) rfl
theorem ct_X6_87 : Cond.constantLong RX6 87 9 ∈ Ug := ug_in 711 (by decide +kernel) rfl
theorem ml_X6_97 : Cond.methodLink RX6 97 yX6_pointOn ∈ Ug := ug_in 712 (by decide +kernel) rfl
theorem imX6_pointOn : Cond.instanceMethod yX6_pointOn ∈ Ug := ug_in 714 (by decide +kernel) rfl
theorem coX6_pointOn : Cond.code yX6_pointOn cX6_pointOn 4 (some .int) ∈ Ug := ug_in 715 (by decide +kernel) rfl
theorem ct_X6_93 : Cond.constant RX6 93 (-1000000) ∈ Ug := ug_in 716 (by decide +kernel) rfl
theorem ct_X6_100 : Cond.constant RX6 100 (-1000002) ∈ Ug := ug_in 717 (by decide +kernel) rfl
theorem ct_X6_101 : Cond.constant RX6 101 (-1000003) ∈ Ug := ug_in 718 (by decide +kernel) rfl
theorem ml_L_40 : Cond.methodLink RL 40 yX6_shut ∈ Ug := ug_in 719 (by decide +kernel) rfl
theorem imX6_shut : Cond.instanceMethod yX6_shut ∈ Ug := ug_in 720 (by decide +kernel) rfl
theorem seX6_shut : Cond.selects RX6 yX6_shut yX6_shut ∈ Ug := ug_in 721 (by decide +kernel) rfl
theorem coX6_shut : Cond.code yX6_shut cX6_shut 4 (some .int) ∈ Ug := ug_in 722 (by decide +kernel) rfl
theorem ml_X6_115 : Cond.methodLink RX6 115 yX6_isOfWay ∈ Ug := ug_in 723 (by decide +kernel) rfl
theorem imX6_isOfWay : Cond.instanceMethod yX6_isOfWay ∈ Ug := ug_in 725 (by decide +kernel) rfl
theorem coX6_isOfWay : Cond.code yX6_isOfWay cX6_isOfWay 4 (some .boolean) ∈ Ug := ug_in 726 (by decide +kernel) rfl
theorem ml_X6_105 : Cond.methodLink RX6 105 yX6_go ∈ Ug := ug_in 727 (by decide +kernel) rfl
theorem smX6_go : Cond.static yX6_go ∈ Ug := ug_in 728 (by decide +kernel) rfl
theorem coX6_go : Cond.code yX6_go cX6_go 4 (some .int) ∈ Ug := ug_in 729 (by decide +kernel) rfl
theorem ml_X6_109 : Cond.methodLink RX6 109 yX6_side ∈ Ug := ug_in 730 (by decide +kernel) rfl
theorem smX6_side : Cond.static yX6_side ∈ Ug := ug_in 731 (by decide +kernel) rfl
theorem coX6_side : Cond.code yX6_side cX6_side 4 (some .int) ∈ Ug := ug_in 732 (by decide +kernel) rfl
theorem ml_X6_112 : Cond.methodLink RX6 112 yX6_widthOf ∈ Ug := ug_in 733 (by decide +kernel) rfl
theorem imX6_widthOf : Cond.instanceMethod yX6_widthOf ∈ Ug := ug_in 735 (by decide +kernel) rfl
theorem coX6_widthOf : Cond.code yX6_widthOf cX6_widthOf 4 (some .int) ∈ Ug := ug_in 736 (by decide +kernel) rfl
theorem ml_L_44 : Cond.methodLink RL 44 yX6_open ∈ Ug := ug_in 737 (by decide +kernel) rfl
theorem imX6_open : Cond.instanceMethod yX6_open ∈ Ug := ug_in 738 (by decide +kernel) rfl
theorem seX6_open : Cond.selects RX6 yX6_open yX6_open ∈ Ug := ug_in 739 (by decide +kernel) rfl
theorem coX6_open : Cond.code yX6_open cX6_open 4 (some .int) ∈ Ug := ug_in 740 (by decide +kernel) rfl
theorem ml_L_48 : Cond.methodLink RL 48 yX6_line ∈ Ug := ug_in 741 (by decide +kernel) rfl
theorem imX6_line : Cond.instanceMethod yX6_line ∈ Ug := ug_in 742 (by decide +kernel) rfl
theorem seX6_line : Cond.selects RX6 yX6_line yX6_line ∈ Ug := ug_in 743 (by decide +kernel) rfl
theorem coX6_line : Cond.code yX6_line cX6_line 3 (some .int) ∈ Ug := ug_in 744 (by decide +kernel) rfl
theorem ml_X6_118 : Cond.methodLink RX6 118 yX6_isPoint ∈ Ug := ug_in 745 (by decide +kernel) rfl
theorem imX6_isPoint : Cond.instanceMethod yX6_isPoint ∈ Ug := ug_in 747 (by decide +kernel) rfl
theorem coX6_isPoint : Cond.code yX6_isPoint cX6_isPoint 2 (some .boolean) ∈ Ug := ug_in 748 (by decide +kernel) rfl
theorem ml_L_52 : Cond.methodLink RL 52 yX6_rule ∈ Ug := ug_in 749 (by decide +kernel) rfl
theorem imX6_rule : Cond.instanceMethod yX6_rule ∈ Ug := ug_in 750 (by decide +kernel) rfl
theorem seX6_rule : Cond.selects RX6 yX6_rule yX6_rule ∈ Ug := ug_in 751 (by decide +kernel) rfl
theorem coX6_rule : Cond.code yX6_rule cX6_rule 4 (some .int) ∈ Ug := ug_in 752 (by decide +kernel) rfl
theorem ct_X6_121 : Cond.constantLong RX6 121 100 ∈ Ug := ug_in 753 (by decide +kernel) rfl
theorem ct_X6_123 : Cond.constantLong RX6 123 50 ∈ Ug := ug_in 754 (by decide +kernel) rfl
theorem ml_L_56 : Cond.methodLink RL 56 yX6_lead ∈ Ug := ug_in 755 (by decide +kernel) rfl
theorem imX6_lead : Cond.instanceMethod yX6_lead ∈ Ug := ug_in 756 (by decide +kernel) rfl
theorem seX6_lead : Cond.selects RX6 yX6_lead yX6_lead ∈ Ug := ug_in 757 (by decide +kernel) rfl
theorem coX6_lead : Cond.code yX6_lead cX6_lead 2 (some .int) ∈ Ug := ug_in 758 (by decide +kernel) rfl
theorem ml_X6_128 : Cond.methodLink RX6 128 yX6_isLine ∈ Ug := ug_in 759 (by decide +kernel) rfl
theorem imX6_isLine : Cond.instanceMethod yX6_isLine ∈ Ug := ug_in 761 (by decide +kernel) rfl
theorem coX6_isLine : Cond.code yX6_isLine cX6_isLine 2 (some .boolean) ∈ Ug := ug_in 762 (by decide +kernel) rfl
theorem ml_X6_131 : Cond.methodLink RX6 131 yX6_wipe ∈ Ug := ug_in 763 (by decide +kernel) rfl
theorem imX6_wipe : Cond.instanceMethod yX6_wipe ∈ Ug := ug_in 765 (by decide +kernel) rfl
theorem coX6_wipe : Cond.code yX6_wipe cX6_wipe 3 none ∈ Ug := ug_in 766 (by decide +kernel) rfl
theorem ml_X6_135 : Cond.methodLink RX6 135 yX6_find ∈ Ug := ug_in 767 (by decide +kernel) rfl
theorem imX6_find : Cond.instanceMethod yX6_find ∈ Ug := ug_in 769 (by decide +kernel) rfl
theorem coX6_find : Cond.code yX6_find cX6_find 8 (some .boolean) ∈ Ug := ug_in 770 (by decide +kernel) rfl
theorem ml_X6_125 : Cond.methodLink RX6 125 yX6_costOf ∈ Ug := ug_in 771 (by decide +kernel) rfl
theorem imX6_costOf : Cond.instanceMethod yX6_costOf ∈ Ug := ug_in 773 (by decide +kernel) rfl
theorem coX6_costOf : Cond.code yX6_costOf cX6_costOf 3 (some .int) ∈ Ug := ug_in 774 (by decide +kernel) rfl
theorem ml_X6_138 : Cond.methodLink RX6 138 yX6_follow ∈ Ug := ug_in 775 (by decide +kernel) rfl
theorem imX6_follow : Cond.instanceMethod yX6_follow ∈ Ug := ug_in 777 (by decide +kernel) rfl
theorem coX6_follow : Cond.code yX6_follow cX6_follow 7 none ∈ Ug := ug_in 778 (by decide +kernel) rfl
theorem ml_L_61 : Cond.methodLink RL 61 yX6_lay ∈ Ug := ug_in 779 (by decide +kernel) rfl
theorem imX6_lay : Cond.instanceMethod yX6_lay ∈ Ug := ug_in 780 (by decide +kernel) rfl
theorem seX6_lay : Cond.selects RX6 yX6_lay yX6_lay ∈ Ug := ug_in 781 (by decide +kernel) rfl
theorem coX6_lay : Cond.code yX6_lay cX6_lay 10 (some .int) ∈ Ug := ug_in 782 (by decide +kernel) rfl
theorem ct_X6_141 : Cond.constantLong RX6 141 40 ∈ Ug := ug_in 783 (by decide +kernel) rfl
theorem ct_X6_143 : Cond.constantLong RX6 143 3 ∈ Ug := ug_in 784 (by decide +kernel) rfl
theorem ml_L_65 : Cond.methodLink RL 65 yX6_take ∈ Ug := ug_in 785 (by decide +kernel) rfl
theorem imX6_take : Cond.instanceMethod yX6_take ∈ Ug := ug_in 786 (by decide +kernel) rfl
theorem seX6_take : Cond.selects RX6 yX6_take yX6_take ∈ Ug := ug_in 787 (by decide +kernel) rfl
theorem coX6_take : Cond.code yX6_take cX6_take 3 (some .int) ∈ Ug := ug_in 788 (by decide +kernel) rfl
theorem ml_L_70 : Cond.methodLink RL 70 yX6_pass ∈ Ug := ug_in 789 (by decide +kernel) rfl
theorem imX6_pass : Cond.instanceMethod yX6_pass ∈ Ug := ug_in 790 (by decide +kernel) rfl
theorem seX6_pass : Cond.selects RX6 yX6_pass yX6_pass ∈ Ug := ug_in 791 (by decide +kernel) rfl
theorem coX6_pass : Cond.code yX6_pass cX6_pass 1 (some .int) ∈ Ug := ug_in 792 (by decide +kernel) rfl
theorem ml_X6_148 : Cond.methodLink RX6 148 yX6_passed ∈ Ug := ug_in 793 (by decide +kernel) rfl
theorem imX6_passed : Cond.instanceMethod yX6_passed ∈ Ug := ug_in 795 (by decide +kernel) rfl
theorem coX6_passed : Cond.code yX6_passed cX6_passed 8 (some .int) ∈ Ug := ug_in 796 (by decide +kernel) rfl
theorem ml_X6_145 : Cond.methodLink RX6 145 yX6_ownCost ∈ Ug := ug_in 797 (by decide +kernel) rfl
theorem imX6_ownCost : Cond.instanceMethod yX6_ownCost ∈ Ug := ug_in 799 (by decide +kernel) rfl
theorem coX6_ownCost : Cond.code yX6_ownCost cX6_ownCost 4 (some .int) ∈ Ug := ug_in 800 (by decide +kernel) rfl
theorem ml_L_74 : Cond.methodLink RL 74 yX6_rest ∈ Ug := ug_in 801 (by decide +kernel) rfl
theorem imX6_rest : Cond.instanceMethod yX6_rest ∈ Ug := ug_in 802 (by decide +kernel) rfl
theorem seX6_rest : Cond.selects RX6 yX6_rest yX6_rest ∈ Ug := ug_in 803 (by decide +kernel) rfl
theorem coX6_rest : Cond.code yX6_rest cX6_rest 2 (some .int) ∈ Ug := ug_in 804 (by decide +kernel) rfl
theorem ml_L_78 : Cond.methodLink RL 78 yX6_way ∈ Ug := ug_in 805 (by decide +kernel) rfl
theorem imX6_way : Cond.instanceMethod yX6_way ∈ Ug := ug_in 806 (by decide +kernel) rfl
theorem seX6_way : Cond.selects RX6 yX6_way yX6_way ∈ Ug := ug_in 807 (by decide +kernel) rfl
theorem coX6_way : Cond.code yX6_way cX6_way 3 (some .int) ∈ Ug := ug_in 808 (by decide +kernel) rfl
theorem ml_L_82 : Cond.methodLink RL 82 yX6_width ∈ Ug := ug_in 809 (by decide +kernel) rfl
theorem imX6_width : Cond.instanceMethod yX6_width ∈ Ug := ug_in 810 (by decide +kernel) rfl
theorem seX6_width : Cond.selects RX6 yX6_width yX6_width ∈ Ug := ug_in 811 (by decide +kernel) rfl
theorem coX6_width : Cond.code yX6_width cX6_width 4 (some .int) ∈ Ug := ug_in 812 (by decide +kernel) rfl
theorem ml_L_86 : Cond.methodLink RL 86 yX6_all ∈ Ug := ug_in 813 (by decide +kernel) rfl
theorem imX6_all : Cond.instanceMethod yX6_all ∈ Ug := ug_in 814 (by decide +kernel) rfl
theorem seX6_all : Cond.selects RX6 yX6_all yX6_all ∈ Ug := ug_in 815 (by decide +kernel) rfl
theorem coX6_all : Cond.code yX6_all cX6_all 9 (some .int) ∈ Ug := ug_in 816 (by decide +kernel) rfl
theorem ct_X6_152 : Cond.constantLong RX6 152 5 ∈ Ug := ug_in 817 (by decide +kernel) rfl
theorem ml_X6_154 : Cond.methodLink RX6 154 yX6_at ∈ Ug := ug_in 818 (by decide +kernel) rfl
theorem imX6_at : Cond.instanceMethod yX6_at ∈ Ug := ug_in 820 (by decide +kernel) rfl
theorem coX6_at : Cond.code yX6_at cX6_at 5 (some .int) ∈ Ug := ug_in 821 (by decide +kernel) rfl
theorem ml_L_90 : Cond.methodLink RL 90 yX6_detour ∈ Ug := ug_in 822 (by decide +kernel) rfl
theorem imX6_detour : Cond.instanceMethod yX6_detour ∈ Ug := ug_in 823 (by decide +kernel) rfl
theorem seX6_detour : Cond.selects RX6 yX6_detour yX6_detour ∈ Ug := ug_in 824 (by decide +kernel) rfl
theorem coX6_detour : Cond.code yX6_detour cX6_detour 2 (some .int) ∈ Ug := ug_in 825 (by decide +kernel) rfl
theorem ml_X6_160 : Cond.methodLink RX6 160 yX6_detourOf ∈ Ug := ug_in 826 (by decide +kernel) rfl
theorem imX6_detourOf : Cond.instanceMethod yX6_detourOf ∈ Ug := ug_in 828 (by decide +kernel) rfl
theorem coX6_detourOf : Cond.code yX6_detourOf cX6_detourOf 4 (some .int) ∈ Ug := ug_in 829 (by decide +kernel) rfl
theorem ml_X6_157 : Cond.methodLink RX6 157 yX6_size ∈ Ug := ug_in 830 (by decide +kernel) rfl
theorem smX6_size : Cond.static yX6_size ∈ Ug := ug_in 831 (by decide +kernel) rfl
theorem coX6_size : Cond.code yX6_size cX6_size 1 (some .int) ∈ Ug := ug_in 832 (by decide +kernel) rfl
theorem ml_L_94 : Cond.methodLink RL 94 yX6_shared ∈ Ug := ug_in 833 (by decide +kernel) rfl
theorem imX6_shared : Cond.instanceMethod yX6_shared ∈ Ug := ug_in 834 (by decide +kernel) rfl
theorem seX6_shared : Cond.selects RX6 yX6_shared yX6_shared ∈ Ug := ug_in 835 (by decide +kernel) rfl
theorem coX6_shared : Cond.code yX6_shared cX6_shared 3 (some .int) ∈ Ug := ug_in 836 (by decide +kernel) rfl
theorem ml_X6_163 : Cond.methodLink RX6 163 yX6_sharedBy ∈ Ug := ug_in 837 (by decide +kernel) rfl
theorem imX6_sharedBy : Cond.instanceMethod yX6_sharedBy ∈ Ug := ug_in 839 (by decide +kernel) rfl
theorem coX6_sharedBy : Cond.code yX6_sharedBy cX6_sharedBy 5 (some .int) ∈ Ug := ug_in 840 (by decide +kernel) rfl
theorem ml_L_98 : Cond.methodLink RL 98 yX6_tint ∈ Ug := ug_in 841 (by decide +kernel) rfl
theorem imX6_tint : Cond.instanceMethod yX6_tint ∈ Ug := ug_in 842 (by decide +kernel) rfl
theorem seX6_tint : Cond.selects RX6 yX6_tint yX6_tint ∈ Ug := ug_in 843 (by decide +kernel) rfl
theorem coX6_tint : Cond.code yX6_tint cX6_tint 3 (some .int) ∈ Ug := ug_in 844 (by decide +kernel) rfl
theorem ml_X6_169 : Cond.methodLink RX6 169 yX6_ways ∈ Ug := ug_in 845 (by decide +kernel) rfl
theorem imX6_ways : Cond.instanceMethod yX6_ways ∈ Ug := ug_in 847 (by decide +kernel) rfl
theorem coX6_ways : Cond.code yX6_ways cX6_ways 3 (some .int) ∈ Ug := ug_in 848 (by decide +kernel) rfl
theorem ml_X6_172 : Cond.methodLink RX6 172 yX6_tints ∈ Ug := ug_in 849 (by decide +kernel) rfl
theorem imX6_tints : Cond.instanceMethod yX6_tints ∈ Ug := ug_in 851 (by decide +kernel) rfl
theorem coX6_tints : Cond.code yX6_tints cX6_tints 5 (some .boolean) ∈ Ug := ug_in 852 (by decide +kernel) rfl
theorem ml_X6_166 : Cond.methodLink RX6 166 yX6_fits ∈ Ug := ug_in 853 (by decide +kernel) rfl
theorem imX6_fits : Cond.instanceMethod yX6_fits ∈ Ug := ug_in 855 (by decide +kernel) rfl
theorem coX6_fits : Cond.code yX6_fits cX6_fits 4 (some .boolean) ∈ Ug := ug_in 856 (by decide +kernel) rfl
theorem ml_L_102 : Cond.methodLink RL 102 yX6_reads ∈ Ug := ug_in 857 (by decide +kernel) rfl
theorem imX6_reads : Cond.instanceMethod yX6_reads ∈ Ug := ug_in 858 (by decide +kernel) rfl
theorem seX6_reads : Cond.selects RX6 yX6_reads yX6_reads ∈ Ug := ug_in 859 (by decide +kernel) rfl
theorem coX6_reads : Cond.code yX6_reads cX6_reads 7 (some .int) ∈ Ug := ug_in 860 (by decide +kernel) rfl
theorem ml_X6_175 : Cond.methodLink RX6 175 yX6_isWide ∈ Ug := ug_in 861 (by decide +kernel) rfl
theorem imX6_isWide : Cond.instanceMethod yX6_isWide ∈ Ug := ug_in 863 (by decide +kernel) rfl
theorem coX6_isWide : Cond.code yX6_isWide cX6_isWide 3 (some .boolean) ∈ Ug := ug_in 864 (by decide +kernel) rfl
theorem ml_X6_178 : Cond.methodLink RX6 178 yX6_isEnd ∈ Ug := ug_in 865 (by decide +kernel) rfl
theorem imX6_isEnd : Cond.instanceMethod yX6_isEnd ∈ Ug := ug_in 867 (by decide +kernel) rfl
theorem coX6_isEnd : Cond.code yX6_isEnd cX6_isEnd 4 (some .boolean) ∈ Ug := ug_in 868 (by decide +kernel) rfl
theorem ml_L_106 : Cond.methodLink RL 106 yX6_kind ∈ Ug := ug_in 869 (by decide +kernel) rfl
theorem imX6_kind : Cond.instanceMethod yX6_kind ∈ Ug := ug_in 870 (by decide +kernel) rfl
theorem seX6_kind : Cond.selects RX6 yX6_kind yX6_kind ∈ Ug := ug_in 871 (by decide +kernel) rfl
theorem coX6_kind : Cond.code yX6_kind cX6_kind 2 (some .int) ∈ Ug := ug_in 872 (by decide +kernel) rfl
theorem ml_X6_184 : Cond.methodLink RX6 184 yX6_kindOf ∈ Ug := ug_in 873 (by decide +kernel) rfl
theorem imX6_kindOf : Cond.instanceMethod yX6_kindOf ∈ Ug := ug_in 875 (by decide +kernel) rfl
theorem coX6_kindOf : Cond.code yX6_kindOf cX6_kindOf 3 (some .int) ∈ Ug := ug_in 876 (by decide +kernel) rfl
theorem ml_X6_181 : Cond.methodLink RX6 181 yX6_sharing ∈ Ug := ug_in 877 (by decide +kernel) rfl
theorem imX6_sharing : Cond.instanceMethod yX6_sharing ∈ Ug := ug_in 879 (by decide +kernel) rfl
theorem coX6_sharing : Cond.code yX6_sharing cX6_sharing 4 (some .int) ∈ Ug := ug_in 880 (by decide +kernel) rfl
theorem ml_L_110 : Cond.methodLink RL 110 yX6_as ∈ Ug := ug_in 881 (by decide +kernel) rfl
theorem imX6_as : Cond.instanceMethod yX6_as ∈ Ug := ug_in 882 (by decide +kernel) rfl
theorem seX6_as : Cond.selects RX6 yX6_as yX6_as ∈ Ug := ug_in 883 (by decide +kernel) rfl
theorem coX6_as : Cond.code yX6_as cX6_as 3 (some .int) ∈ Ug := ug_in 884 (by decide +kernel) rfl
theorem ml_L_114 : Cond.methodLink RL 114 yX6_ask ∈ Ug := ug_in 885 (by decide +kernel) rfl
theorem imX6_ask : Cond.instanceMethod yX6_ask ∈ Ug := ug_in 886 (by decide +kernel) rfl
theorem seX6_ask : Cond.selects RX6 yX6_ask yX6_ask ∈ Ug := ug_in 887 (by decide +kernel) rfl
theorem coX6_ask : Cond.code yX6_ask cX6_ask 3 (some .int) ∈ Ug := ug_in 888 (by decide +kernel) rfl
theorem ml_X6_193 : Cond.methodLink RX6 193 yX6_sized ∈ Ug := ug_in 889 (by decide +kernel) rfl
theorem imX6_sized : Cond.instanceMethod yX6_sized ∈ Ug := ug_in 891 (by decide +kernel) rfl
theorem coX6_sized : Cond.code yX6_sized cX6_sized 3 (some .int) ∈ Ug := ug_in 892 (by decide +kernel) rfl
theorem ml_X6_190 : Cond.methodLink RX6 190 yX6_began ∈ Ug := ug_in 893 (by decide +kernel) rfl
theorem imX6_began : Cond.instanceMethod yX6_began ∈ Ug := ug_in 895 (by decide +kernel) rfl
theorem coX6_began : Cond.code yX6_began cX6_began 2 none ∈ Ug := ug_in 896 (by decide +kernel) rfl
theorem ml_X6_196 : Cond.methodLink RX6 196 yX6_marked ∈ Ug := ug_in 897 (by decide +kernel) rfl
theorem imX6_marked : Cond.instanceMethod yX6_marked ∈ Ug := ug_in 899 (by decide +kernel) rfl
theorem coX6_marked : Cond.code yX6_marked cX6_marked 4 (some .int) ∈ Ug := ug_in 900 (by decide +kernel) rfl
theorem ml_L_118 : Cond.methodLink RL 118 yX6_trace ∈ Ug := ug_in 901 (by decide +kernel) rfl
theorem imX6_trace : Cond.instanceMethod yX6_trace ∈ Ug := ug_in 902 (by decide +kernel) rfl
theorem seX6_trace : Cond.selects RX6 yX6_trace yX6_trace ∈ Ug := ug_in 903 (by decide +kernel) rfl
theorem coX6_trace : Cond.code yX6_trace cX6_trace 2 (some .int) ∈ Ug := ug_in 904 (by decide +kernel) rfl
theorem ml_L_122 : Cond.methodLink RL 122 yX6_count ∈ Ug := ug_in 905 (by decide +kernel) rfl
theorem imX6_count : Cond.instanceMethod yX6_count ∈ Ug := ug_in 906 (by decide +kernel) rfl
theorem seX6_count : Cond.selects RX6 yX6_count yX6_count ∈ Ug := ug_in 907 (by decide +kernel) rfl
theorem coX6_count : Cond.code yX6_count cX6_count 4 (some .int) ∈ Ug := ug_in 908 (by decide +kernel) rfl
theorem ml_L_126 : Cond.methodLink RL 126 yX6_status ∈ Ug := ug_in 909 (by decide +kernel) rfl
theorem imX6_status : Cond.instanceMethod yX6_status ∈ Ug := ug_in 910 (by decide +kernel) rfl
theorem seX6_status : Cond.selects RX6 yX6_status yX6_status ∈ Ug := ug_in 911 (by decide +kernel) rfl
theorem coX6_status : Cond.code yX6_status cX6_status 1 (some .int) ∈ Ug := ug_in 912 (by decide +kernel) rfl
theorem seX5_found : Cond.selects RX5 yX5_found yX5_found ∈ Ug := ug_sel (yX5_found, 11) 0 (by decide +kernel)
theorem seX5_unfound : Cond.selects RX5 yX5_unfound yX5_unfound ∈ Ug := ug_sel (yX5_unfound, 11) 1 (by decide +kernel)
theorem seX5_turn : Cond.selects RX5 yX5_turn yX5_turn ∈ Ug := ug_sel (yX5_turn, 11) 2 (by decide +kernel)
theorem seX5_isPoint : Cond.selects RX5 yX5_isPoint yX5_isPoint ∈ Ug := ug_sel (yX5_isPoint, 11) 3 (by decide +kernel)
theorem seX5_isLine : Cond.selects RX5 yX5_isLine yX5_isLine ∈ Ug := ug_sel (yX5_isLine, 11) 4 (by decide +kernel)
theorem seX0_spread : Cond.selects RX0 yX0_spread yX0_spread ∈ Ug := ug_sel (yX0_spread, 6) 5 (by decide +kernel)
theorem seX0_reach : Cond.selects RX0 yX0_reach yX0_reach ∈ Ug := ug_sel (yX0_reach, 6) 6 (by decide +kernel)
theorem seX0_pull : Cond.selects RX0 yX0_pull yX0_pull ∈ Ug := ug_sel (yX0_pull, 6) 7 (by decide +kernel)
theorem seX0_reachFrom : Cond.selects RX0 yX0_reachFrom yX0_reachFrom ∈ Ug := ug_sel (yX0_reachFrom, 6) 8 (by decide +kernel)
theorem seX0_leastDirection : Cond.selects RX0 yX0_leastDirection yX0_leastDirection ∈ Ug := ug_sel (yX0_leastDirection, 6) 9 (by decide +kernel)
theorem seX2_flipAlong : Cond.selects RX2 yX2_flipAlong yX2_flipAlong ∈ Ug := ug_sel (yX2_flipAlong, 7) 10 (by decide +kernel)
theorem seX5_goThroughLines : Cond.selects RX5 yX5_goThroughLines yX5_goThroughLines ∈ Ug := ug_sel (yX5_goThroughLines, 11) 11 (by decide +kernel)
theorem seX5_leadIfBetter : Cond.selects RX5 yX5_leadIfBetter yX5_leadIfBetter ∈ Ug := ug_sel (yX5_leadIfBetter, 11) 12 (by decide +kernel)
theorem seX2_isFork : Cond.selects RX2 yX2_isFork yX2_isFork ∈ Ug := ug_sel (yX2_isFork, 7) 13 (by decide +kernel)
theorem seX5_sidesOfWays : Cond.selects RX5 yX5_sidesOfWays yX5_sidesOfWays ∈ Ug := ug_sel (yX5_sidesOfWays, 11) 14 (by decide +kernel)
theorem seX5_waysMask : Cond.selects RX5 yX5_waysMask yX5_waysMask ∈ Ug := ug_sel (yX5_waysMask, 11) 15 (by decide +kernel)
theorem seX4_gatherClashes : Cond.selects RX4 yX4_gatherClashes yX4_gatherClashes ∈ Ug := ug_sel (yX4_gatherClashes, 4) 16 (by decide +kernel)
theorem seX5_isEndOfWay : Cond.selects RX5 yX5_isEndOfWay yX5_isEndOfWay ∈ Ug := ug_sel (yX5_isEndOfWay, 11) 17 (by decide +kernel)
theorem seX5_sizeAsked : Cond.selects RX5 yX5_sizeAsked yX5_sizeAsked ∈ Ug := ug_sel (yX5_sizeAsked, 11) 18 (by decide +kernel)
theorem seX5_sizeOfAlone : Cond.selects RX5 yX5_sizeOfAlone yX5_sizeOfAlone ∈ Ug := ug_sel (yX5_sizeOfAlone, 11) 19 (by decide +kernel)
theorem seX5_leave : Cond.selects RX5 yX5_leave yX5_leave ∈ Ug := ug_sel (yX5_leave, 11) 20 (by decide +kernel)
theorem seX5_sizeLent : Cond.selects RX5 yX5_sizeLent yX5_sizeLent ∈ Ug := ug_sel (yX5_sizeLent, 11) 21 (by decide +kernel)
theorem seX5_sizeOfBound : Cond.selects RX5 yX5_sizeOfBound yX5_sizeOfBound ∈ Ug := ug_sel (yX5_sizeOfBound, 11) 22 (by decide +kernel)
theorem seX5_sizeOfForked : Cond.selects RX5 yX5_sizeOfForked yX5_sizeOfForked ∈ Ug := ug_sel (yX5_sizeOfForked, 11) 23 (by decide +kernel)
theorem seX5_markOfForked : Cond.selects RX5 yX5_markOfForked yX5_markOfForked ∈ Ug := ug_sel (yX5_markOfForked, 11) 24 (by decide +kernel)
theorem seX5_markLent : Cond.selects RX5 yX5_markLent yX5_markLent ∈ Ug := ug_sel (yX5_markLent, 11) 25 (by decide +kernel)
theorem seX5_markAsked : Cond.selects RX5 yX5_markAsked yX5_markAsked ∈ Ug := ug_sel (yX5_markAsked, 11) 26 (by decide +kernel)
theorem seX5_markOfBound : Cond.selects RX5 yX5_markOfBound yX5_markOfBound ∈ Ug := ug_sel (yX5_markOfBound, 11) 27 (by decide +kernel)
theorem seX5_sheetsThere : Cond.selects RX5 yX5_sheetsThere yX5_sheetsThere ∈ Ug := ug_sel (yX5_sheetsThere, 11) 28 (by decide +kernel)
theorem seX5_linesOfKind : Cond.selects RX5 yX5_linesOfKind yX5_linesOfKind ∈ Ug := ug_sel (yX5_linesOfKind, 11) 29 (by decide +kernel)
theorem seX6_found : Cond.selects RX6 yX6_found yX6_found ∈ Ug := ug_sel (yX6_found, 22) 30 (by decide +kernel)
theorem seX6_pointOn : Cond.selects RX6 yX6_pointOn yX6_pointOn ∈ Ug := ug_sel (yX6_pointOn, 22) 31 (by decide +kernel)
theorem seX6_isOfWay : Cond.selects RX6 yX6_isOfWay yX6_isOfWay ∈ Ug := ug_sel (yX6_isOfWay, 22) 32 (by decide +kernel)
theorem seX6_widthOf : Cond.selects RX6 yX6_widthOf yX6_widthOf ∈ Ug := ug_sel (yX6_widthOf, 22) 33 (by decide +kernel)
theorem seX6_isPoint : Cond.selects RX6 yX6_isPoint yX6_isPoint ∈ Ug := ug_sel (yX6_isPoint, 22) 34 (by decide +kernel)
theorem seX6_isLine : Cond.selects RX6 yX6_isLine yX6_isLine ∈ Ug := ug_sel (yX6_isLine, 22) 35 (by decide +kernel)
theorem seX6_wipe : Cond.selects RX6 yX6_wipe yX6_wipe ∈ Ug := ug_sel (yX6_wipe, 22) 36 (by decide +kernel)
theorem seX6_find : Cond.selects RX6 yX6_find yX6_find ∈ Ug := ug_sel (yX6_find, 22) 37 (by decide +kernel)
theorem seX6_costOf : Cond.selects RX6 yX6_costOf yX6_costOf ∈ Ug := ug_sel (yX6_costOf, 22) 38 (by decide +kernel)
theorem seX6_follow : Cond.selects RX6 yX6_follow yX6_follow ∈ Ug := ug_sel (yX6_follow, 22) 39 (by decide +kernel)
theorem seX6_passed : Cond.selects RX6 yX6_passed yX6_passed ∈ Ug := ug_sel (yX6_passed, 22) 40 (by decide +kernel)
theorem seX6_ownCost : Cond.selects RX6 yX6_ownCost yX6_ownCost ∈ Ug := ug_sel (yX6_ownCost, 22) 41 (by decide +kernel)
theorem seX6_at : Cond.selects RX6 yX6_at yX6_at ∈ Ug := ug_sel (yX6_at, 22) 42 (by decide +kernel)
theorem seX6_detourOf : Cond.selects RX6 yX6_detourOf yX6_detourOf ∈ Ug := ug_sel (yX6_detourOf, 22) 43 (by decide +kernel)
theorem seX6_sharedBy : Cond.selects RX6 yX6_sharedBy yX6_sharedBy ∈ Ug := ug_sel (yX6_sharedBy, 22) 44 (by decide +kernel)
theorem seX6_ways : Cond.selects RX6 yX6_ways yX6_ways ∈ Ug := ug_sel (yX6_ways, 22) 45 (by decide +kernel)
theorem seX6_tints : Cond.selects RX6 yX6_tints yX6_tints ∈ Ug := ug_sel (yX6_tints, 22) 46 (by decide +kernel)
theorem seX6_fits : Cond.selects RX6 yX6_fits yX6_fits ∈ Ug := ug_sel (yX6_fits, 22) 47 (by decide +kernel)
theorem seX6_isWide : Cond.selects RX6 yX6_isWide yX6_isWide ∈ Ug := ug_sel (yX6_isWide, 22) 48 (by decide +kernel)
theorem seX6_isEnd : Cond.selects RX6 yX6_isEnd yX6_isEnd ∈ Ug := ug_sel (yX6_isEnd, 22) 49 (by decide +kernel)
theorem seX6_kindOf : Cond.selects RX6 yX6_kindOf yX6_kindOf ∈ Ug := ug_sel (yX6_kindOf, 22) 50 (by decide +kernel)
theorem seX6_sharing : Cond.selects RX6 yX6_sharing yX6_sharing ∈ Ug := ug_sel (yX6_sharing, 22) 51 (by decide +kernel)
theorem seX6_sized : Cond.selects RX6 yX6_sized yX6_sized ∈ Ug := ug_sel (yX6_sized, 22) 52 (by decide +kernel)
theorem seX6_began : Cond.selects RX6 yX6_began yX6_began ∈ Ug := ug_sel (yX6_began, 22) 53 (by decide +kernel)
theorem seX6_marked : Cond.selects RX6 yX6_marked yX6_marked ∈ Ug := ug_sel (yX6_marked, 22) 54 (by decide +kernel)
end
section
theorem cell_line {G : GE} {i : Nat} (hi : i < 12) (r : Nat → Int32) : cellR G (40 + i) r = .inr (1, [.int (r 0), .ref (ad G (60 + i)), .int (r 2), .int (r 3), .int (r 4)]) := by
  rcases (show i = 0 ∨ i = 1 ∨ i = 2 ∨ i = 3 ∨ i = 4 ∨ i = 5 ∨ i = 6 ∨ i = 7 ∨ i = 8 ∨ i = 9 ∨ i = 10 ∨ i = 11 by omega) with rfl | rfl | rfl | rfl | rfl | rfl | rfl | rfl | rfl | rfl | rfl | rfl <;> rfl
theorem cell_sheet {G : GE} {i : Nat} (hi : i < 8) (r : Nat → Int32) : cellR G (20 + i) r = .inr (3, [.ref (ad G (30 + i)), .int (r 1), .int (r 2)]) := by
  rcases (show i = 0 ∨ i = 1 ∨ i = 2 ∨ i = 3 ∨ i = 4 ∨ i = 5 ∨ i = 6 ∨ i = 7 by omega) with rfl | rfl | rfl | rfl | rfl | rfl | rfl | rfl <;> rfl
theorem aI_steps {i : Nat} (hi : i < 12) : isI (60 + i) 100 := fun G r => by
  rcases (show i = 0 ∨ i = 1 ∨ i = 2 ∨ i = 3 ∨ i = 4 ∨ i = 5 ∨ i = 6 ∨ i = 7 ∨ i = 8 ∨ i = 9 ∨ i = 10 ∨ i = 11 by omega) with rfl | rfl | rfl | rfl | rfl | rfl | rfl | rfl | rfl | rfl | rfl | rfl <;> rfl
theorem aI_items {i : Nat} (hi : i < 8) : isI (30 + i) 60 := fun G r => by
  rcases (show i = 0 ∨ i = 1 ∨ i = 2 ∨ i = 3 ∨ i = 4 ∨ i = 5 ∨ i = 6 ∨ i = 7 by omega) with rfl | rfl | rfl | rfl | rfl | rfl | rfl | rfl <;> rfl
theorem mem_line {i : Nat} (hi : i < 12) : 40 + i ∈ idsA := by
  rcases (show i = 0 ∨ i = 1 ∨ i = 2 ∨ i = 3 ∨ i = 4 ∨ i = 5 ∨ i = 6 ∨ i = 7 ∨ i = 8 ∨ i = 9 ∨ i = 10 ∨ i = 11 by omega) with rfl | rfl | rfl | rfl | rfl | rfl | rfl | rfl | rfl | rfl | rfl | rfl <;> decide
theorem mem_steps {i : Nat} (hi : i < 12) : 60 + i ∈ idsA := by
  rcases (show i = 0 ∨ i = 1 ∨ i = 2 ∨ i = 3 ∨ i = 4 ∨ i = 5 ∨ i = 6 ∨ i = 7 ∨ i = 8 ∨ i = 9 ∨ i = 10 ∨ i = 11 by omega) with rfl | rfl | rfl | rfl | rfl | rfl | rfl | rfl | rfl | rfl | rfl | rfl <;> decide
theorem mem_sheet {i : Nat} (hi : i < 8) : 20 + i ∈ idsA := by
  rcases (show i = 0 ∨ i = 1 ∨ i = 2 ∨ i = 3 ∨ i = 4 ∨ i = 5 ∨ i = 6 ∨ i = 7 by omega) with rfl | rfl | rfl | rfl | rfl | rfl | rfl | rfl <;> decide
theorem mem_items {i : Nat} (hi : i < 8) : 30 + i ∈ idsA := by
  rcases (show i = 0 ∨ i = 1 ∨ i = 2 ∨ i = 3 ∨ i = 4 ∨ i = 5 ∨ i = 6 ∨ i = 7 by omega) with rfl | rfl | rfl | rfl | rfl | rfl | rfl | rfl <;> decide
theorem aI_2 : isI 2 12 := fun _ _ => rfl
theorem aI_7 : isI 7 16 := fun _ _ => rfl
theorem aI_9 : isI 9 100 := fun _ _ => rfl
theorem aI_10 : isI 10 200 := fun _ _ => rfl
theorem aI_12 : isI 12 12 := fun _ _ => rfl
theorem aI_13 : isI 13 100 := fun _ _ => rfl
theorem aI_14 : isI 14 400 := fun _ _ => rfl
theorem aI_15 : isI 15 100 := fun _ _ => rfl
theorem aI_16 : isI 16 12 := fun _ _ => rfl
theorem aI_17 : isI 17 12 := fun _ _ => rfl
theorem aI_18 : isI 18 12 := fun _ _ => rfl
theorem aI_102 : isI 102 8 := fun _ _ => rfl
theorem aI_103 : isI 103 8 := fun _ _ => rfl
theorem aI_104 : isI 104 480 := fun _ _ => rfl
theorem aI_107 : isI 107 12 := fun _ _ => rfl
theorem aI_109 : isI 109 12 := fun _ _ => rfl
theorem aI_110 : isI 110 12 := fun _ _ => rfl
theorem aI_111 : isI 111 12 := fun _ _ => rfl
theorem aI_112 : isI 112 1200 := fun _ _ => rfl
theorem aI_114 : isI 114 2 := fun _ _ => rfl
theorem aI_115 : isI 115 100 := fun _ _ => rfl
theorem aI_116 : isI 116 100 := fun _ _ => rfl
theorem aI_117 : isI 117 180 := fun _ _ => rfl
theorem aI_118 : isI 118 100 := fun _ _ => rfl
theorem aI_119 : isI 119 12 := fun _ _ => rfl
theorem aI_120 : isI 120 16 := fun _ _ => rfl
theorem aZ_8 : isZ 8 100 := fun _ _ => rfl
theorem aZ_11 : isZ 11 100 := fun _ _ => rfl
theorem aZ_105 : isZ 105 100 := fun _ _ => rfl
theorem aZ_113 : isZ 113 2160 := fun _ _ => rfl
theorem gX0_9 {G : GE} {cc : ByteArray} {nL : Nat} {ret : Option FieldType} {R : Room} {pc : Nat} {lv : List OV} {st : List Value} {h : Mem} {Q : Option Value → Mem → Prop} (hd : decode cc pc = .ok (.getfield 9, 3)) (kk : V idsA G RX0 cc nL ret R (pc + 3) lv (.ref (ad G 13) :: st) h Q) : V idsA G RX0 cc nL ret R pc lv (.ref (ad G 5) :: st) h Q :=
  V_getG (ci := 0) 5 (by decide) iX0 rfl rfl 0 (by decide) fl_X0_9 rfl rfl hd kk
theorem gX0_15 {G : GE} {cc : ByteArray} {nL : Nat} {ret : Option FieldType} {R : Room} {pc : Nat} {lv : List OV} {st : List Value} {h : Mem} {Q : Option Value → Mem → Prop} (hd : decode cc pc = .ok (.getfield 15, 3)) (kk : V idsA G RX0 cc nL ret R (pc + 3) lv (.ref (ad G 14) :: st) h Q) : V idsA G RX0 cc nL ret R pc lv (.ref (ad G 5) :: st) h Q :=
  V_getG (ci := 0) 5 (by decide) iX0 rfl rfl 1 (by decide) fl_X0_15 rfl rfl hd kk
theorem gX0_18 {G : GE} {cc : ByteArray} {nL : Nat} {ret : Option FieldType} {R : Room} {pc : Nat} {lv : List OV} {st : List Value} {h : Mem} {Q : Option Value → Mem → Prop} (hd : decode cc pc = .ok (.getfield 18, 3)) (kk : V idsA G RX0 cc nL ret R (pc + 3) lv (.ref (ad G 15) :: st) h Q) : V idsA G RX0 cc nL ret R pc lv (.ref (ad G 5) :: st) h Q :=
  V_getG (ci := 0) 5 (by decide) iX0 rfl rfl 2 (by decide) fl_X0_18 rfl rfl hd kk
theorem pX0_25 {G : GE} {cc : ByteArray} {nL : Nat} {ret : Option FieldType} {R : Room} {pc : Nat} {lv : List OV} {st : List Value} {h : Mem} {Q : Option Value → Mem → Prop} {v : Int32} (hd : decode cc pc = .ok (.putfield 25, 3)) (kk : V idsA G RX0 cc nL ret R (pc + 3) lv st (wr h 5 4 v) Q) : V idsA G RX0 cc nL ret R pc lv (.int v :: .ref (ad G 5) :: st) h Q :=
  V_putG (ci := 0) 5 (by decide) iX0 tyX0 tyX0_ok nmX0 rfl rfl 4 (by decide) fl_X0_25 rfl rfl (by decide +kernel) (Nat.le_of_ble_eq_true rfl) rfl hd kk
theorem gX0_29 {G : GE} {cc : ByteArray} {nL : Nat} {ret : Option FieldType} {R : Room} {pc : Nat} {lv : List OV} {st : List Value} {h : Mem} {Q : Option Value → Mem → Prop} {i : Nat} (hi : i < 12) (hd : decode cc pc = .ok (.getfield 29, 3)) (kk : V idsA G RX0 cc nL ret R (pc + 3) lv (.int (h (40 + i) 2) :: st) h Q) : V idsA G RX0 cc nL ret R pc lv (.ref (ad G (40 + i)) :: st) h Q :=
  V_getN (ci := 1) (40 + i) (mem_line hi) iX1 (cell_line hi _) rfl 2 (by decide) fn_X0_29 rfl rfl hd kk
theorem pX0_35 {G : GE} {cc : ByteArray} {nL : Nat} {ret : Option FieldType} {R : Room} {pc : Nat} {lv : List OV} {st : List Value} {h : Mem} {Q : Option Value → Mem → Prop} {v : Int32} (hd : decode cc pc = .ok (.putfield 35, 3)) (kk : V idsA G RX0 cc nL ret R (pc + 3) lv st (wr h 5 5 v) Q) : V idsA G RX0 cc nL ret R pc lv (.int v :: .ref (ad G 5) :: st) h Q :=
  V_putG (ci := 0) 5 (by decide) iX0 tyX0 tyX0_ok nmX0 rfl rfl 5 (by decide) fl_X0_35 rfl rfl (by decide +kernel) (Nat.le_of_ble_eq_true rfl) rfl hd kk
theorem gX0_38 {G : GE} {cc : ByteArray} {nL : Nat} {ret : Option FieldType} {R : Room} {pc : Nat} {lv : List OV} {st : List Value} {h : Mem} {Q : Option Value → Mem → Prop} {i : Nat} (hi : i < 12) (hd : decode cc pc = .ok (.getfield 38, 3)) (kk : V idsA G RX0 cc nL ret R (pc + 3) lv (.int (h (40 + i) 3) :: st) h Q) : V idsA G RX0 cc nL ret R pc lv (.ref (ad G (40 + i)) :: st) h Q :=
  V_getN (ci := 1) (40 + i) (mem_line hi) iX1 (cell_line hi _) rfl 3 (by decide) fn_X0_38 rfl rfl hd kk
theorem gX0_49 {G : GE} {cc : ByteArray} {nL : Nat} {ret : Option FieldType} {R : Room} {pc : Nat} {lv : List OV} {st : List Value} {h : Mem} {Q : Option Value → Mem → Prop} (hd : decode cc pc = .ok (.getfield 49, 3)) (kk : V idsA G RX0 cc nL ret R (pc + 3) lv (.ref (ad G 12) :: st) h Q) : V idsA G RX0 cc nL ret R pc lv (.ref (ad G 4) :: st) h Q :=
  V_getN (ci := 2) 4 (by decide) iX2 rfl rfl 4 (by decide) fn_X0_49 rfl rfl hd kk
theorem gX0_54 {G : GE} {cc : ByteArray} {nL : Nat} {ret : Option FieldType} {R : Room} {pc : Nat} {lv : List OV} {st : List Value} {h : Mem} {Q : Option Value → Mem → Prop} (hd : decode cc pc = .ok (.getfield 54, 3)) (kk : V idsA G RX0 cc nL ret R (pc + 3) lv (.ref (ad G 10) :: st) h Q) : V idsA G RX0 cc nL ret R pc lv (.ref (ad G 4) :: st) h Q :=
  V_getN (ci := 2) 4 (by decide) iX2 rfl rfl 2 (by decide) fn_X0_54 rfl rfl hd kk
theorem gX0_57 {G : GE} {cc : ByteArray} {nL : Nat} {ret : Option FieldType} {R : Room} {pc : Nat} {lv : List OV} {st : List Value} {h : Mem} {Q : Option Value → Mem → Prop} {i : Nat} (hi : i < 12) (hd : decode cc pc = .ok (.getfield 57, 3)) (kk : V idsA G RX0 cc nL ret R (pc + 3) lv (.int (h (40 + i) 0) :: st) h Q) : V idsA G RX0 cc nL ret R pc lv (.ref (ad G (40 + i)) :: st) h Q :=
  V_getN (ci := 1) (40 + i) (mem_line hi) iX1 (cell_line hi _) rfl 0 (by decide) fn_X0_57 rfl rfl hd kk
theorem gX0_73 {G : GE} {cc : ByteArray} {nL : Nat} {ret : Option FieldType} {R : Room} {pc : Nat} {lv : List OV} {st : List Value} {h : Mem} {Q : Option Value → Mem → Prop} (hd : decode cc pc = .ok (.getfield 73, 3)) (kk : V idsA G RX0 cc nL ret R (pc + 3) lv (.int (h 5 3) :: st) h Q) : V idsA G RX0 cc nL ret R pc lv (.ref (ad G 5) :: st) h Q :=
  V_getG (ci := 0) 5 (by decide) iX0 rfl rfl 3 (by decide) fl_X0_73 rfl rfl hd kk
theorem pX0_73 {G : GE} {cc : ByteArray} {nL : Nat} {ret : Option FieldType} {R : Room} {pc : Nat} {lv : List OV} {st : List Value} {h : Mem} {Q : Option Value → Mem → Prop} {v : Int32} (hd : decode cc pc = .ok (.putfield 73, 3)) (kk : V idsA G RX0 cc nL ret R (pc + 3) lv st (wr h 5 3 v) Q) : V idsA G RX0 cc nL ret R pc lv (.int v :: .ref (ad G 5) :: st) h Q :=
  V_putG (ci := 0) 5 (by decide) iX0 tyX0 tyX0_ok nmX0 rfl rfl 3 (by decide) fl_X0_73 rfl rfl (by decide +kernel) (Nat.le_of_ble_eq_true rfl) rfl hd kk
theorem gX0_88 {G : GE} {cc : ByteArray} {nL : Nat} {ret : Option FieldType} {R : Room} {pc : Nat} {lv : List OV} {st : List Value} {h : Mem} {Q : Option Value → Mem → Prop} (hd : decode cc pc = .ok (.getfield 88, 3)) (kk : V idsA G RX0 cc nL ret R (pc + 3) lv (.ref (ad G 8) :: st) h Q) : V idsA G RX0 cc nL ret R pc lv (.ref (ad G 4) :: st) h Q :=
  V_getN (ci := 2) 4 (by decide) iX2 rfl rfl 0 (by decide) fn_X0_88 rfl rfl hd kk
theorem gX1_19 {G : GE} {cc : ByteArray} {nL : Nat} {ret : Option FieldType} {R : Room} {pc : Nat} {lv : List OV} {st : List Value} {h : Mem} {Q : Option Value → Mem → Prop} {i : Nat} (hi : i < 12) (hd : decode cc pc = .ok (.getfield 19, 3)) (kk : V idsA G RX1 cc nL ret R (pc + 3) lv (.int (h (40 + i) 2) :: st) h Q) : V idsA G RX1 cc nL ret R pc lv (.ref (ad G (40 + i)) :: st) h Q :=
  V_getG (ci := 1) (40 + i) (mem_line hi) iX1 (cell_line hi _) rfl 2 (by decide) fl_X1_19 rfl rfl hd kk
theorem pX1_19 {G : GE} {cc : ByteArray} {nL : Nat} {ret : Option FieldType} {R : Room} {pc : Nat} {lv : List OV} {st : List Value} {h : Mem} {Q : Option Value → Mem → Prop} {i : Nat} (hi : i < 12) {v : Int32} (hd : decode cc pc = .ok (.putfield 19, 3)) (kk : V idsA G RX1 cc nL ret R (pc + 3) lv st (wr h (40 + i) 2 v) Q) : V idsA G RX1 cc nL ret R pc lv (.int v :: .ref (ad G (40 + i)) :: st) h Q :=
  V_putG (ci := 1) (40 + i) (mem_line hi) iX1 tyX1 tyX1_ok nmX1 (cell_line hi _) rfl 2 (by decide) fl_X1_19 rfl rfl (by decide +kernel) (Nat.le_of_ble_eq_true rfl) (by rw [cell_line hi _]; rfl) hd kk
theorem gX1_22 {G : GE} {cc : ByteArray} {nL : Nat} {ret : Option FieldType} {R : Room} {pc : Nat} {lv : List OV} {st : List Value} {h : Mem} {Q : Option Value → Mem → Prop} {i : Nat} (hi : i < 12) (hd : decode cc pc = .ok (.getfield 22, 3)) (kk : V idsA G RX1 cc nL ret R (pc + 3) lv (.int (h (40 + i) 3) :: st) h Q) : V idsA G RX1 cc nL ret R pc lv (.ref (ad G (40 + i)) :: st) h Q :=
  V_getG (ci := 1) (40 + i) (mem_line hi) iX1 (cell_line hi _) rfl 3 (by decide) fl_X1_22 rfl rfl hd kk
theorem pX1_22 {G : GE} {cc : ByteArray} {nL : Nat} {ret : Option FieldType} {R : Room} {pc : Nat} {lv : List OV} {st : List Value} {h : Mem} {Q : Option Value → Mem → Prop} {i : Nat} (hi : i < 12) {v : Int32} (hd : decode cc pc = .ok (.putfield 22, 3)) (kk : V idsA G RX1 cc nL ret R (pc + 3) lv st (wr h (40 + i) 3 v) Q) : V idsA G RX1 cc nL ret R pc lv (.int v :: .ref (ad G (40 + i)) :: st) h Q :=
  V_putG (ci := 1) (40 + i) (mem_line hi) iX1 tyX1 tyX1_ok nmX1 (cell_line hi _) rfl 3 (by decide) fl_X1_22 rfl rfl (by decide +kernel) (Nat.le_of_ble_eq_true rfl) (by rw [cell_line hi _]; rfl) hd kk
theorem gX1_25 {G : GE} {cc : ByteArray} {nL : Nat} {ret : Option FieldType} {R : Room} {pc : Nat} {lv : List OV} {st : List Value} {h : Mem} {Q : Option Value → Mem → Prop} {i : Nat} (hi : i < 12) (hd : decode cc pc = .ok (.getfield 25, 3)) (kk : V idsA G RX1 cc nL ret R (pc + 3) lv (.int (h (40 + i) 4) :: st) h Q) : V idsA G RX1 cc nL ret R pc lv (.ref (ad G (40 + i)) :: st) h Q :=
  V_getG (ci := 1) (40 + i) (mem_line hi) iX1 (cell_line hi _) rfl 4 (by decide) fl_X1_25 rfl rfl hd kk
theorem pX1_25 {G : GE} {cc : ByteArray} {nL : Nat} {ret : Option FieldType} {R : Room} {pc : Nat} {lv : List OV} {st : List Value} {h : Mem} {Q : Option Value → Mem → Prop} {i : Nat} (hi : i < 12) {v : Int32} (hd : decode cc pc = .ok (.putfield 25, 3)) (kk : V idsA G RX1 cc nL ret R (pc + 3) lv st (wr h (40 + i) 4 v) Q) : V idsA G RX1 cc nL ret R pc lv (.int v :: .ref (ad G (40 + i)) :: st) h Q :=
  V_putG (ci := 1) (40 + i) (mem_line hi) iX1 tyX1 tyX1_ok nmX1 (cell_line hi _) rfl 4 (by decide) fl_X1_25 rfl rfl (by decide +kernel) (Nat.le_of_ble_eq_true rfl) (by rw [cell_line hi _]; rfl) hd kk
theorem gX2_9 {G : GE} {cc : ByteArray} {nL : Nat} {ret : Option FieldType} {R : Room} {pc : Nat} {lv : List OV} {st : List Value} {h : Mem} {Q : Option Value → Mem → Prop} (hd : decode cc pc = .ok (.getfield 9, 3)) (kk : V idsA G RX2 cc nL ret R (pc + 3) lv (.ref (ad G 8) :: st) h Q) : V idsA G RX2 cc nL ret R pc lv (.ref (ad G 4) :: st) h Q :=
  V_getG (ci := 2) 4 (by decide) iX2 rfl rfl 0 (by decide) fl_X2_9 rfl rfl hd kk
theorem gX2_15 {G : GE} {cc : ByteArray} {nL : Nat} {ret : Option FieldType} {R : Room} {pc : Nat} {lv : List OV} {st : List Value} {h : Mem} {Q : Option Value → Mem → Prop} (hd : decode cc pc = .ok (.getfield 15, 3)) (kk : V idsA G RX2 cc nL ret R (pc + 3) lv (.ref (ad G 9) :: st) h Q) : V idsA G RX2 cc nL ret R pc lv (.ref (ad G 4) :: st) h Q :=
  V_getG (ci := 2) 4 (by decide) iX2 rfl rfl 1 (by decide) fl_X2_15 rfl rfl hd kk
theorem gX2_19 {G : GE} {cc : ByteArray} {nL : Nat} {ret : Option FieldType} {R : Room} {pc : Nat} {lv : List OV} {st : List Value} {h : Mem} {Q : Option Value → Mem → Prop} (hd : decode cc pc = .ok (.getfield 19, 3)) (kk : V idsA G RX2 cc nL ret R (pc + 3) lv (.ref (ad G 10) :: st) h Q) : V idsA G RX2 cc nL ret R pc lv (.ref (ad G 4) :: st) h Q :=
  V_getG (ci := 2) 4 (by decide) iX2 rfl rfl 2 (by decide) fl_X2_19 rfl rfl hd kk
theorem gX2_22 {G : GE} {cc : ByteArray} {nL : Nat} {ret : Option FieldType} {R : Room} {pc : Nat} {lv : List OV} {st : List Value} {h : Mem} {Q : Option Value → Mem → Prop} (hd : decode cc pc = .ok (.getfield 22, 3)) (kk : V idsA G RX2 cc nL ret R (pc + 3) lv (.ref (ad G 11) :: st) h Q) : V idsA G RX2 cc nL ret R pc lv (.ref (ad G 4) :: st) h Q :=
  V_getG (ci := 2) 4 (by decide) iX2 rfl rfl 3 (by decide) fl_X2_22 rfl rfl hd kk
theorem gX2_25 {G : GE} {cc : ByteArray} {nL : Nat} {ret : Option FieldType} {R : Room} {pc : Nat} {lv : List OV} {st : List Value} {h : Mem} {Q : Option Value → Mem → Prop} (hd : decode cc pc = .ok (.getfield 25, 3)) (kk : V idsA G RX2 cc nL ret R (pc + 3) lv (.ref (ad G 12) :: st) h Q) : V idsA G RX2 cc nL ret R pc lv (.ref (ad G 4) :: st) h Q :=
  V_getG (ci := 2) 4 (by decide) iX2 rfl rfl 4 (by decide) fl_X2_25 rfl rfl hd kk
theorem gX2_33 {G : GE} {cc : ByteArray} {nL : Nat} {ret : Option FieldType} {R : Room} {pc : Nat} {lv : List OV} {st : List Value} {h : Mem} {Q : Option Value → Mem → Prop} (hd : decode cc pc = .ok (.getfield 33, 3)) (kk : V idsA G RX2 cc nL ret R (pc + 3) lv (.int (h 4 5) :: st) h Q) : V idsA G RX2 cc nL ret R pc lv (.ref (ad G 4) :: st) h Q :=
  V_getG (ci := 2) 4 (by decide) iX2 rfl rfl 5 (by decide) fl_X2_33 rfl rfl hd kk
theorem pX2_33 {G : GE} {cc : ByteArray} {nL : Nat} {ret : Option FieldType} {R : Room} {pc : Nat} {lv : List OV} {st : List Value} {h : Mem} {Q : Option Value → Mem → Prop} {v : Int32} (hd : decode cc pc = .ok (.putfield 33, 3)) (kk : V idsA G RX2 cc nL ret R (pc + 3) lv st (wr h 4 5 v) Q) : V idsA G RX2 cc nL ret R pc lv (.int v :: .ref (ad G 4) :: st) h Q :=
  V_putG (ci := 2) 4 (by decide) iX2 tyX2 tyX2_ok nmX2 rfl rfl 5 (by decide) fl_X2_33 rfl rfl (by decide +kernel) (Nat.le_of_ble_eq_true rfl) rfl hd kk
theorem gX2_37 {G : GE} {cc : ByteArray} {nL : Nat} {ret : Option FieldType} {R : Room} {pc : Nat} {lv : List OV} {st : List Value} {h : Mem} {Q : Option Value → Mem → Prop} (hd : decode cc pc = .ok (.getfield 37, 3)) (kk : V idsA G RX2 cc nL ret R (pc + 3) lv (.int (h 4 6) :: st) h Q) : V idsA G RX2 cc nL ret R pc lv (.ref (ad G 4) :: st) h Q :=
  V_getG (ci := 2) 4 (by decide) iX2 rfl rfl 6 (by decide) fl_X2_37 rfl rfl hd kk
theorem pX2_37 {G : GE} {cc : ByteArray} {nL : Nat} {ret : Option FieldType} {R : Room} {pc : Nat} {lv : List OV} {st : List Value} {h : Mem} {Q : Option Value → Mem → Prop} {v : Int32} (hd : decode cc pc = .ok (.putfield 37, 3)) (kk : V idsA G RX2 cc nL ret R (pc + 3) lv st (wr h 4 6 v) Q) : V idsA G RX2 cc nL ret R pc lv (.int v :: .ref (ad G 4) :: st) h Q :=
  V_putG (ci := 2) 4 (by decide) iX2 tyX2 tyX2_ok nmX2 rfl rfl 6 (by decide) fl_X2_37 rfl rfl (by decide +kernel) (Nat.le_of_ble_eq_true rfl) rfl hd kk
theorem gX2_62 {G : GE} {cc : ByteArray} {nL : Nat} {ret : Option FieldType} {R : Room} {pc : Nat} {lv : List OV} {st : List Value} {h : Mem} {Q : Option Value → Mem → Prop} {i : Nat} (hi : i < 12) (hd : decode cc pc = .ok (.getfield 62, 3)) (kk : V idsA G RX2 cc nL ret R (pc + 3) lv (.int (h (40 + i) 2) :: st) h Q) : V idsA G RX2 cc nL ret R pc lv (.ref (ad G (40 + i)) :: st) h Q :=
  V_getN (ci := 1) (40 + i) (mem_line hi) iX1 (cell_line hi _) rfl 2 (by decide) fn_X2_62 rfl rfl hd kk
theorem gX2_71 {G : GE} {cc : ByteArray} {nL : Nat} {ret : Option FieldType} {R : Room} {pc : Nat} {lv : List OV} {st : List Value} {h : Mem} {Q : Option Value → Mem → Prop} {i : Nat} (hi : i < 12) (hd : decode cc pc = .ok (.getfield 71, 3)) (kk : V idsA G RX2 cc nL ret R (pc + 3) lv (.int (h (40 + i) 3) :: st) h Q) : V idsA G RX2 cc nL ret R pc lv (.ref (ad G (40 + i)) :: st) h Q :=
  V_getN (ci := 1) (40 + i) (mem_line hi) iX1 (cell_line hi _) rfl 3 (by decide) fn_X2_71 rfl rfl hd kk
theorem gX2_78 {G : GE} {cc : ByteArray} {nL : Nat} {ret : Option FieldType} {R : Room} {pc : Nat} {lv : List OV} {st : List Value} {h : Mem} {Q : Option Value → Mem → Prop} {i : Nat} (hi : i < 12) (hd : decode cc pc = .ok (.getfield 78, 3)) (kk : V idsA G RX2 cc nL ret R (pc + 3) lv (.ref (ad G (60 + i)) :: st) h Q) : V idsA G RX2 cc nL ret R pc lv (.ref (ad G (40 + i)) :: st) h Q :=
  V_getN (ci := 1) (40 + i) (mem_line hi) iX1 (cell_line hi _) rfl 1 (by decide) fn_X2_78 rfl rfl hd kk
theorem gX2_87 {G : GE} {cc : ByteArray} {nL : Nat} {ret : Option FieldType} {R : Room} {pc : Nat} {lv : List OV} {st : List Value} {h : Mem} {Q : Option Value → Mem → Prop} {i : Nat} (hi : i < 12) (hd : decode cc pc = .ok (.getfield 87, 3)) (kk : V idsA G RX2 cc nL ret R (pc + 3) lv (.int (h (40 + i) 4) :: st) h Q) : V idsA G RX2 cc nL ret R pc lv (.ref (ad G (40 + i)) :: st) h Q :=
  V_getN (ci := 1) (40 + i) (mem_line hi) iX1 (cell_line hi _) rfl 4 (by decide) fn_X2_87 rfl rfl hd kk
theorem pX2_87 {G : GE} {cc : ByteArray} {nL : Nat} {ret : Option FieldType} {R : Room} {pc : Nat} {lv : List OV} {st : List Value} {h : Mem} {Q : Option Value → Mem → Prop} {i : Nat} (hi : i < 12) {v : Int32} (hd : decode cc pc = .ok (.putfield 87, 3)) (kk : V idsA G RX2 cc nL ret R (pc + 3) lv st (wr h (40 + i) 4 v) Q) : V idsA G RX2 cc nL ret R pc lv (.int v :: .ref (ad G (40 + i)) :: st) h Q :=
  V_putN (ci := 1) (40 + i) (mem_line hi) iX1 tyX1 tyX1_ok nmX1 (cell_line hi _) rfl 4 (by decide) fn_X2_87 rfl rfl (by decide +kernel) (Nat.le_of_ble_eq_true rfl) (by rw [cell_line hi _]; rfl) hd kk
theorem gX2_93 {G : GE} {cc : ByteArray} {nL : Nat} {ret : Option FieldType} {R : Room} {pc : Nat} {lv : List OV} {st : List Value} {h : Mem} {Q : Option Value → Mem → Prop} {i : Nat} (hi : i < 12) (hd : decode cc pc = .ok (.getfield 93, 3)) (kk : V idsA G RX2 cc nL ret R (pc + 3) lv (.int (h (40 + i) 0) :: st) h Q) : V idsA G RX2 cc nL ret R pc lv (.ref (ad G (40 + i)) :: st) h Q :=
  V_getN (ci := 1) (40 + i) (mem_line hi) iX1 (cell_line hi _) rfl 0 (by decide) fn_X2_93 rfl rfl hd kk
theorem gX3_9 {G : GE} {cc : ByteArray} {nL : Nat} {ret : Option FieldType} {R : Room} {pc : Nat} {lv : List OV} {st : List Value} {h : Mem} {Q : Option Value → Mem → Prop} {i : Nat} (hi : i < 8) (hd : decode cc pc = .ok (.getfield 9, 3)) (kk : V idsA G RX3 cc nL ret R (pc + 3) lv (.ref (ad G (30 + i)) :: st) h Q) : V idsA G RX3 cc nL ret R pc lv (.ref (ad G (20 + i)) :: st) h Q :=
  V_getG (ci := 3) (20 + i) (mem_sheet hi) iX3 (cell_sheet hi _) rfl 0 (by decide) fl_X3_9 rfl rfl hd kk
theorem gX3_15 {G : GE} {cc : ByteArray} {nL : Nat} {ret : Option FieldType} {R : Room} {pc : Nat} {lv : List OV} {st : List Value} {h : Mem} {Q : Option Value → Mem → Prop} {i : Nat} (hi : i < 8) (hd : decode cc pc = .ok (.getfield 15, 3)) (kk : V idsA G RX3 cc nL ret R (pc + 3) lv (.int (h (20 + i) 2) :: st) h Q) : V idsA G RX3 cc nL ret R pc lv (.ref (ad G (20 + i)) :: st) h Q :=
  V_getG (ci := 3) (20 + i) (mem_sheet hi) iX3 (cell_sheet hi _) rfl 2 (by decide) fl_X3_15 rfl rfl hd kk
theorem pX3_15 {G : GE} {cc : ByteArray} {nL : Nat} {ret : Option FieldType} {R : Room} {pc : Nat} {lv : List OV} {st : List Value} {h : Mem} {Q : Option Value → Mem → Prop} {i : Nat} (hi : i < 8) {v : Int32} (hd : decode cc pc = .ok (.putfield 15, 3)) (kk : V idsA G RX3 cc nL ret R (pc + 3) lv st (wr h (20 + i) 2 v) Q) : V idsA G RX3 cc nL ret R pc lv (.int v :: .ref (ad G (20 + i)) :: st) h Q :=
  V_putG (ci := 3) (20 + i) (mem_sheet hi) iX3 tyX3 tyX3_ok nmX3 (cell_sheet hi _) rfl 2 (by decide) fl_X3_15 rfl rfl (by decide +kernel) (Nat.le_of_ble_eq_true rfl) (by rw [cell_sheet hi _]; rfl) hd kk
theorem gX3_19 {G : GE} {cc : ByteArray} {nL : Nat} {ret : Option FieldType} {R : Room} {pc : Nat} {lv : List OV} {st : List Value} {h : Mem} {Q : Option Value → Mem → Prop} {i : Nat} (hi : i < 8) (hd : decode cc pc = .ok (.getfield 19, 3)) (kk : V idsA G RX3 cc nL ret R (pc + 3) lv (.int (h (20 + i) 1) :: st) h Q) : V idsA G RX3 cc nL ret R pc lv (.ref (ad G (20 + i)) :: st) h Q :=
  V_getG (ci := 3) (20 + i) (mem_sheet hi) iX3 (cell_sheet hi _) rfl 1 (by decide) fl_X3_19 rfl rfl hd kk
theorem pX3_19 {G : GE} {cc : ByteArray} {nL : Nat} {ret : Option FieldType} {R : Room} {pc : Nat} {lv : List OV} {st : List Value} {h : Mem} {Q : Option Value → Mem → Prop} {i : Nat} (hi : i < 8) {v : Int32} (hd : decode cc pc = .ok (.putfield 19, 3)) (kk : V idsA G RX3 cc nL ret R (pc + 3) lv st (wr h (20 + i) 1 v) Q) : V idsA G RX3 cc nL ret R pc lv (.int v :: .ref (ad G (20 + i)) :: st) h Q :=
  V_putG (ci := 3) (20 + i) (mem_sheet hi) iX3 tyX3 tyX3_ok nmX3 (cell_sheet hi _) rfl 1 (by decide) fl_X3_19 rfl rfl (by decide +kernel) (Nat.le_of_ble_eq_true rfl) (by rw [cell_sheet hi _]; rfl) hd kk
theorem gX4_9 {G : GE} {cc : ByteArray} {nL : Nat} {ret : Option FieldType} {R : Room} {pc : Nat} {lv : List OV} {st : List Value} {h : Mem} {Q : Option Value → Mem → Prop} (hd : decode cc pc = .ok (.getfield 9, 3)) (kk : V idsA G RX4 cc nL ret R (pc + 3) lv (.ref (ad G 16) :: st) h Q) : V idsA G RX4 cc nL ret R pc lv (.ref (ad G 6) :: st) h Q :=
  V_getG (ci := 4) 6 (by decide) iX4 rfl rfl 0 (by decide) fl_X4_9 rfl rfl hd kk
theorem gX4_15 {G : GE} {cc : ByteArray} {nL : Nat} {ret : Option FieldType} {R : Room} {pc : Nat} {lv : List OV} {st : List Value} {h : Mem} {Q : Option Value → Mem → Prop} (hd : decode cc pc = .ok (.getfield 15, 3)) (kk : V idsA G RX4 cc nL ret R (pc + 3) lv (.ref (ad G 17) :: st) h Q) : V idsA G RX4 cc nL ret R pc lv (.ref (ad G 6) :: st) h Q :=
  V_getG (ci := 4) 6 (by decide) iX4 rfl rfl 1 (by decide) fl_X4_15 rfl rfl hd kk
theorem gX4_18 {G : GE} {cc : ByteArray} {nL : Nat} {ret : Option FieldType} {R : Room} {pc : Nat} {lv : List OV} {st : List Value} {h : Mem} {Q : Option Value → Mem → Prop} (hd : decode cc pc = .ok (.getfield 18, 3)) (kk : V idsA G RX4 cc nL ret R (pc + 3) lv (.ref (ad G 18) :: st) h Q) : V idsA G RX4 cc nL ret R pc lv (.ref (ad G 6) :: st) h Q :=
  V_getG (ci := 4) 6 (by decide) iX4 rfl rfl 2 (by decide) fl_X4_18 rfl rfl hd kk
theorem gX4_32 {G : GE} {cc : ByteArray} {nL : Nat} {ret : Option FieldType} {R : Room} {pc : Nat} {lv : List OV} {st : List Value} {h : Mem} {Q : Option Value → Mem → Prop} (hd : decode cc pc = .ok (.getfield 32, 3)) (kk : V idsA G RX4 cc nL ret R (pc + 3) lv (.int (h 6 3) :: st) h Q) : V idsA G RX4 cc nL ret R pc lv (.ref (ad G 6) :: st) h Q :=
  V_getG (ci := 4) 6 (by decide) iX4 rfl rfl 3 (by decide) fl_X4_32 rfl rfl hd kk
theorem pX4_32 {G : GE} {cc : ByteArray} {nL : Nat} {ret : Option FieldType} {R : Room} {pc : Nat} {lv : List OV} {st : List Value} {h : Mem} {Q : Option Value → Mem → Prop} {v : Int32} (hd : decode cc pc = .ok (.putfield 32, 3)) (kk : V idsA G RX4 cc nL ret R (pc + 3) lv st (wr h 6 3 v) Q) : V idsA G RX4 cc nL ret R pc lv (.int v :: .ref (ad G 6) :: st) h Q :=
  V_putG (ci := 4) 6 (by decide) iX4 tyX4 tyX4_ok nmX4 rfl rfl 3 (by decide) fl_X4_32 rfl rfl (by decide +kernel) (Nat.le_of_ble_eq_true rfl) rfl hd kk
theorem gX4_40 {G : GE} {cc : ByteArray} {nL : Nat} {ret : Option FieldType} {R : Room} {pc : Nat} {lv : List OV} {st : List Value} {h : Mem} {Q : Option Value → Mem → Prop} (hd : decode cc pc = .ok (.getfield 40, 3)) (kk : V idsA G RX4 cc nL ret R (pc + 3) lv (.ref (ad G 10) :: st) h Q) : V idsA G RX4 cc nL ret R pc lv (.ref (ad G 4) :: st) h Q :=
  V_getN (ci := 2) 4 (by decide) iX2 rfl rfl 2 (by decide) fn_X4_40 rfl rfl hd kk
theorem gX5_11 {G : GE} {cc : ByteArray} {nL : Nat} {ret : Option FieldType} {R : Room} {pc : Nat} {lv : List OV} {st : List Value} {h : Mem} {Q : Option Value → Mem → Prop} (hd : decode cc pc = .ok (.getfield 11, 3)) (kk : V idsA G RX5 cc nL ret R (pc + 3) lv (.ref (ad G 1) :: st) h Q) : V idsA G RX5 cc nL ret R pc lv (.ref (ad G 0) :: st) h Q :=
  V_getG (ci := 5) 0 (by decide) iX5 rfl rfl 0 (by decide) fl_X5_11 rfl rfl hd kk
theorem gX5_15 {G : GE} {cc : ByteArray} {nL : Nat} {ret : Option FieldType} {R : Room} {pc : Nat} {lv : List OV} {st : List Value} {h : Mem} {Q : Option Value → Mem → Prop} (hd : decode cc pc = .ok (.getfield 15, 3)) (kk : V idsA G RX5 cc nL ret R (pc + 3) lv (.ref (ad G 2) :: st) h Q) : V idsA G RX5 cc nL ret R pc lv (.ref (ad G 0) :: st) h Q :=
  V_getG (ci := 5) 0 (by decide) iX5 rfl rfl 1 (by decide) fl_X5_15 rfl rfl hd kk
theorem gX5_21 {G : GE} {cc : ByteArray} {nL : Nat} {ret : Option FieldType} {R : Room} {pc : Nat} {lv : List OV} {st : List Value} {h : Mem} {Q : Option Value → Mem → Prop} (hd : decode cc pc = .ok (.getfield 21, 3)) (kk : V idsA G RX5 cc nL ret R (pc + 3) lv (.ref (ad G 3) :: st) h Q) : V idsA G RX5 cc nL ret R pc lv (.ref (ad G 0) :: st) h Q :=
  V_getG (ci := 5) 0 (by decide) iX5 rfl rfl 2 (by decide) fl_X5_21 rfl rfl hd kk
theorem gX5_28 {G : GE} {cc : ByteArray} {nL : Nat} {ret : Option FieldType} {R : Room} {pc : Nat} {lv : List OV} {st : List Value} {h : Mem} {Q : Option Value → Mem → Prop} (hd : decode cc pc = .ok (.getfield 28, 3)) (kk : V idsA G RX5 cc nL ret R (pc + 3) lv (.ref (ad G 4) :: st) h Q) : V idsA G RX5 cc nL ret R pc lv (.ref (ad G 0) :: st) h Q :=
  V_getG (ci := 5) 0 (by decide) iX5 rfl rfl 3 (by decide) fl_X5_28 rfl rfl hd kk
theorem gX5_35 {G : GE} {cc : ByteArray} {nL : Nat} {ret : Option FieldType} {R : Room} {pc : Nat} {lv : List OV} {st : List Value} {h : Mem} {Q : Option Value → Mem → Prop} (hd : decode cc pc = .ok (.getfield 35, 3)) (kk : V idsA G RX5 cc nL ret R (pc + 3) lv (.ref (ad G 5) :: st) h Q) : V idsA G RX5 cc nL ret R pc lv (.ref (ad G 0) :: st) h Q :=
  V_getG (ci := 5) 0 (by decide) iX5 rfl rfl 4 (by decide) fl_X5_35 rfl rfl hd kk
theorem gX5_42 {G : GE} {cc : ByteArray} {nL : Nat} {ret : Option FieldType} {R : Room} {pc : Nat} {lv : List OV} {st : List Value} {h : Mem} {Q : Option Value → Mem → Prop} (hd : decode cc pc = .ok (.getfield 42, 3)) (kk : V idsA G RX5 cc nL ret R (pc + 3) lv (.ref (ad G 6) :: st) h Q) : V idsA G RX5 cc nL ret R pc lv (.ref (ad G 0) :: st) h Q :=
  V_getG (ci := 5) 0 (by decide) iX5 rfl rfl 5 (by decide) fl_X5_42 rfl rfl hd kk
theorem gX5_46 {G : GE} {cc : ByteArray} {nL : Nat} {ret : Option FieldType} {R : Room} {pc : Nat} {lv : List OV} {st : List Value} {h : Mem} {Q : Option Value → Mem → Prop} (hd : decode cc pc = .ok (.getfield 46, 3)) (kk : V idsA G RX5 cc nL ret R (pc + 3) lv (.ref (ad G 7) :: st) h Q) : V idsA G RX5 cc nL ret R pc lv (.ref (ad G 0) :: st) h Q :=
  V_getG (ci := 5) 0 (by decide) iX5 rfl rfl 6 (by decide) fl_X5_46 rfl rfl hd kk
theorem gX5_81 {G : GE} {cc : ByteArray} {nL : Nat} {ret : Option FieldType} {R : Room} {pc : Nat} {lv : List OV} {st : List Value} {h : Mem} {Q : Option Value → Mem → Prop} {i : Nat} (hi : i < 8) (hd : decode cc pc = .ok (.getfield 81, 3)) (kk : V idsA G RX5 cc nL ret R (pc + 3) lv (.int (h (20 + i) 1) :: st) h Q) : V idsA G RX5 cc nL ret R pc lv (.ref (ad G (20 + i)) :: st) h Q :=
  V_getN (ci := 3) (20 + i) (mem_sheet hi) iX3 (cell_sheet hi _) rfl 1 (by decide) fn_X5_81 rfl rfl hd kk
theorem gX5_85 {G : GE} {cc : ByteArray} {nL : Nat} {ret : Option FieldType} {R : Room} {pc : Nat} {lv : List OV} {st : List Value} {h : Mem} {Q : Option Value → Mem → Prop} {i : Nat} (hi : i < 8) (hd : decode cc pc = .ok (.getfield 85, 3)) (kk : V idsA G RX5 cc nL ret R (pc + 3) lv (.ref (ad G (30 + i)) :: st) h Q) : V idsA G RX5 cc nL ret R pc lv (.ref (ad G (20 + i)) :: st) h Q :=
  V_getN (ci := 3) (20 + i) (mem_sheet hi) iX3 (cell_sheet hi _) rfl 0 (by decide) fn_X5_85 rfl rfl hd kk
theorem gX5_94 {G : GE} {cc : ByteArray} {nL : Nat} {ret : Option FieldType} {R : Room} {pc : Nat} {lv : List OV} {st : List Value} {h : Mem} {Q : Option Value → Mem → Prop} {i : Nat} (hi : i < 8) (hd : decode cc pc = .ok (.getfield 94, 3)) (kk : V idsA G RX5 cc nL ret R (pc + 3) lv (.int (h (20 + i) 2) :: st) h Q) : V idsA G RX5 cc nL ret R pc lv (.ref (ad G (20 + i)) :: st) h Q :=
  V_getN (ci := 3) (20 + i) (mem_sheet hi) iX3 (cell_sheet hi _) rfl 2 (by decide) fn_X5_94 rfl rfl hd kk
theorem gX5_106 {G : GE} {cc : ByteArray} {nL : Nat} {ret : Option FieldType} {R : Room} {pc : Nat} {lv : List OV} {st : List Value} {h : Mem} {Q : Option Value → Mem → Prop} (hd : decode cc pc = .ok (.getfield 106, 3)) (kk : V idsA G RX5 cc nL ret R (pc + 3) lv (.ref (ad G 8) :: st) h Q) : V idsA G RX5 cc nL ret R pc lv (.ref (ad G 4) :: st) h Q :=
  V_getN (ci := 2) 4 (by decide) iX2 rfl rfl 0 (by decide) fn_X5_106 rfl rfl hd kk
theorem gX5_110 {G : GE} {cc : ByteArray} {nL : Nat} {ret : Option FieldType} {R : Room} {pc : Nat} {lv : List OV} {st : List Value} {h : Mem} {Q : Option Value → Mem → Prop} (hd : decode cc pc = .ok (.getfield 110, 3)) (kk : V idsA G RX5 cc nL ret R (pc + 3) lv (.ref (ad G 9) :: st) h Q) : V idsA G RX5 cc nL ret R pc lv (.ref (ad G 4) :: st) h Q :=
  V_getN (ci := 2) 4 (by decide) iX2 rfl rfl 1 (by decide) fn_X5_110 rfl rfl hd kk
theorem gX5_115 {G : GE} {cc : ByteArray} {nL : Nat} {ret : Option FieldType} {R : Room} {pc : Nat} {lv : List OV} {st : List Value} {h : Mem} {Q : Option Value → Mem → Prop} (hd : decode cc pc = .ok (.getfield 115, 3)) (kk : V idsA G RX5 cc nL ret R (pc + 3) lv (.int (h 0 7) :: st) h Q) : V idsA G RX5 cc nL ret R pc lv (.ref (ad G 0) :: st) h Q :=
  V_getG (ci := 5) 0 (by decide) iX5 rfl rfl 7 (by decide) fl_X5_115 rfl rfl hd kk
theorem pX5_115 {G : GE} {cc : ByteArray} {nL : Nat} {ret : Option FieldType} {R : Room} {pc : Nat} {lv : List OV} {st : List Value} {h : Mem} {Q : Option Value → Mem → Prop} {v : Int32} (hd : decode cc pc = .ok (.putfield 115, 3)) (kk : V idsA G RX5 cc nL ret R (pc + 3) lv st (wr h 0 7 v) Q) : V idsA G RX5 cc nL ret R pc lv (.int v :: .ref (ad G 0) :: st) h Q :=
  V_putG (ci := 5) 0 (by decide) iX5 tyX5 tyX5_ok nmX5 rfl rfl 7 (by decide) fl_X5_115 rfl rfl (by decide +kernel) (Nat.le_of_ble_eq_true rfl) rfl hd kk
theorem gX5_129 {G : GE} {cc : ByteArray} {nL : Nat} {ret : Option FieldType} {R : Room} {pc : Nat} {lv : List OV} {st : List Value} {h : Mem} {Q : Option Value → Mem → Prop} (hd : decode cc pc = .ok (.getfield 129, 3)) (kk : V idsA G RX5 cc nL ret R (pc + 3) lv (.int (h 0 8) :: st) h Q) : V idsA G RX5 cc nL ret R pc lv (.ref (ad G 0) :: st) h Q :=
  V_getG (ci := 5) 0 (by decide) iX5 rfl rfl 8 (by decide) fl_X5_129 rfl rfl hd kk
theorem pX5_129 {G : GE} {cc : ByteArray} {nL : Nat} {ret : Option FieldType} {R : Room} {pc : Nat} {lv : List OV} {st : List Value} {h : Mem} {Q : Option Value → Mem → Prop} {v : Int32} (hd : decode cc pc = .ok (.putfield 129, 3)) (kk : V idsA G RX5 cc nL ret R (pc + 3) lv st (wr h 0 8 v) Q) : V idsA G RX5 cc nL ret R pc lv (.int v :: .ref (ad G 0) :: st) h Q :=
  V_putG (ci := 5) 0 (by decide) iX5 tyX5 tyX5_ok nmX5 rfl rfl 8 (by decide) fl_X5_129 rfl rfl (by decide +kernel) (Nat.le_of_ble_eq_true rfl) rfl hd kk
theorem gX5_135 {G : GE} {cc : ByteArray} {nL : Nat} {ret : Option FieldType} {R : Room} {pc : Nat} {lv : List OV} {st : List Value} {h : Mem} {Q : Option Value → Mem → Prop} (hd : decode cc pc = .ok (.getfield 135, 3)) (kk : V idsA G RX5 cc nL ret R (pc + 3) lv (.int (h 4 5) :: st) h Q) : V idsA G RX5 cc nL ret R pc lv (.ref (ad G 4) :: st) h Q :=
  V_getN (ci := 2) 4 (by decide) iX2 rfl rfl 5 (by decide) fn_X5_135 rfl rfl hd kk
theorem gX5_138 {G : GE} {cc : ByteArray} {nL : Nat} {ret : Option FieldType} {R : Room} {pc : Nat} {lv : List OV} {st : List Value} {h : Mem} {Q : Option Value → Mem → Prop} (hd : decode cc pc = .ok (.getfield 138, 3)) (kk : V idsA G RX5 cc nL ret R (pc + 3) lv (.int (h 4 6) :: st) h Q) : V idsA G RX5 cc nL ret R pc lv (.ref (ad G 4) :: st) h Q :=
  V_getN (ci := 2) 4 (by decide) iX2 rfl rfl 6 (by decide) fn_X5_138 rfl rfl hd kk
theorem gX5_155 {G : GE} {cc : ByteArray} {nL : Nat} {ret : Option FieldType} {R : Room} {pc : Nat} {lv : List OV} {st : List Value} {h : Mem} {Q : Option Value → Mem → Prop} (hd : decode cc pc = .ok (.getfield 155, 3)) (kk : V idsA G RX5 cc nL ret R (pc + 3) lv (.ref (ad G 15) :: st) h Q) : V idsA G RX5 cc nL ret R pc lv (.ref (ad G 5) :: st) h Q :=
  V_getN (ci := 0) 5 (by decide) iX0 rfl rfl 2 (by decide) fn_X5_155 rfl rfl hd kk
theorem gX5_158 {G : GE} {cc : ByteArray} {nL : Nat} {ret : Option FieldType} {R : Room} {pc : Nat} {lv : List OV} {st : List Value} {h : Mem} {Q : Option Value → Mem → Prop} (hd : decode cc pc = .ok (.getfield 158, 3)) (kk : V idsA G RX5 cc nL ret R (pc + 3) lv (.int (h 5 4) :: st) h Q) : V idsA G RX5 cc nL ret R pc lv (.ref (ad G 5) :: st) h Q :=
  V_getN (ci := 0) 5 (by decide) iX0 rfl rfl 4 (by decide) fn_X5_158 rfl rfl hd kk
theorem gX5_165 {G : GE} {cc : ByteArray} {nL : Nat} {ret : Option FieldType} {R : Room} {pc : Nat} {lv : List OV} {st : List Value} {h : Mem} {Q : Option Value → Mem → Prop} (hd : decode cc pc = .ok (.getfield 165, 3)) (kk : V idsA G RX5 cc nL ret R (pc + 3) lv (.int (h 5 5) :: st) h Q) : V idsA G RX5 cc nL ret R pc lv (.ref (ad G 5) :: st) h Q :=
  V_getN (ci := 0) 5 (by decide) iX0 rfl rfl 5 (by decide) fn_X5_165 rfl rfl hd kk
theorem gX5_180 {G : GE} {cc : ByteArray} {nL : Nat} {ret : Option FieldType} {R : Room} {pc : Nat} {lv : List OV} {st : List Value} {h : Mem} {Q : Option Value → Mem → Prop} {i : Nat} (hi : i < 12) (hd : decode cc pc = .ok (.getfield 180, 3)) (kk : V idsA G RX5 cc nL ret R (pc + 3) lv (.int (h (40 + i) 4) :: st) h Q) : V idsA G RX5 cc nL ret R pc lv (.ref (ad G (40 + i)) :: st) h Q :=
  V_getN (ci := 1) (40 + i) (mem_line hi) iX1 (cell_line hi _) rfl 4 (by decide) fn_X5_180 rfl rfl hd kk
theorem gX5_181 {G : GE} {cc : ByteArray} {nL : Nat} {ret : Option FieldType} {R : Room} {pc : Nat} {lv : List OV} {st : List Value} {h : Mem} {Q : Option Value → Mem → Prop} {i : Nat} (hi : i < 12) (hd : decode cc pc = .ok (.getfield 181, 3)) (kk : V idsA G RX5 cc nL ret R (pc + 3) lv (.ref (ad G (60 + i)) :: st) h Q) : V idsA G RX5 cc nL ret R pc lv (.ref (ad G (40 + i)) :: st) h Q :=
  V_getN (ci := 1) (40 + i) (mem_line hi) iX1 (cell_line hi _) rfl 1 (by decide) fn_X5_181 rfl rfl hd kk
theorem gX5_209 {G : GE} {cc : ByteArray} {nL : Nat} {ret : Option FieldType} {R : Room} {pc : Nat} {lv : List OV} {st : List Value} {h : Mem} {Q : Option Value → Mem → Prop} {i : Nat} (hi : i < 12) (hd : decode cc pc = .ok (.getfield 209, 3)) (kk : V idsA G RX5 cc nL ret R (pc + 3) lv (.int (h (40 + i) 0) :: st) h Q) : V idsA G RX5 cc nL ret R pc lv (.ref (ad G (40 + i)) :: st) h Q :=
  V_getN (ci := 1) (40 + i) (mem_line hi) iX1 (cell_line hi _) rfl 0 (by decide) fn_X5_209 rfl rfl hd kk
theorem gX5_222 {G : GE} {cc : ByteArray} {nL : Nat} {ret : Option FieldType} {R : Room} {pc : Nat} {lv : List OV} {st : List Value} {h : Mem} {Q : Option Value → Mem → Prop} (hd : decode cc pc = .ok (.getfield 222, 3)) (kk : V idsA G RX5 cc nL ret R (pc + 3) lv (.int (h 6 3) :: st) h Q) : V idsA G RX5 cc nL ret R pc lv (.ref (ad G 6) :: st) h Q :=
  V_getN (ci := 4) 6 (by decide) iX4 rfl rfl 3 (by decide) fn_X5_222 rfl rfl hd kk
theorem gX5_225 {G : GE} {cc : ByteArray} {nL : Nat} {ret : Option FieldType} {R : Room} {pc : Nat} {lv : List OV} {st : List Value} {h : Mem} {Q : Option Value → Mem → Prop} (hd : decode cc pc = .ok (.getfield 225, 3)) (kk : V idsA G RX5 cc nL ret R (pc + 3) lv (.ref (ad G 17) :: st) h Q) : V idsA G RX5 cc nL ret R pc lv (.ref (ad G 6) :: st) h Q :=
  V_getN (ci := 4) 6 (by decide) iX4 rfl rfl 1 (by decide) fn_X5_225 rfl rfl hd kk
theorem gX5_241 {G : GE} {cc : ByteArray} {nL : Nat} {ret : Option FieldType} {R : Room} {pc : Nat} {lv : List OV} {st : List Value} {h : Mem} {Q : Option Value → Mem → Prop} (hd : decode cc pc = .ok (.getfield 241, 3)) (kk : V idsA G RX5 cc nL ret R (pc + 3) lv (.int (h 0 9) :: st) h Q) : V idsA G RX5 cc nL ret R pc lv (.ref (ad G 0) :: st) h Q :=
  V_getG (ci := 5) 0 (by decide) iX5 rfl rfl 9 (by decide) fl_X5_241 rfl rfl hd kk
theorem pX5_241 {G : GE} {cc : ByteArray} {nL : Nat} {ret : Option FieldType} {R : Room} {pc : Nat} {lv : List OV} {st : List Value} {h : Mem} {Q : Option Value → Mem → Prop} {v : Int32} (hd : decode cc pc = .ok (.putfield 241, 3)) (kk : V idsA G RX5 cc nL ret R (pc + 3) lv st (wr h 0 9 v) Q) : V idsA G RX5 cc nL ret R pc lv (.int v :: .ref (ad G 0) :: st) h Q :=
  V_putG (ci := 5) 0 (by decide) iX5 tyX5 tyX5_ok nmX5 rfl rfl 9 (by decide) fl_X5_241 rfl rfl (by decide +kernel) (Nat.le_of_ble_eq_true rfl) rfl hd kk
theorem gX5_264 {G : GE} {cc : ByteArray} {nL : Nat} {ret : Option FieldType} {R : Room} {pc : Nat} {lv : List OV} {st : List Value} {h : Mem} {Q : Option Value → Mem → Prop} (hd : decode cc pc = .ok (.getfield 264, 3)) (kk : V idsA G RX5 cc nL ret R (pc + 3) lv (.int (h 0 10) :: st) h Q) : V idsA G RX5 cc nL ret R pc lv (.ref (ad G 0) :: st) h Q :=
  V_getG (ci := 5) 0 (by decide) iX5 rfl rfl 10 (by decide) fl_X5_264 rfl rfl hd kk
theorem pX5_264 {G : GE} {cc : ByteArray} {nL : Nat} {ret : Option FieldType} {R : Room} {pc : Nat} {lv : List OV} {st : List Value} {h : Mem} {Q : Option Value → Mem → Prop} {v : Int32} (hd : decode cc pc = .ok (.putfield 264, 3)) (kk : V idsA G RX5 cc nL ret R (pc + 3) lv st (wr h 0 10 v) Q) : V idsA G RX5 cc nL ret R pc lv (.int v :: .ref (ad G 0) :: st) h Q :=
  V_putG (ci := 5) 0 (by decide) iX5 tyX5 tyX5_ok nmX5 rfl rfl 10 (by decide) fl_X5_264 rfl rfl (by decide +kernel) (Nat.le_of_ble_eq_true rfl) rfl hd kk
theorem gX5_280 {G : GE} {cc : ByteArray} {nL : Nat} {ret : Option FieldType} {R : Room} {pc : Nat} {lv : List OV} {st : List Value} {h : Mem} {Q : Option Value → Mem → Prop} {i : Nat} (hi : i < 12) (hd : decode cc pc = .ok (.getfield 280, 3)) (kk : V idsA G RX5 cc nL ret R (pc + 3) lv (.int (h (40 + i) 2) :: st) h Q) : V idsA G RX5 cc nL ret R pc lv (.ref (ad G (40 + i)) :: st) h Q :=
  V_getN (ci := 1) (40 + i) (mem_line hi) iX1 (cell_line hi _) rfl 2 (by decide) fn_X5_280 rfl rfl hd kk
theorem gX5_283 {G : GE} {cc : ByteArray} {nL : Nat} {ret : Option FieldType} {R : Room} {pc : Nat} {lv : List OV} {st : List Value} {h : Mem} {Q : Option Value → Mem → Prop} {i : Nat} (hi : i < 12) (hd : decode cc pc = .ok (.getfield 283, 3)) (kk : V idsA G RX5 cc nL ret R (pc + 3) lv (.int (h (40 + i) 3) :: st) h Q) : V idsA G RX5 cc nL ret R pc lv (.ref (ad G (40 + i)) :: st) h Q :=
  V_getN (ci := 1) (40 + i) (mem_line hi) iX1 (cell_line hi _) rfl 3 (by decide) fn_X5_283 rfl rfl hd kk
theorem gX6_7 {G : GE} {cc : ByteArray} {nL : Nat} {ret : Option FieldType} {R : Room} {pc : Nat} {lv : List OV} {st : List Value} {h : Mem} {Q : Option Value → Mem → Prop} (hd : decode cc pc = .ok (.getfield 7, 3)) (kk : V idsB G RX6 cc nL ret R (pc + 3) lv (.ref (ad G 102) :: st) h Q) : V idsB G RX6 cc nL ret R pc lv (.ref (ad G 100) :: st) h Q :=
  V_getG (ci := 6) 100 (by decide) iX6 rfl rfl 2 (by decide) fl_X6_7 rfl rfl hd kk
theorem gX6_13 {G : GE} {cc : ByteArray} {nL : Nat} {ret : Option FieldType} {R : Room} {pc : Nat} {lv : List OV} {st : List Value} {h : Mem} {Q : Option Value → Mem → Prop} (hd : decode cc pc = .ok (.getfield 13, 3)) (kk : V idsB G RX6 cc nL ret R (pc + 3) lv (.ref (ad G 103) :: st) h Q) : V idsB G RX6 cc nL ret R pc lv (.ref (ad G 100) :: st) h Q :=
  V_getG (ci := 6) 100 (by decide) iX6 rfl rfl 3 (by decide) fl_X6_13 rfl rfl hd kk
theorem gX6_16 {G : GE} {cc : ByteArray} {nL : Nat} {ret : Option FieldType} {R : Room} {pc : Nat} {lv : List OV} {st : List Value} {h : Mem} {Q : Option Value → Mem → Prop} (hd : decode cc pc = .ok (.getfield 16, 3)) (kk : V idsB G RX6 cc nL ret R (pc + 3) lv (.ref (ad G 104) :: st) h Q) : V idsB G RX6 cc nL ret R pc lv (.ref (ad G 100) :: st) h Q :=
  V_getG (ci := 6) 100 (by decide) iX6 rfl rfl 4 (by decide) fl_X6_16 rfl rfl hd kk
theorem gX6_19 {G : GE} {cc : ByteArray} {nL : Nat} {ret : Option FieldType} {R : Room} {pc : Nat} {lv : List OV} {st : List Value} {h : Mem} {Q : Option Value → Mem → Prop} (hd : decode cc pc = .ok (.getfield 19, 3)) (kk : V idsB G RX6 cc nL ret R (pc + 3) lv (.ref (ad G 105) :: st) h Q) : V idsB G RX6 cc nL ret R pc lv (.ref (ad G 100) :: st) h Q :=
  V_getG (ci := 6) 100 (by decide) iX6 rfl rfl 5 (by decide) fl_X6_19 rfl rfl hd kk
theorem gX6_23 {G : GE} {cc : ByteArray} {nL : Nat} {ret : Option FieldType} {R : Room} {pc : Nat} {lv : List OV} {st : List Value} {h : Mem} {Q : Option Value → Mem → Prop} (hd : decode cc pc = .ok (.getfield 23, 3)) (kk : V idsB G RX6 cc nL ret R (pc + 3) lv (.ref (ad G 107) :: st) h Q) : V idsB G RX6 cc nL ret R pc lv (.ref (ad G 100) :: st) h Q :=
  V_getG (ci := 6) 100 (by decide) iX6 rfl rfl 7 (by decide) fl_X6_23 rfl rfl hd kk
theorem gX6_26 {G : GE} {cc : ByteArray} {nL : Nat} {ret : Option FieldType} {R : Room} {pc : Nat} {lv : List OV} {st : List Value} {h : Mem} {Q : Option Value → Mem → Prop} (hd : decode cc pc = .ok (.getfield 26, 3)) (kk : V idsB G RX6 cc nL ret R (pc + 3) lv (.ref (ad G 109) :: st) h Q) : V idsB G RX6 cc nL ret R pc lv (.ref (ad G 100) :: st) h Q :=
  V_getG (ci := 6) 100 (by decide) iX6 rfl rfl 9 (by decide) fl_X6_26 rfl rfl hd kk
theorem gX6_29 {G : GE} {cc : ByteArray} {nL : Nat} {ret : Option FieldType} {R : Room} {pc : Nat} {lv : List OV} {st : List Value} {h : Mem} {Q : Option Value → Mem → Prop} (hd : decode cc pc = .ok (.getfield 29, 3)) (kk : V idsB G RX6 cc nL ret R (pc + 3) lv (.ref (ad G 110) :: st) h Q) : V idsB G RX6 cc nL ret R pc lv (.ref (ad G 100) :: st) h Q :=
  V_getG (ci := 6) 100 (by decide) iX6 rfl rfl 10 (by decide) fl_X6_29 rfl rfl hd kk
theorem gX6_32 {G : GE} {cc : ByteArray} {nL : Nat} {ret : Option FieldType} {R : Room} {pc : Nat} {lv : List OV} {st : List Value} {h : Mem} {Q : Option Value → Mem → Prop} (hd : decode cc pc = .ok (.getfield 32, 3)) (kk : V idsB G RX6 cc nL ret R (pc + 3) lv (.ref (ad G 111) :: st) h Q) : V idsB G RX6 cc nL ret R pc lv (.ref (ad G 100) :: st) h Q :=
  V_getG (ci := 6) 100 (by decide) iX6 rfl rfl 11 (by decide) fl_X6_32 rfl rfl hd kk
theorem gX6_35 {G : GE} {cc : ByteArray} {nL : Nat} {ret : Option FieldType} {R : Room} {pc : Nat} {lv : List OV} {st : List Value} {h : Mem} {Q : Option Value → Mem → Prop} (hd : decode cc pc = .ok (.getfield 35, 3)) (kk : V idsB G RX6 cc nL ret R (pc + 3) lv (.ref (ad G 112) :: st) h Q) : V idsB G RX6 cc nL ret R pc lv (.ref (ad G 100) :: st) h Q :=
  V_getG (ci := 6) 100 (by decide) iX6 rfl rfl 12 (by decide) fl_X6_35 rfl rfl hd kk
theorem gX6_38 {G : GE} {cc : ByteArray} {nL : Nat} {ret : Option FieldType} {R : Room} {pc : Nat} {lv : List OV} {st : List Value} {h : Mem} {Q : Option Value → Mem → Prop} (hd : decode cc pc = .ok (.getfield 38, 3)) (kk : V idsB G RX6 cc nL ret R (pc + 3) lv (.ref (ad G 113) :: st) h Q) : V idsB G RX6 cc nL ret R pc lv (.ref (ad G 100) :: st) h Q :=
  V_getG (ci := 6) 100 (by decide) iX6 rfl rfl 13 (by decide) fl_X6_38 rfl rfl hd kk
theorem gX6_41 {G : GE} {cc : ByteArray} {nL : Nat} {ret : Option FieldType} {R : Room} {pc : Nat} {lv : List OV} {st : List Value} {h : Mem} {Q : Option Value → Mem → Prop} (hd : decode cc pc = .ok (.getfield 41, 3)) (kk : V idsB G RX6 cc nL ret R (pc + 3) lv (.ref (ad G 114) :: st) h Q) : V idsB G RX6 cc nL ret R pc lv (.ref (ad G 100) :: st) h Q :=
  V_getG (ci := 6) 100 (by decide) iX6 rfl rfl 14 (by decide) fl_X6_41 rfl rfl hd kk
theorem gX6_44 {G : GE} {cc : ByteArray} {nL : Nat} {ret : Option FieldType} {R : Room} {pc : Nat} {lv : List OV} {st : List Value} {h : Mem} {Q : Option Value → Mem → Prop} (hd : decode cc pc = .ok (.getfield 44, 3)) (kk : V idsB G RX6 cc nL ret R (pc + 3) lv (.ref (ad G 115) :: st) h Q) : V idsB G RX6 cc nL ret R pc lv (.ref (ad G 100) :: st) h Q :=
  V_getG (ci := 6) 100 (by decide) iX6 rfl rfl 15 (by decide) fl_X6_44 rfl rfl hd kk
theorem gX6_47 {G : GE} {cc : ByteArray} {nL : Nat} {ret : Option FieldType} {R : Room} {pc : Nat} {lv : List OV} {st : List Value} {h : Mem} {Q : Option Value → Mem → Prop} (hd : decode cc pc = .ok (.getfield 47, 3)) (kk : V idsB G RX6 cc nL ret R (pc + 3) lv (.ref (ad G 116) :: st) h Q) : V idsB G RX6 cc nL ret R pc lv (.ref (ad G 100) :: st) h Q :=
  V_getG (ci := 6) 100 (by decide) iX6 rfl rfl 16 (by decide) fl_X6_47 rfl rfl hd kk
theorem gX6_50 {G : GE} {cc : ByteArray} {nL : Nat} {ret : Option FieldType} {R : Room} {pc : Nat} {lv : List OV} {st : List Value} {h : Mem} {Q : Option Value → Mem → Prop} (hd : decode cc pc = .ok (.getfield 50, 3)) (kk : V idsB G RX6 cc nL ret R (pc + 3) lv (.ref (ad G 117) :: st) h Q) : V idsB G RX6 cc nL ret R pc lv (.ref (ad G 100) :: st) h Q :=
  V_getG (ci := 6) 100 (by decide) iX6 rfl rfl 17 (by decide) fl_X6_50 rfl rfl hd kk
theorem gX6_53 {G : GE} {cc : ByteArray} {nL : Nat} {ret : Option FieldType} {R : Room} {pc : Nat} {lv : List OV} {st : List Value} {h : Mem} {Q : Option Value → Mem → Prop} (hd : decode cc pc = .ok (.getfield 53, 3)) (kk : V idsB G RX6 cc nL ret R (pc + 3) lv (.ref (ad G 118) :: st) h Q) : V idsB G RX6 cc nL ret R pc lv (.ref (ad G 100) :: st) h Q :=
  V_getG (ci := 6) 100 (by decide) iX6 rfl rfl 18 (by decide) fl_X6_53 rfl rfl hd kk
theorem gX6_56 {G : GE} {cc : ByteArray} {nL : Nat} {ret : Option FieldType} {R : Room} {pc : Nat} {lv : List OV} {st : List Value} {h : Mem} {Q : Option Value → Mem → Prop} (hd : decode cc pc = .ok (.getfield 56, 3)) (kk : V idsB G RX6 cc nL ret R (pc + 3) lv (.ref (ad G 119) :: st) h Q) : V idsB G RX6 cc nL ret R pc lv (.ref (ad G 100) :: st) h Q :=
  V_getG (ci := 6) 100 (by decide) iX6 rfl rfl 19 (by decide) fl_X6_56 rfl rfl hd kk
theorem gX6_59 {G : GE} {cc : ByteArray} {nL : Nat} {ret : Option FieldType} {R : Room} {pc : Nat} {lv : List OV} {st : List Value} {h : Mem} {Q : Option Value → Mem → Prop} (hd : decode cc pc = .ok (.getfield 59, 3)) (kk : V idsB G RX6 cc nL ret R (pc + 3) lv (.ref (ad G 120) :: st) h Q) : V idsB G RX6 cc nL ret R pc lv (.ref (ad G 100) :: st) h Q :=
  V_getG (ci := 6) 100 (by decide) iX6 rfl rfl 20 (by decide) fl_X6_59 rfl rfl hd kk
theorem pX6_62 {G : GE} {cc : ByteArray} {nL : Nat} {ret : Option FieldType} {R : Room} {pc : Nat} {lv : List OV} {st : List Value} {h : Mem} {Q : Option Value → Mem → Prop} {v : Int32} (hd : decode cc pc = .ok (.putfield 62, 3)) (kk : V idsB G RX6 cc nL ret R (pc + 3) lv st (wr h 100 0 v) Q) : V idsB G RX6 cc nL ret R pc lv (.int v :: .ref (ad G 100) :: st) h Q :=
  V_putG (ci := 6) 100 (by decide) iX6 tyX6 tyX6_ok nmX6 rfl rfl 0 (by decide) fl_X6_62 rfl rfl (by decide +kernel) (Nat.le_of_ble_eq_true rfl) rfl hd kk
theorem gX6_66 {G : GE} {cc : ByteArray} {nL : Nat} {ret : Option FieldType} {R : Room} {pc : Nat} {lv : List OV} {st : List Value} {h : Mem} {Q : Option Value → Mem → Prop} (hd : decode cc pc = .ok (.getfield 66, 3)) (kk : V idsB G RX6 cc nL ret R (pc + 3) lv (.int (h 100 1) :: st) h Q) : V idsB G RX6 cc nL ret R pc lv (.ref (ad G 100) :: st) h Q :=
  V_getG (ci := 6) 100 (by decide) iX6 rfl rfl 1 (by decide) fl_X6_66 rfl rfl hd kk
theorem pX6_66 {G : GE} {cc : ByteArray} {nL : Nat} {ret : Option FieldType} {R : Room} {pc : Nat} {lv : List OV} {st : List Value} {h : Mem} {Q : Option Value → Mem → Prop} {v : Int32} (hd : decode cc pc = .ok (.putfield 66, 3)) (kk : V idsB G RX6 cc nL ret R (pc + 3) lv st (wr h 100 1 v) Q) : V idsB G RX6 cc nL ret R pc lv (.int v :: .ref (ad G 100) :: st) h Q :=
  V_putG (ci := 6) 100 (by decide) iX6 tyX6 tyX6_ok nmX6 rfl rfl 1 (by decide) fl_X6_66 rfl rfl (by decide +kernel) (Nat.le_of_ble_eq_true rfl) rfl hd kk
theorem gX6_94 {G : GE} {cc : ByteArray} {nL : Nat} {ret : Option FieldType} {R : Room} {pc : Nat} {lv : List OV} {st : List Value} {h : Mem} {Q : Option Value → Mem → Prop} (hd : decode cc pc = .ok (.getfield 94, 3)) (kk : V idsB G RX6 cc nL ret R (pc + 3) lv (.int (h 100 6) :: st) h Q) : V idsB G RX6 cc nL ret R pc lv (.ref (ad G 100) :: st) h Q :=
  V_getG (ci := 6) 100 (by decide) iX6 rfl rfl 6 (by decide) fl_X6_94 rfl rfl hd kk
theorem pX6_94 {G : GE} {cc : ByteArray} {nL : Nat} {ret : Option FieldType} {R : Room} {pc : Nat} {lv : List OV} {st : List Value} {h : Mem} {Q : Option Value → Mem → Prop} {v : Int32} (hd : decode cc pc = .ok (.putfield 94, 3)) (kk : V idsB G RX6 cc nL ret R (pc + 3) lv st (wr h 100 6 v) Q) : V idsB G RX6 cc nL ret R pc lv (.int v :: .ref (ad G 100) :: st) h Q :=
  V_putG (ci := 6) 100 (by decide) iX6 tyX6 tyX6_ok nmX6 rfl rfl 6 (by decide) fl_X6_94 rfl rfl (by decide +kernel) (Nat.le_of_ble_eq_true rfl) rfl hd kk
theorem gX6_102 {G : GE} {cc : ByteArray} {nL : Nat} {ret : Option FieldType} {R : Room} {pc : Nat} {lv : List OV} {st : List Value} {h : Mem} {Q : Option Value → Mem → Prop} (hd : decode cc pc = .ok (.getfield 102, 3)) (kk : V idsB G RX6 cc nL ret R (pc + 3) lv (.int (h 100 8) :: st) h Q) : V idsB G RX6 cc nL ret R pc lv (.ref (ad G 100) :: st) h Q :=
  V_getG (ci := 6) 100 (by decide) iX6 rfl rfl 8 (by decide) fl_X6_102 rfl rfl hd kk
theorem pX6_102 {G : GE} {cc : ByteArray} {nL : Nat} {ret : Option FieldType} {R : Room} {pc : Nat} {lv : List OV} {st : List Value} {h : Mem} {Q : Option Value → Mem → Prop} {v : Int32} (hd : decode cc pc = .ok (.putfield 102, 3)) (kk : V idsB G RX6 cc nL ret R (pc + 3) lv st (wr h 100 8 v) Q) : V idsB G RX6 cc nL ret R pc lv (.int v :: .ref (ad G 100) :: st) h Q :=
  V_putG (ci := 6) 100 (by decide) iX6 tyX6 tyX6_ok nmX6 rfl rfl 8 (by decide) fl_X6_102 rfl rfl (by decide +kernel) (Nat.le_of_ble_eq_true rfl) rfl hd kk
theorem gX6_187 {G : GE} {cc : ByteArray} {nL : Nat} {ret : Option FieldType} {R : Room} {pc : Nat} {lv : List OV} {st : List Value} {h : Mem} {Q : Option Value → Mem → Prop} (hd : decode cc pc = .ok (.getfield 187, 3)) (kk : V idsB G RX6 cc nL ret R (pc + 3) lv (.int (h 100 21) :: st) h Q) : V idsB G RX6 cc nL ret R pc lv (.ref (ad G 100) :: st) h Q :=
  V_getG (ci := 6) 100 (by decide) iX6 rfl rfl 21 (by decide) fl_X6_187 rfl rfl hd kk
theorem pX6_187 {G : GE} {cc : ByteArray} {nL : Nat} {ret : Option FieldType} {R : Room} {pc : Nat} {lv : List OV} {st : List Value} {h : Mem} {Q : Option Value → Mem → Prop} {v : Int32} (hd : decode cc pc = .ok (.putfield 187, 3)) (kk : V idsB G RX6 cc nL ret R (pc + 3) lv st (wr h 100 21 v) Q) : V idsB G RX6 cc nL ret R pc lv (.int v :: .ref (ad G 100) :: st) h Q :=
  V_putG (ci := 6) 100 (by decide) iX6 tyX6 tyX6_ok nmX6 rfl rfl 21 (by decide) fl_X6_187 rfl rfl (by decide +kernel) (Nat.le_of_ble_eq_true rfl) rfl hd kk
theorem okX0_spread : mOK yX0_spread 2 := by unfold mOK; exact ⟨by decide +kernel, by decide +kernel, by decide +kernel⟩
theorem kX0_21 {G : GE} {cc : ByteArray} {nL : Nat} {ret : Option FieldType} {R : Room} {pc : Nat} {lv : List OV} {st : List Value} {h : Mem} {Q : Option Value → Mem → Prop} {R2 : Room} {P : Mem → Prop} {a0 a1 : Value} (hM : Ct idsA G yX0_spread cX0_spread 6 none R2 [.ref (ad G 5), a0, a1] h (Qv P)) (hR : rOK R R2 6) (hw : (st.map fun v => v.category).sum ≤ 8) (hd : decode cc pc = .ok (.invokevirtual 21, 3)) (k : ∀ h', P h' → V idsA G RX0 cc nL ret R (pc + 3) lv st h' Q) : V idsA G RX0 cc nL ret R pc lv (a1 :: a0 :: .ref (ad G 5) :: st) h Q :=
  V_callV (rest := st) (av := [a0, a1]) hM ml_X0_21 imX0_spread seX0_spread in_X0 coX0_spread okX0_spread hR (by decide) rfl rfl rfl hw hd (fun v h' hq => by obtain ⟨rfl, hp⟩ := hq; exact k h' hp)
theorem okX0_leastDirection : mOK yX0_leastDirection 3 := by unfold mOK; exact ⟨by decide +kernel, by decide +kernel, by decide +kernel⟩
theorem kX0_41 {G : GE} {cc : ByteArray} {nL : Nat} {ret : Option FieldType} {R : Room} {pc : Nat} {lv : List OV} {st : List Value} {h : Mem} {Q : Option Value → Mem → Prop} {R2 : Room} {P : Int32 → Mem → Prop} {a0 a1 a2 : Value} (hM : Ct idsA G yX0_leastDirection cX0_leastDirection 6 (some .int) R2 [.ref (ad G 5), a0, a1, a2] h (Qi P)) (hR : rOK R R2 6) (hw : (st.map fun v => v.category).sum ≤ 8) (hd : decode cc pc = .ok (.invokevirtual 41, 3)) (k : ∀ r h', P r h' → V idsA G RX0 cc nL ret R (pc + 3) lv (.int r :: st) h' Q) : V idsA G RX0 cc nL ret R pc lv (a2 :: a1 :: a0 :: .ref (ad G 5) :: st) h Q :=
  V_callV (rest := st) (av := [a0, a1, a2]) hM ml_X0_41 imX0_leastDirection seX0_leastDirection in_X0 coX0_leastDirection okX0_leastDirection hR (by decide) rfl rfl rfl hw hd (fun v h' hq => by obtain ⟨r, rfl, hp⟩ := hq; exact k r h' hp)
theorem okX5_beside : mOK yX5_beside 2 := by unfold mOK; exact ⟨by decide +kernel, by decide +kernel, by decide +kernel⟩
theorem kX0_45 {G : GE} {cc : ByteArray} {nL : Nat} {ret : Option FieldType} {R : Room} {pc : Nat} {lv : List OV} {st : List Value} {h : Mem} {Q : Option Value → Mem → Prop} {R2 : Room} {P : Int32 → Mem → Prop} {a0 a1 : Value} (hM : Ct idsA G yX5_beside cX5_beside 2 (some .int) R2 [a0, a1] h (Qi P)) (hR : rOK R R2 2) (hw : (st.map fun v => v.category).sum ≤ 8) (hd : decode cc pc = .ok (.invokestatic 45, 3)) (k : ∀ r h', P r h' → V idsA G RX0 cc nL ret R (pc + 3) lv (.int r :: st) h' Q) : V idsA G RX0 cc nL ret R pc lv (a1 :: a0 :: st) h Q :=
  V_callSN (rest := st) (av := [a0, a1]) hM mn_X0_45 smX5_beside in_X5 coX5_beside okX5_beside hR rfl hw hd (fun v h' hq => by obtain ⟨r, rfl, hp⟩ := hq; exact k r h' hp)
theorem okJ6_bitCount_0f7a4 : mOK yJ6_bitCount_0f7a4 1 := by unfold mOK; exact ⟨by decide +kernel, by decide +kernel, by decide +kernel⟩
theorem kX0_60 {G : GE} {cc : ByteArray} {nL : Nat} {ret : Option FieldType} {R : Room} {pc : Nat} {lv : List OV} {st : List Value} {h : Mem} {Q : Option Value → Mem → Prop} {R2 : Room} {P : Int32 → Mem → Prop} {a0 : Value} (hM : Ct idsA G yJ6_bitCount_0f7a4 cJ6_bitCount_0f7a4 1 (some .int) R2 [a0] h (Qi P)) (hR : rOK R R2 1) (hw : (st.map fun v => v.category).sum ≤ 8) (hd : decode cc pc = .ok (.invokestatic 60, 3)) (k : ∀ r h', P r h' → V idsA G RX0 cc nL ret R (pc + 3) lv (.int r :: st) h' Q) : V idsA G RX0 cc nL ret R pc lv (a0 :: st) h Q :=
  V_callS (rest := st) (av := [a0]) hM ml_X0_60 smJ6_bitCount_0f7a4 in_J6 coJ6_bitCount_0f7a4 okJ6_bitCount_0f7a4 hR rfl hw hd (fun v h' hq => by obtain ⟨r, rfl, hp⟩ := hq; exact k r h' hp)
theorem okX5_sideBetween : mOK yX5_sideBetween 3 := by unfold mOK; exact ⟨by decide +kernel, by decide +kernel, by decide +kernel⟩
theorem kX0_66 {G : GE} {cc : ByteArray} {nL : Nat} {ret : Option FieldType} {R : Room} {pc : Nat} {lv : List OV} {st : List Value} {h : Mem} {Q : Option Value → Mem → Prop} {R2 : Room} {P : Int32 → Mem → Prop} {a0 a1 a2 : Value} (hM : Ct idsA G yX5_sideBetween cX5_sideBetween 3 (some .int) R2 [a0, a1, a2] h (Qi P)) (hR : rOK R R2 3) (hw : (st.map fun v => v.category).sum ≤ 8) (hd : decode cc pc = .ok (.invokestatic 66, 3)) (k : ∀ r h', P r h' → V idsA G RX0 cc nL ret R (pc + 3) lv (.int r :: st) h' Q) : V idsA G RX0 cc nL ret R pc lv (a2 :: a1 :: a0 :: st) h Q :=
  V_callSN (rest := st) (av := [a0, a1, a2]) hM mn_X0_66 smX5_sideBetween in_X5 coX5_sideBetween okX5_sideBetween hR rfl hw hd (fun v h' hq => by obtain ⟨r, rfl, hp⟩ := hq; exact k r h' hp)
theorem okX0_weight : mOK yX0_weight 3 := by unfold mOK; exact ⟨by decide +kernel, by decide +kernel, by decide +kernel⟩
theorem kX0_70 {G : GE} {cc : ByteArray} {nL : Nat} {ret : Option FieldType} {R : Room} {pc : Nat} {lv : List OV} {st : List Value} {h : Mem} {Q : Option Value → Mem → Prop} {R2 : Room} {P : Int32 → Mem → Prop} {a0 a1 a2 : Value} (hM : Ct idsA G yX0_weight cX0_weight 3 (some .int) R2 [a0, a1, a2] h (Qi P)) (hR : rOK R R2 3) (hw : (st.map fun v => v.category).sum ≤ 8) (hd : decode cc pc = .ok (.invokestatic 70, 3)) (k : ∀ r h', P r h' → V idsA G RX0 cc nL ret R (pc + 3) lv (.int r :: st) h' Q) : V idsA G RX0 cc nL ret R pc lv (a2 :: a1 :: a0 :: st) h Q :=
  V_callS (rest := st) (av := [a0, a1, a2]) hM ml_X0_70 smX0_weight in_X0 coX0_weight okX0_weight hR rfl hw hd (fun v h' hq => by obtain ⟨r, rfl, hp⟩ := hq; exact k r h' hp)
theorem okX0_reach : mOK yX0_reach 2 := by unfold mOK; exact ⟨by decide +kernel, by decide +kernel, by decide +kernel⟩
theorem kX0_76 {G : GE} {cc : ByteArray} {nL : Nat} {ret : Option FieldType} {R : Room} {pc : Nat} {lv : List OV} {st : List Value} {h : Mem} {Q : Option Value → Mem → Prop} {R2 : Room} {P : Mem → Prop} {a0 a1 : Value} (hM : Ct idsA G yX0_reach cX0_reach 5 none R2 [.ref (ad G 5), a0, a1] h (Qv P)) (hR : rOK R R2 5) (hw : (st.map fun v => v.category).sum ≤ 8) (hd : decode cc pc = .ok (.invokevirtual 76, 3)) (k : ∀ h', P h' → V idsA G RX0 cc nL ret R (pc + 3) lv st h' Q) : V idsA G RX0 cc nL ret R pc lv (a1 :: a0 :: .ref (ad G 5) :: st) h Q :=
  V_callV (rest := st) (av := [a0, a1]) hM ml_X0_76 imX0_reach seX0_reach in_X0 coX0_reach okX0_reach hR (by decide) rfl rfl rfl hw hd (fun v h' hq => by obtain ⟨rfl, hp⟩ := hq; exact k h' hp)
theorem okX0_pull : mOK yX0_pull 0 := by unfold mOK; exact ⟨by decide +kernel, by decide +kernel, by decide +kernel⟩
theorem kX0_80 {G : GE} {cc : ByteArray} {nL : Nat} {ret : Option FieldType} {R : Room} {pc : Nat} {lv : List OV} {st : List Value} {h : Mem} {Q : Option Value → Mem → Prop} {R2 : Room} {P : Int32 → Mem → Prop} (hM : Ct idsA G yX0_pull cX0_pull 5 (some .int) R2 [.ref (ad G 5)] h (Qi P)) (hR : rOK R R2 5) (hw : (st.map fun v => v.category).sum ≤ 8) (hd : decode cc pc = .ok (.invokevirtual 80, 3)) (k : ∀ r h', P r h' → V idsA G RX0 cc nL ret R (pc + 3) lv (.int r :: st) h' Q) : V idsA G RX0 cc nL ret R pc lv (.ref (ad G 5) :: st) h Q :=
  V_callV (rest := st) (av := []) hM ml_X0_80 imX0_pull seX0_pull in_X0 coX0_pull okX0_pull hR (by decide) rfl rfl rfl hw hd (fun v h' hq => by obtain ⟨r, rfl, hp⟩ := hq; exact k r h' hp)
theorem okX0_reachFrom : mOK yX0_reachFrom 3 := by unfold mOK; exact ⟨by decide +kernel, by decide +kernel, by decide +kernel⟩
theorem kX0_84 {G : GE} {cc : ByteArray} {nL : Nat} {ret : Option FieldType} {R : Room} {pc : Nat} {lv : List OV} {st : List Value} {h : Mem} {Q : Option Value → Mem → Prop} {R2 : Room} {P : Mem → Prop} {a0 a1 a2 : Value} (hM : Ct idsA G yX0_reachFrom cX0_reachFrom 7 none R2 [.ref (ad G 5), a0, a1, a2] h (Qv P)) (hR : rOK R R2 7) (hw : (st.map fun v => v.category).sum ≤ 8) (hd : decode cc pc = .ok (.invokevirtual 84, 3)) (k : ∀ h', P h' → V idsA G RX0 cc nL ret R (pc + 3) lv st h' Q) : V idsA G RX0 cc nL ret R pc lv (a2 :: a1 :: a0 :: .ref (ad G 5) :: st) h Q :=
  V_callV (rest := st) (av := [a0, a1, a2]) hM ml_X0_84 imX0_reachFrom seX0_reachFrom in_X0 coX0_reachFrom okX0_reachFrom hR (by decide) rfl rfl rfl hw hd (fun v h' hq => by obtain ⟨rfl, hp⟩ := hq; exact k h' hp)
theorem kX1_28 {d : Nat} {G : GE} {cc : ByteArray} {nL : Nat} {ret : Option FieldType} {pc : Nat} {lv : List OV} {st : List Value} {h : Mem} {Q : Option Value → Mem → Prop} {x : Int32} (h0 : 0 < d) (hw : (st.map fun v => v.category).sum ≤ 8) (hd : decode cc pc = .ok (.invokestatic 28, 3)) (kk : V idsA G RX1 cc nL ret (rmD d) (pc + 3) lv (.int (if 0 ≤ x then x else 0 - x) :: st) h Q) : V idsA G RX1 cc nL ret (rmD d) pc lv (.int x :: st) h Q :=
  V_mabs ml_X1_28 sm_abs in_J9 co_abs h0 (by show _ + 13 ≤ 40 * d; omega) hd kk
theorem okX2_putRules : mOK yX2_putRules 2 := by unfold mOK; exact ⟨by decide +kernel, by decide +kernel, by decide +kernel⟩
theorem kX2_29 {G : GE} {cc : ByteArray} {nL : Nat} {ret : Option FieldType} {R : Room} {pc : Nat} {lv : List OV} {st : List Value} {h : Mem} {Q : Option Value → Mem → Prop} {R2 : Room} {P : Mem → Prop} {a0 a1 : Value} (hM : Ct idsA G yX2_putRules cX2_putRules 4 none R2 [.ref (ad G 4), a0, a1] h (Qv P)) (hR : rOK R R2 4) (hw : (st.map fun v => v.category).sum ≤ 8) (hd : decode cc pc = .ok (.invokevirtual 29, 3)) (k : ∀ h', P h' → V idsA G RX2 cc nL ret R (pc + 3) lv st h' Q) : V idsA G RX2 cc nL ret R pc lv (a1 :: a0 :: .ref (ad G 4) :: st) h Q :=
  V_callV (rest := st) (av := [a0, a1]) hM ml_X2_29 imX2_putRules seX2_putRules in_X2 coX2_putRules okX2_putRules hR (by decide) rfl rfl rfl hw hd (fun v h' hq => by obtain ⟨rfl, hp⟩ := hq; exact k h' hp)
theorem kX2_40 {d : Nat} {G : GE} {cc : ByteArray} {nL : Nat} {ret : Option FieldType} {pc : Nat} {lv : List OV} {st : List Value} {h : Mem} {Q : Option Value → Mem → Prop} {x y : Int32} (h0 : 0 < d) (hw : (st.map fun v => v.category).sum ≤ 8) (hd : decode cc pc = .ok (.invokestatic 40, 3)) (kk : V idsA G RX2 cc nL ret (rmD d) (pc + 3) lv (.int (if x < y then y else x) :: st) h Q) : V idsA G RX2 cc nL ret (rmD d) pc lv (.int y :: .int x :: st) h Q :=
  V_mmax ml_X2_40 sm_max in_J9 co_max h0 (by show _ + 13 ≤ 40 * d; omega) hd kk
theorem kX2_46 {G : GE} {cc : ByteArray} {nL : Nat} {ret : Option FieldType} {R : Room} {pc : Nat} {lv : List OV} {st : List Value} {h : Mem} {Q : Option Value → Mem → Prop} {R2 : Room} {P : Int32 → Mem → Prop} {a0 a1 : Value} (hM : Ct idsA G yX5_beside cX5_beside 2 (some .int) R2 [a0, a1] h (Qi P)) (hR : rOK R R2 2) (hw : (st.map fun v => v.category).sum ≤ 8) (hd : decode cc pc = .ok (.invokestatic 46, 3)) (k : ∀ r h', P r h' → V idsA G RX2 cc nL ret R (pc + 3) lv (.int r :: st) h' Q) : V idsA G RX2 cc nL ret R pc lv (a1 :: a0 :: st) h Q :=
  V_callSN (rest := st) (av := [a0, a1]) hM mn_X2_46 smX5_beside in_X5 coX5_beside okX5_beside hR rfl hw hd (fun v h' hq => by obtain ⟨r, rfl, hp⟩ := hq; exact k r h' hp)
theorem kX2_49 {G : GE} {cc : ByteArray} {nL : Nat} {ret : Option FieldType} {R : Room} {pc : Nat} {lv : List OV} {st : List Value} {h : Mem} {Q : Option Value → Mem → Prop} {R2 : Room} {P : Int32 → Mem → Prop} {a0 a1 a2 : Value} (hM : Ct idsA G yX5_sideBetween cX5_sideBetween 3 (some .int) R2 [a0, a1, a2] h (Qi P)) (hR : rOK R R2 3) (hw : (st.map fun v => v.category).sum ≤ 8) (hd : decode cc pc = .ok (.invokestatic 49, 3)) (k : ∀ r h', P r h' → V idsA G RX2 cc nL ret R (pc + 3) lv (.int r :: st) h' Q) : V idsA G RX2 cc nL ret R pc lv (a2 :: a1 :: a0 :: st) h Q :=
  V_callSN (rest := st) (av := [a0, a1, a2]) hM mn_X2_49 smX5_sideBetween in_X5 coX5_sideBetween okX5_sideBetween hR rfl hw hd (fun v h' hq => by obtain ⟨r, rfl, hp⟩ := hq; exact k r h' hp)
theorem okX2_linesFrom : mOK yX2_linesFrom 2 := by unfold mOK; exact ⟨by decide +kernel, by decide +kernel, by decide +kernel⟩
theorem kX2_53 {G : GE} {cc : ByteArray} {nL : Nat} {ret : Option FieldType} {R : Room} {pc : Nat} {lv : List OV} {st : List Value} {h : Mem} {Q : Option Value → Mem → Prop} {R2 : Room} {P : Int32 → Mem → Prop} {a0 a1 : Value} (hM : Ct idsA G yX2_linesFrom cX2_linesFrom 4 (some .int) R2 [.ref (ad G 4), a0, a1] h (Qi P)) (hR : rOK R R2 4) (hw : (st.map fun v => v.category).sum ≤ 8) (hd : decode cc pc = .ok (.invokevirtual 53, 3)) (k : ∀ r h', P r h' → V idsA G RX2 cc nL ret R (pc + 3) lv (.int r :: st) h' Q) : V idsA G RX2 cc nL ret R pc lv (a1 :: a0 :: .ref (ad G 4) :: st) h Q :=
  V_callV (rest := st) (av := [a0, a1]) hM ml_X2_53 imX2_linesFrom seX2_linesFrom in_X2 coX2_linesFrom okX2_linesFrom hR (by decide) rfl rfl rfl hw hd (fun v h' hq => by obtain ⟨r, rfl, hp⟩ := hq; exact k r h' hp)
theorem kX2_56 {G : GE} {cc : ByteArray} {nL : Nat} {ret : Option FieldType} {R : Room} {pc : Nat} {lv : List OV} {st : List Value} {h : Mem} {Q : Option Value → Mem → Prop} {R2 : Room} {P : Int32 → Mem → Prop} {a0 : Value} (hM : Ct idsA G yJ6_bitCount_0f7a4 cJ6_bitCount_0f7a4 1 (some .int) R2 [a0] h (Qi P)) (hR : rOK R R2 1) (hw : (st.map fun v => v.category).sum ≤ 8) (hd : decode cc pc = .ok (.invokestatic 56, 3)) (k : ∀ r h', P r h' → V idsA G RX2 cc nL ret R (pc + 3) lv (.int r :: st) h' Q) : V idsA G RX2 cc nL ret R pc lv (a0 :: st) h Q :=
  V_callS (rest := st) (av := [a0]) hM ml_X2_56 smJ6_bitCount_0f7a4 in_J6 coJ6_bitCount_0f7a4 okJ6_bitCount_0f7a4 hR rfl hw hd (fun v h' hq => by obtain ⟨r, rfl, hp⟩ := hq; exact k r h' hp)
theorem okX5_isDirection : mOK yX5_isDirection 1 := by unfold mOK; exact ⟨by decide +kernel, by decide +kernel, by decide +kernel⟩
theorem kX2_67 {G : GE} {cc : ByteArray} {nL : Nat} {ret : Option FieldType} {R : Room} {pc : Nat} {lv : List OV} {st : List Value} {h : Mem} {Q : Option Value → Mem → Prop} {R2 : Room} {P : Int32 → Mem → Prop} {a0 : Value} (hM : Ct idsA G yX5_isDirection cX5_isDirection 1 (some .boolean) R2 [a0] h (Qi P)) (hR : rOK R R2 1) (hw : (st.map fun v => v.category).sum ≤ 8) (hd : decode cc pc = .ok (.invokestatic 67, 3)) (k : ∀ r h', P r h' → V idsA G RX2 cc nL ret R (pc + 3) lv (.int r :: st) h' Q) : V idsA G RX2 cc nL ret R pc lv (a0 :: st) h Q :=
  V_callSN (rest := st) (av := [a0]) hM mn_X2_67 smX5_isDirection in_X5 coX5_isDirection okX5_isDirection hR rfl hw hd (fun v h' hq => by obtain ⟨r, rfl, hp⟩ := hq; exact k r h' hp)
theorem okX2_lift : mOK yX2_lift 1 := by unfold mOK; exact ⟨by decide +kernel, by decide +kernel, by decide +kernel⟩
theorem kX2_74 {G : GE} {cc : ByteArray} {nL : Nat} {ret : Option FieldType} {R : Room} {pc : Nat} {lv : List OV} {st : List Value} {h : Mem} {Q : Option Value → Mem → Prop} {R2 : Room} {P : Mem → Prop} {a0 : Value} (hM : Ct idsA G yX2_lift cX2_lift 2 none R2 [.ref (ad G 4), a0] h (Qv P)) (hR : rOK R R2 2) (hw : (st.map fun v => v.category).sum ≤ 8) (hd : decode cc pc = .ok (.invokevirtual 74, 3)) (k : ∀ h', P h' → V idsA G RX2 cc nL ret R (pc + 3) lv st h' Q) : V idsA G RX2 cc nL ret R pc lv (a0 :: .ref (ad G 4) :: st) h Q :=
  V_callV (rest := st) (av := [a0]) hM ml_X2_74 imX2_lift seX2_lift in_X2 coX2_lift okX2_lift hR (by decide) rfl rfl rfl hw hd (fun v h' hq => by obtain ⟨rfl, hp⟩ := hq; exact k h' hp)
theorem okX2_flipAlong : mOK yX2_flipAlong 1 := by unfold mOK; exact ⟨by decide +kernel, by decide +kernel, by decide +kernel⟩
theorem kX2_90 {G : GE} {cc : ByteArray} {nL : Nat} {ret : Option FieldType} {R : Room} {pc : Nat} {lv : List OV} {st : List Value} {h : Mem} {Q : Option Value → Mem → Prop} {R2 : Room} {P : Mem → Prop} {a0 : Value} (hM : Ct idsA G yX2_flipAlong cX2_flipAlong 5 none R2 [.ref (ad G 4), a0] h (Qv P)) (hR : rOK R R2 5) (hw : (st.map fun v => v.category).sum ≤ 8) (hd : decode cc pc = .ok (.invokevirtual 90, 3)) (k : ∀ h', P h' → V idsA G RX2 cc nL ret R (pc + 3) lv st h' Q) : V idsA G RX2 cc nL ret R pc lv (a0 :: .ref (ad G 4) :: st) h Q :=
  V_callV (rest := st) (av := [a0]) hM ml_X2_90 imX2_flipAlong seX2_flipAlong in_X2 coX2_flipAlong okX2_flipAlong hR (by decide) rfl rfl rfl hw hd (fun v h' hq => by obtain ⟨rfl, hp⟩ := hq; exact k h' hp)
theorem okX1_hasWay : mOK yX1_hasWay 0 := by unfold mOK; exact ⟨by decide +kernel, by decide +kernel, by decide +kernel⟩
theorem kX2_96 {G : GE} {cc : ByteArray} {nL : Nat} {ret : Option FieldType} {R : Room} {pc : Nat} {lv : List OV} {st : List Value} {h : Mem} {Q : Option Value → Mem → Prop} {R2 : Room} {P : Int32 → Mem → Prop} {i : Nat} (hi : i < 12) (hM : Ct idsA G yX1_hasWay cX1_hasWay 1 (some .boolean) R2 [.ref (ad G (40 + i))] h (Qi P)) (hR : rOK R R2 1) (hw : (st.map fun v => v.category).sum ≤ 8) (hd : decode cc pc = .ok (.invokevirtual 96, 3)) (k : ∀ r h', P r h' → V idsA G RX2 cc nL ret R (pc + 3) lv (.int r :: st) h' Q) : V idsA G RX2 cc nL ret R pc lv (.ref (ad G (40 + i)) :: st) h Q :=
  V_callV (rest := st) (av := []) hM ml_X2_96 imX1_hasWay seX1_hasWay in_X1 coX1_hasWay okX1_hasWay hR (mem_line hi) (cell_line hi _) rfl rfl hw hd (fun v h' hq => by obtain ⟨r, rfl, hp⟩ := hq; exact k r h' hp)
theorem okX2_sidesWithOthers : mOK yX2_sidesWithOthers 1 := by unfold mOK; exact ⟨by decide +kernel, by decide +kernel, by decide +kernel⟩
theorem kX2_100 {G : GE} {cc : ByteArray} {nL : Nat} {ret : Option FieldType} {R : Room} {pc : Nat} {lv : List OV} {st : List Value} {h : Mem} {Q : Option Value → Mem → Prop} {R2 : Room} {P : Int32 → Mem → Prop} {a0 : Value} (hM : Ct idsA G yX2_sidesWithOthers cX2_sidesWithOthers 4 (some .int) R2 [.ref (ad G 4), a0] h (Qi P)) (hR : rOK R R2 4) (hw : (st.map fun v => v.category).sum ≤ 8) (hd : decode cc pc = .ok (.invokevirtual 100, 3)) (k : ∀ r h', P r h' → V idsA G RX2 cc nL ret R (pc + 3) lv (.int r :: st) h' Q) : V idsA G RX2 cc nL ret R pc lv (a0 :: .ref (ad G 4) :: st) h Q :=
  V_callV (rest := st) (av := [a0]) hM ml_X2_100 imX2_sidesWithOthers seX2_sidesWithOthers in_X2 coX2_sidesWithOthers okX2_sidesWithOthers hR (by decide) rfl rfl rfl hw hd (fun v h' hq => by obtain ⟨r, rfl, hp⟩ := hq; exact k r h' hp)
theorem okX2_isFork : mOK yX2_isFork 1 := by unfold mOK; exact ⟨by decide +kernel, by decide +kernel, by decide +kernel⟩
theorem kX2_104 {G : GE} {cc : ByteArray} {nL : Nat} {ret : Option FieldType} {R : Room} {pc : Nat} {lv : List OV} {st : List Value} {h : Mem} {Q : Option Value → Mem → Prop} {R2 : Room} {P : Int32 → Mem → Prop} {a0 : Value} (hM : Ct idsA G yX2_isFork cX2_isFork 6 (some .boolean) R2 [.ref (ad G 4), a0] h (Qi P)) (hR : rOK R R2 6) (hw : (st.map fun v => v.category).sum ≤ 8) (hd : decode cc pc = .ok (.invokevirtual 104, 3)) (k : ∀ r h', P r h' → V idsA G RX2 cc nL ret R (pc + 3) lv (.int r :: st) h' Q) : V idsA G RX2 cc nL ret R pc lv (a0 :: .ref (ad G 4) :: st) h Q :=
  V_callV (rest := st) (av := [a0]) hM ml_X2_104 imX2_isFork seX2_isFork in_X2 coX2_isFork okX2_isFork hR (by decide) rfl rfl rfl hw hd (fun v h' hq => by obtain ⟨r, rfl, hp⟩ := hq; exact k r h' hp)
theorem okX4_gatherClashes : mOK yX4_gatherClashes 1 := by unfold mOK; exact ⟨by decide +kernel, by decide +kernel, by decide +kernel⟩
theorem kX4_21 {G : GE} {cc : ByteArray} {nL : Nat} {ret : Option FieldType} {R : Room} {pc : Nat} {lv : List OV} {st : List Value} {h : Mem} {Q : Option Value → Mem → Prop} {R2 : Room} {P : Mem → Prop} {a0 : Value} (hM : Ct idsA G yX4_gatherClashes cX4_gatherClashes 4 none R2 [.ref (ad G 6), a0] h (Qv P)) (hR : rOK R R2 4) (hw : (st.map fun v => v.category).sum ≤ 8) (hd : decode cc pc = .ok (.invokevirtual 21, 3)) (k : ∀ h', P h' → V idsA G RX4 cc nL ret R (pc + 3) lv st h' Q) : V idsA G RX4 cc nL ret R pc lv (a0 :: .ref (ad G 6) :: st) h Q :=
  V_callV (rest := st) (av := [a0]) hM ml_X4_21 imX4_gatherClashes seX4_gatherClashes in_X4 coX4_gatherClashes okX4_gatherClashes hR (by decide) rfl rfl rfl hw hd (fun v h' hq => by obtain ⟨rfl, hp⟩ := hq; exact k h' hp)
theorem okX2_greatestWidth : mOK yX2_greatestWidth 0 := by unfold mOK; exact ⟨by decide +kernel, by decide +kernel, by decide +kernel⟩
theorem kX4_26 {G : GE} {cc : ByteArray} {nL : Nat} {ret : Option FieldType} {R : Room} {pc : Nat} {lv : List OV} {st : List Value} {h : Mem} {Q : Option Value → Mem → Prop} {R2 : Room} {P : Int32 → Mem → Prop} (hM : Ct idsA G yX2_greatestWidth cX2_greatestWidth 3 (some .int) R2 [.ref (ad G 4)] h (Qi P)) (hR : rOK R R2 3) (hw : (st.map fun v => v.category).sum ≤ 8) (hd : decode cc pc = .ok (.invokevirtual 26, 3)) (k : ∀ r h', P r h' → V idsA G RX4 cc nL ret R (pc + 3) lv (.int r :: st) h' Q) : V idsA G RX4 cc nL ret R pc lv (.ref (ad G 4) :: st) h Q :=
  V_callV (rest := st) (av := []) hM ml_X4_26 imX2_greatestWidth seX2_greatestWidth in_X2 coX2_greatestWidth okX2_greatestWidth hR (by decide) rfl rfl rfl hw hd (fun v h' hq => by obtain ⟨r, rfl, hp⟩ := hq; exact k r h' hp)
theorem okX4_tintFrom : mOK yX4_tintFrom 4 := by unfold mOK; exact ⟨by decide +kernel, by decide +kernel, by decide +kernel⟩
theorem kX4_36 {G : GE} {cc : ByteArray} {nL : Nat} {ret : Option FieldType} {R : Room} {pc : Nat} {lv : List OV} {st : List Value} {h : Mem} {Q : Option Value → Mem → Prop} {R2 : Room} {P : Int32 → Mem → Prop} {a0 a1 a2 a3 : Value} (hM : Ct idsA G yX4_tintFrom cX4_tintFrom 5 (some .boolean) R2 [a0, a1, a2, a3] h (Qi P)) (hR : rOK R R2 5) (hw : (st.map fun v => v.category).sum ≤ 8) (hd : decode cc pc = .ok (.invokestatic 36, 3)) (k : ∀ r h', P r h' → V idsA G RX4 cc nL ret R (pc + 3) lv (.int r :: st) h' Q) : V idsA G RX4 cc nL ret R pc lv (a3 :: a2 :: a1 :: a0 :: st) h Q :=
  V_callS (rest := st) (av := [a0, a1, a2, a3]) hM ml_X4_36 smX4_tintFrom in_X4 coX4_tintFrom okX4_tintFrom hR rfl hw hd (fun v h' hq => by obtain ⟨r, rfl, hp⟩ := hq; exact k r h' hp)
theorem kX4_43 {d : Nat} {G : GE} {cc : ByteArray} {nL : Nat} {ret : Option FieldType} {pc : Nat} {lv : List OV} {st : List Value} {h : Mem} {Q : Option Value → Mem → Prop} {x y : Int32} (h0 : 0 < d) (hw : (st.map fun v => v.category).sum ≤ 8) (hd : decode cc pc = .ok (.invokestatic 43, 3)) (kk : V idsA G RX4 cc nL ret (rmD d) (pc + 3) lv (.int (if x < y then y else x) :: st) h Q) : V idsA G RX4 cc nL ret (rmD d) pc lv (.int y :: .int x :: st) h Q :=
  V_mmax ml_X4_43 sm_max in_J9 co_max h0 (by show _ + 13 ≤ 40 * d; omega) hd kk
theorem okX5_isSheet : mOK yX5_isSheet 1 := by unfold mOK; exact ⟨by decide +kernel, by decide +kernel, by decide +kernel⟩
theorem kX5_53 {G : GE} {cc : ByteArray} {nL : Nat} {ret : Option FieldType} {R : Room} {pc : Nat} {lv : List OV} {st : List Value} {h : Mem} {Q : Option Value → Mem → Prop} {R2 : Room} {P : Int32 → Mem → Prop} {a0 : Value} (hM : Ct idsA G yX5_isSheet cX5_isSheet 1 (some .boolean) R2 [a0] h (Qi P)) (hR : rOK R R2 1) (hw : (st.map fun v => v.category).sum ≤ 8) (hd : decode cc pc = .ok (.invokestatic 53, 3)) (k : ∀ r h', P r h' → V idsA G RX5 cc nL ret R (pc + 3) lv (.int r :: st) h' Q) : V idsA G RX5 cc nL ret R pc lv (a0 :: st) h Q :=
  V_callS (rest := st) (av := [a0]) hM ml_X5_53 smX5_isSheet in_X5 coX5_isSheet okX5_isSheet hR rfl hw hd (fun v h' hq => by obtain ⟨r, rfl, hp⟩ := hq; exact k r h' hp)
theorem okX5_found : mOK yX5_found 1 := by unfold mOK; exact ⟨by decide +kernel, by decide +kernel, by decide +kernel⟩
theorem kX5_58 {G : GE} {cc : ByteArray} {nL : Nat} {ret : Option FieldType} {R : Room} {pc : Nat} {lv : List OV} {st : List Value} {h : Mem} {Q : Option Value → Mem → Prop} {R2 : Room} {P : Int32 → Mem → Prop} {a0 : Value} (hM : Ct idsA G yX5_found cX5_found 2 (some .int) R2 [.ref (ad G 0), a0] h (Qi P)) (hR : rOK R R2 2) (hw : (st.map fun v => v.category).sum ≤ 8) (hd : decode cc pc = .ok (.invokevirtual 58, 3)) (k : ∀ r h', P r h' → V idsA G RX5 cc nL ret R (pc + 3) lv (.int r :: st) h' Q) : V idsA G RX5 cc nL ret R pc lv (a0 :: .ref (ad G 0) :: st) h Q :=
  V_callV (rest := st) (av := [a0]) hM ml_X5_58 imX5_found seX5_found in_X5 coX5_found okX5_found hR (by decide) rfl rfl rfl hw hd (fun v h' hq => by obtain ⟨r, rfl, hp⟩ := hq; exact k r h' hp)
theorem okX3_begin : mOK yX3_begin 2 := by unfold mOK; exact ⟨by decide +kernel, by decide +kernel, by decide +kernel⟩
theorem kX5_62 {G : GE} {cc : ByteArray} {nL : Nat} {ret : Option FieldType} {R : Room} {pc : Nat} {lv : List OV} {st : List Value} {h : Mem} {Q : Option Value → Mem → Prop} {R2 : Room} {P : Mem → Prop} {a0 a1 : Value} {i : Nat} (hi : i < 8) (hM : Ct idsA G yX3_begin cX3_begin 4 none R2 [.ref (ad G (20 + i)), a0, a1] h (Qv P)) (hR : rOK R R2 4) (hw : (st.map fun v => v.category).sum ≤ 8) (hd : decode cc pc = .ok (.invokevirtual 62, 3)) (k : ∀ h', P h' → V idsA G RX5 cc nL ret R (pc + 3) lv st h' Q) : V idsA G RX5 cc nL ret R pc lv (a1 :: a0 :: .ref (ad G (20 + i)) :: st) h Q :=
  V_callV (rest := st) (av := [a0, a1]) hM ml_X5_62 imX3_begin seX3_begin in_X3 coX3_begin okX3_begin hR (mem_sheet hi) (cell_sheet hi _) rfl rfl hw hd (fun v h' hq => by obtain ⟨rfl, hp⟩ := hq; exact k h' hp)
theorem okX5_unfound : mOK yX5_unfound 1 := by unfold mOK; exact ⟨by decide +kernel, by decide +kernel, by decide +kernel⟩
theorem kX5_66 {G : GE} {cc : ByteArray} {nL : Nat} {ret : Option FieldType} {R : Room} {pc : Nat} {lv : List OV} {st : List Value} {h : Mem} {Q : Option Value → Mem → Prop} {R2 : Room} {P : Int32 → Mem → Prop} {a0 : Value} (hM : Ct idsA G yX5_unfound cX5_unfound 2 (some .int) R2 [.ref (ad G 0), a0] h (Qi P)) (hR : rOK R R2 2) (hw : (st.map fun v => v.category).sum ≤ 8) (hd : decode cc pc = .ok (.invokevirtual 66, 3)) (k : ∀ r h', P r h' → V idsA G RX5 cc nL ret R (pc + 3) lv (.int r :: st) h' Q) : V idsA G RX5 cc nL ret R pc lv (a0 :: .ref (ad G 0) :: st) h Q :=
  V_callV (rest := st) (av := [a0]) hM ml_X5_66 imX5_unfound seX5_unfound in_X5 coX5_unfound okX5_unfound hR (by decide) rfl rfl rfl hw hd (fun v h' hq => by obtain ⟨r, rfl, hp⟩ := hq; exact k r h' hp)
theorem okX3_isMissing : mOK yX3_isMissing 0 := by unfold mOK; exact ⟨by decide +kernel, by decide +kernel, by decide +kernel⟩
theorem kX5_69 {G : GE} {cc : ByteArray} {nL : Nat} {ret : Option FieldType} {R : Room} {pc : Nat} {lv : List OV} {st : List Value} {h : Mem} {Q : Option Value → Mem → Prop} {R2 : Room} {P : Int32 → Mem → Prop} {i : Nat} (hi : i < 8) (hM : Ct idsA G yX3_isMissing cX3_isMissing 1 (some .boolean) R2 [.ref (ad G (20 + i))] h (Qi P)) (hR : rOK R R2 1) (hw : (st.map fun v => v.category).sum ≤ 8) (hd : decode cc pc = .ok (.invokevirtual 69, 3)) (k : ∀ r h', P r h' → V idsA G RX5 cc nL ret R (pc + 3) lv (.int r :: st) h' Q) : V idsA G RX5 cc nL ret R pc lv (.ref (ad G (20 + i)) :: st) h Q :=
  V_callV (rest := st) (av := []) hM ml_X5_69 imX3_isMissing seX3_isMissing in_X3 coX3_isMissing okX3_isMissing hR (mem_sheet hi) (cell_sheet hi _) rfl rfl hw hd (fun v h' hq => by obtain ⟨r, rfl, hp⟩ := hq; exact k r h' hp)
theorem okX3_holds : mOK yX3_holds 2 := by unfold mOK; exact ⟨by decide +kernel, by decide +kernel, by decide +kernel⟩
theorem kX5_73 {G : GE} {cc : ByteArray} {nL : Nat} {ret : Option FieldType} {R : Room} {pc : Nat} {lv : List OV} {st : List Value} {h : Mem} {Q : Option Value → Mem → Prop} {R2 : Room} {P : Int32 → Mem → Prop} {a0 a1 : Value} {i : Nat} (hi : i < 8) (hM : Ct idsA G yX3_holds cX3_holds 3 (some .boolean) R2 [.ref (ad G (20 + i)), a0, a1] h (Qi P)) (hR : rOK R R2 3) (hw : (st.map fun v => v.category).sum ≤ 8) (hd : decode cc pc = .ok (.invokevirtual 73, 3)) (k : ∀ r h', P r h' → V idsA G RX5 cc nL ret R (pc + 3) lv (.int r :: st) h' Q) : V idsA G RX5 cc nL ret R pc lv (a1 :: a0 :: .ref (ad G (20 + i)) :: st) h Q :=
  V_callV (rest := st) (av := [a0, a1]) hM ml_X5_73 imX3_holds seX3_holds in_X3 coX3_holds okX3_holds hR (mem_sheet hi) (cell_sheet hi _) rfl rfl hw hd (fun v h' hq => by obtain ⟨r, rfl, hp⟩ := hq; exact k r h' hp)
theorem okX3_put : mOK yX3_put 2 := by unfold mOK; exact ⟨by decide +kernel, by decide +kernel, by decide +kernel⟩
theorem kX5_77 {G : GE} {cc : ByteArray} {nL : Nat} {ret : Option FieldType} {R : Room} {pc : Nat} {lv : List OV} {st : List Value} {h : Mem} {Q : Option Value → Mem → Prop} {R2 : Room} {P : Int32 → Mem → Prop} {a0 a1 : Value} {i : Nat} (hi : i < 8) (hM : Ct idsA G yX3_put cX3_put 3 (some .int) R2 [.ref (ad G (20 + i)), a0, a1] h (Qi P)) (hR : rOK R R2 3) (hw : (st.map fun v => v.category).sum ≤ 8) (hd : decode cc pc = .ok (.invokevirtual 77, 3)) (k : ∀ r h', P r h' → V idsA G RX5 cc nL ret R (pc + 3) lv (.int r :: st) h' Q) : V idsA G RX5 cc nL ret R pc lv (a1 :: a0 :: .ref (ad G (20 + i)) :: st) h Q :=
  V_callV (rest := st) (av := [a0, a1]) hM ml_X5_77 imX3_put seX3_put in_X3 coX3_put okX3_put hR (mem_sheet hi) (cell_sheet hi _) rfl rfl hw hd (fun v h' hq => by obtain ⟨r, rfl, hp⟩ := hq; exact k r h' hp)
theorem okX3_end : mOK yX3_end 0 := by unfold mOK; exact ⟨by decide +kernel, by decide +kernel, by decide +kernel⟩
theorem kX5_97 {G : GE} {cc : ByteArray} {nL : Nat} {ret : Option FieldType} {R : Room} {pc : Nat} {lv : List OV} {st : List Value} {h : Mem} {Q : Option Value → Mem → Prop} {R2 : Room} {P : Mem → Prop} {i : Nat} (hi : i < 8) (hM : Ct idsA G yX3_end cX3_end 1 none R2 [.ref (ad G (20 + i))] h (Qv P)) (hR : rOK R R2 1) (hw : (st.map fun v => v.category).sum ≤ 8) (hd : decode cc pc = .ok (.invokevirtual 97, 3)) (k : ∀ h', P h' → V idsA G RX5 cc nL ret R (pc + 3) lv st h' Q) : V idsA G RX5 cc nL ret R pc lv (.ref (ad G (20 + i)) :: st) h Q :=
  V_callV (rest := st) (av := []) hM ml_X5_97 imX3_end seX3_end in_X3 coX3_end okX3_end hR (mem_sheet hi) (cell_sheet hi _) rfl rfl hw hd (fun v h' hq => by obtain ⟨rfl, hp⟩ := hq; exact k h' hp)
theorem okX5_isPlace : mOK yX5_isPlace 2 := by unfold mOK; exact ⟨by decide +kernel, by decide +kernel, by decide +kernel⟩
theorem kX5_100 {G : GE} {cc : ByteArray} {nL : Nat} {ret : Option FieldType} {R : Room} {pc : Nat} {lv : List OV} {st : List Value} {h : Mem} {Q : Option Value → Mem → Prop} {R2 : Room} {P : Int32 → Mem → Prop} {a0 a1 : Value} (hM : Ct idsA G yX5_isPlace cX5_isPlace 2 (some .boolean) R2 [a0, a1] h (Qi P)) (hR : rOK R R2 2) (hw : (st.map fun v => v.category).sum ≤ 8) (hd : decode cc pc = .ok (.invokestatic 100, 3)) (k : ∀ r h', P r h' → V idsA G RX5 cc nL ret R (pc + 3) lv (.int r :: st) h' Q) : V idsA G RX5 cc nL ret R pc lv (a1 :: a0 :: st) h Q :=
  V_callS (rest := st) (av := [a0, a1]) hM ml_X5_100 smX5_isPlace in_X5 coX5_isPlace okX5_isPlace hR rfl hw hd (fun v h' hq => by obtain ⟨r, rfl, hp⟩ := hq; exact k r h' hp)
theorem okX5_placeAt : mOK yX5_placeAt 2 := by unfold mOK; exact ⟨by decide +kernel, by decide +kernel, by decide +kernel⟩
theorem kX5_103 {G : GE} {cc : ByteArray} {nL : Nat} {ret : Option FieldType} {R : Room} {pc : Nat} {lv : List OV} {st : List Value} {h : Mem} {Q : Option Value → Mem → Prop} {R2 : Room} {P : Int32 → Mem → Prop} {a0 a1 : Value} (hM : Ct idsA G yX5_placeAt cX5_placeAt 2 (some .int) R2 [a0, a1] h (Qi P)) (hR : rOK R R2 2) (hw : (st.map fun v => v.category).sum ≤ 8) (hd : decode cc pc = .ok (.invokestatic 103, 3)) (k : ∀ r h', P r h' → V idsA G RX5 cc nL ret R (pc + 3) lv (.int r :: st) h' Q) : V idsA G RX5 cc nL ret R pc lv (a1 :: a0 :: st) h Q :=
  V_callS (rest := st) (av := [a0, a1]) hM ml_X5_103 smX5_placeAt in_X5 coX5_placeAt okX5_placeAt hR rfl hw hd (fun v h' hq => by obtain ⟨r, rfl, hp⟩ := hq; exact k r h' hp)
theorem okX2_isGoneThrough : mOK yX2_isGoneThrough 1 := by unfold mOK; exact ⟨by decide +kernel, by decide +kernel, by decide +kernel⟩
theorem kX5_119 {G : GE} {cc : ByteArray} {nL : Nat} {ret : Option FieldType} {R : Room} {pc : Nat} {lv : List OV} {st : List Value} {h : Mem} {Q : Option Value → Mem → Prop} {R2 : Room} {P : Int32 → Mem → Prop} {a0 : Value} (hM : Ct idsA G yX2_isGoneThrough cX2_isGoneThrough 4 (some .boolean) R2 [.ref (ad G 4), a0] h (Qi P)) (hR : rOK R R2 4) (hw : (st.map fun v => v.category).sum ≤ 8) (hd : decode cc pc = .ok (.invokevirtual 119, 3)) (k : ∀ r h', P r h' → V idsA G RX5 cc nL ret R (pc + 3) lv (.int r :: st) h' Q) : V idsA G RX5 cc nL ret R pc lv (a0 :: .ref (ad G 4) :: st) h Q :=
  V_callV (rest := st) (av := [a0]) hM ml_X5_119 imX2_isGoneThrough seX2_isGoneThrough in_X2 coX2_isGoneThrough okX2_isGoneThrough hR (by decide) rfl rfl rfl hw hd (fun v h' hq => by obtain ⟨r, rfl, hp⟩ := hq; exact k r h' hp)
theorem okX5_turn : mOK yX5_turn 2 := by unfold mOK; exact ⟨by decide +kernel, by decide +kernel, by decide +kernel⟩
theorem kX5_122 {G : GE} {cc : ByteArray} {nL : Nat} {ret : Option FieldType} {R : Room} {pc : Nat} {lv : List OV} {st : List Value} {h : Mem} {Q : Option Value → Mem → Prop} {R2 : Room} {P : Int32 → Mem → Prop} {a0 a1 : Value} (hM : Ct idsA G yX5_turn cX5_turn 3 (some .int) R2 [.ref (ad G 0), a0, a1] h (Qi P)) (hR : rOK R R2 3) (hw : (st.map fun v => v.category).sum ≤ 8) (hd : decode cc pc = .ok (.invokevirtual 122, 3)) (k : ∀ r h', P r h' → V idsA G RX5 cc nL ret R (pc + 3) lv (.int r :: st) h' Q) : V idsA G RX5 cc nL ret R pc lv (a1 :: a0 :: .ref (ad G 0) :: st) h Q :=
  V_callV (rest := st) (av := [a0, a1]) hM ml_X5_122 imX5_turn seX5_turn in_X5 coX5_turn okX5_turn hR (by decide) rfl rfl rfl hw hd (fun v h' hq => by obtain ⟨r, rfl, hp⟩ := hq; exact k r h' hp)
theorem okX5_isPoint : mOK yX5_isPoint 1 := by unfold mOK; exact ⟨by decide +kernel, by decide +kernel, by decide +kernel⟩
theorem kX5_126 {G : GE} {cc : ByteArray} {nL : Nat} {ret : Option FieldType} {R : Room} {pc : Nat} {lv : List OV} {st : List Value} {h : Mem} {Q : Option Value → Mem → Prop} {R2 : Room} {P : Int32 → Mem → Prop} {a0 : Value} (hM : Ct idsA G yX5_isPoint cX5_isPoint 2 (some .boolean) R2 [.ref (ad G 0), a0] h (Qi P)) (hR : rOK R R2 2) (hw : (st.map fun v => v.category).sum ≤ 8) (hd : decode cc pc = .ok (.invokevirtual 126, 3)) (k : ∀ r h', P r h' → V idsA G RX5 cc nL ret R (pc + 3) lv (.int r :: st) h' Q) : V idsA G RX5 cc nL ret R pc lv (a0 :: .ref (ad G 0) :: st) h Q :=
  V_callV (rest := st) (av := [a0]) hM ml_X5_126 imX5_isPoint seX5_isPoint in_X5 coX5_isPoint okX5_isPoint hR (by decide) rfl rfl rfl hw hd (fun v h' hq => by obtain ⟨r, rfl, hp⟩ := hq; exact k r h' hp)
theorem okX1_join : mOK yX1_join 2 := by unfold mOK; exact ⟨by decide +kernel, by decide +kernel, by decide +kernel⟩
theorem kX5_132 {G : GE} {cc : ByteArray} {nL : Nat} {ret : Option FieldType} {R : Room} {pc : Nat} {lv : List OV} {st : List Value} {h : Mem} {Q : Option Value → Mem → Prop} {R2 : Room} {P : Mem → Prop} {a0 a1 : Value} {i : Nat} (hi : i < 12) (hM : Ct idsA G yX1_join cX1_join 3 none R2 [.ref (ad G (40 + i)), a0, a1] h (Qv P)) (hR : rOK R R2 3) (hw : (st.map fun v => v.category).sum ≤ 8) (hd : decode cc pc = .ok (.invokevirtual 132, 3)) (k : ∀ h', P h' → V idsA G RX5 cc nL ret R (pc + 3) lv st h' Q) : V idsA G RX5 cc nL ret R pc lv (a1 :: a0 :: .ref (ad G (40 + i)) :: st) h Q :=
  V_callV (rest := st) (av := [a0, a1]) hM ml_X5_132 imX1_join seX1_join in_X1 coX1_join okX1_join hR (mem_line hi) (cell_line hi _) rfl rfl hw hd (fun v h' hq => by obtain ⟨rfl, hp⟩ := hq; exact k h' hp)
theorem kX5_141 {G : GE} {cc : ByteArray} {nL : Nat} {ret : Option FieldType} {R : Room} {pc : Nat} {lv : List OV} {st : List Value} {h : Mem} {Q : Option Value → Mem → Prop} {R2 : Room} {P : Mem → Prop} {a0 a1 : Value} (hM : Ct idsA G yX2_putRules cX2_putRules 4 none R2 [.ref (ad G 4), a0, a1] h (Qv P)) (hR : rOK R R2 4) (hw : (st.map fun v => v.category).sum ≤ 8) (hd : decode cc pc = .ok (.invokevirtual 141, 3)) (k : ∀ h', P h' → V idsA G RX5 cc nL ret R (pc + 3) lv st h' Q) : V idsA G RX5 cc nL ret R pc lv (a1 :: a0 :: .ref (ad G 4) :: st) h Q :=
  V_callV (rest := st) (av := [a0, a1]) hM ml_X5_141 imX2_putRules seX2_putRules in_X2 coX2_putRules okX2_putRules hR (by decide) rfl rfl rfl hw hd (fun v h' hq => by obtain ⟨rfl, hp⟩ := hq; exact k h' hp)
theorem okX5_isLine : mOK yX5_isLine 1 := by unfold mOK; exact ⟨by decide +kernel, by decide +kernel, by decide +kernel⟩
theorem kX5_144 {G : GE} {cc : ByteArray} {nL : Nat} {ret : Option FieldType} {R : Room} {pc : Nat} {lv : List OV} {st : List Value} {h : Mem} {Q : Option Value → Mem → Prop} {R2 : Room} {P : Int32 → Mem → Prop} {a0 : Value} (hM : Ct idsA G yX5_isLine cX5_isLine 2 (some .boolean) R2 [.ref (ad G 0), a0] h (Qi P)) (hR : rOK R R2 2) (hw : (st.map fun v => v.category).sum ≤ 8) (hd : decode cc pc = .ok (.invokevirtual 144, 3)) (k : ∀ r h', P r h' → V idsA G RX5 cc nL ret R (pc + 3) lv (.int r :: st) h' Q) : V idsA G RX5 cc nL ret R pc lv (a0 :: .ref (ad G 0) :: st) h Q :=
  V_callV (rest := st) (av := [a0]) hM ml_X5_144 imX5_isLine seX5_isLine in_X5 coX5_isLine okX5_isLine hR (by decide) rfl rfl rfl hw hd (fun v h' hq => by obtain ⟨r, rfl, hp⟩ := hq; exact k r h' hp)
theorem okX0_findWay : mOK yX0_findWay 2 := by unfold mOK; exact ⟨by decide +kernel, by decide +kernel, by decide +kernel⟩
theorem kX5_147 {G : GE} {cc : ByteArray} {nL : Nat} {ret : Option FieldType} {R : Room} {pc : Nat} {lv : List OV} {st : List Value} {h : Mem} {Q : Option Value → Mem → Prop} {R2 : Room} {P : Int32 → Mem → Prop} {a0 a1 : Value} (hM : Ct idsA G yX0_findWay cX0_findWay 6 (some .boolean) R2 [.ref (ad G 5), a0, a1] h (Qi P)) (hR : rOK R R2 6) (hw : (st.map fun v => v.category).sum ≤ 8) (hd : decode cc pc = .ok (.invokevirtual 147, 3)) (k : ∀ r h', P r h' → V idsA G RX5 cc nL ret R (pc + 3) lv (.int r :: st) h' Q) : V idsA G RX5 cc nL ret R pc lv (a1 :: a0 :: .ref (ad G 5) :: st) h Q :=
  V_callV (rest := st) (av := [a0, a1]) hM ml_X5_147 imX0_findWay seX0_findWay in_X0 coX0_findWay okX0_findWay hR (by decide) rfl rfl rfl hw hd (fun v h' hq => by obtain ⟨r, rfl, hp⟩ := hq; exact k r h' hp)
theorem kX5_151 {G : GE} {cc : ByteArray} {nL : Nat} {ret : Option FieldType} {R : Room} {pc : Nat} {lv : List OV} {st : List Value} {h : Mem} {Q : Option Value → Mem → Prop} {R2 : Room} {P : Mem → Prop} {a0 : Value} (hM : Ct idsA G yX2_lift cX2_lift 2 none R2 [.ref (ad G 4), a0] h (Qv P)) (hR : rOK R R2 2) (hw : (st.map fun v => v.category).sum ≤ 8) (hd : decode cc pc = .ok (.invokevirtual 151, 3)) (k : ∀ h', P h' → V idsA G RX5 cc nL ret R (pc + 3) lv st h' Q) : V idsA G RX5 cc nL ret R pc lv (a0 :: .ref (ad G 4) :: st) h Q :=
  V_callV (rest := st) (av := [a0]) hM ml_X5_151 imX2_lift seX2_lift in_X2 coX2_lift okX2_lift hR (by decide) rfl rfl rfl hw hd (fun v h' hq => by obtain ⟨rfl, hp⟩ := hq; exact k h' hp)
theorem okX2_giveWay : mOK yX2_giveWay 4 := by unfold mOK; exact ⟨by decide +kernel, by decide +kernel, by decide +kernel⟩
theorem kX5_161 {G : GE} {cc : ByteArray} {nL : Nat} {ret : Option FieldType} {R : Room} {pc : Nat} {lv : List OV} {st : List Value} {h : Mem} {Q : Option Value → Mem → Prop} {R2 : Room} {P : Mem → Prop} {a0 a1 a2 a3 : Value} (hM : Ct idsA G yX2_giveWay cX2_giveWay 5 none R2 [.ref (ad G 4), a0, a1, a2, a3] h (Qv P)) (hR : rOK R R2 5) (hw : (st.map fun v => v.category).sum ≤ 8) (hd : decode cc pc = .ok (.invokevirtual 161, 3)) (k : ∀ h', P h' → V idsA G RX5 cc nL ret R (pc + 3) lv st h' Q) : V idsA G RX5 cc nL ret R pc lv (a3 :: a2 :: a1 :: a0 :: .ref (ad G 4) :: st) h Q :=
  V_callV (rest := st) (av := [a0, a1, a2, a3]) hM ml_X5_161 imX2_giveWay seX2_giveWay in_X2 coX2_giveWay okX2_giveWay hR (by decide) rfl rfl rfl hw hd (fun v h' hq => by obtain ⟨rfl, hp⟩ := hq; exact k h' hp)
theorem okX2_isWay : mOK yX2_isWay 4 := by unfold mOK; exact ⟨by decide +kernel, by decide +kernel, by decide +kernel⟩
theorem kX5_168 {G : GE} {cc : ByteArray} {nL : Nat} {ret : Option FieldType} {R : Room} {pc : Nat} {lv : List OV} {st : List Value} {h : Mem} {Q : Option Value → Mem → Prop} {R2 : Room} {P : Int32 → Mem → Prop} {a0 a1 a2 a3 : Value} (hM : Ct idsA G yX2_isWay cX2_isWay 7 (some .boolean) R2 [.ref (ad G 4), a0, a1, a2, a3] h (Qi P)) (hR : rOK R R2 7) (hw : (st.map fun v => v.category).sum ≤ 8) (hd : decode cc pc = .ok (.invokevirtual 168, 3)) (k : ∀ r h', P r h' → V idsA G RX5 cc nL ret R (pc + 3) lv (.int r :: st) h' Q) : V idsA G RX5 cc nL ret R pc lv (a3 :: a2 :: a1 :: a0 :: .ref (ad G 4) :: st) h Q :=
  V_callV (rest := st) (av := [a0, a1, a2, a3]) hM ml_X5_168 imX2_isWay seX2_isWay in_X2 coX2_isWay okX2_isWay hR (by decide) rfl rfl rfl hw hd (fun v h' hq => by obtain ⟨r, rfl, hp⟩ := hq; exact k r h' hp)
theorem kX5_172 {G : GE} {cc : ByteArray} {nL : Nat} {ret : Option FieldType} {R : Room} {pc : Nat} {lv : List OV} {st : List Value} {h : Mem} {Q : Option Value → Mem → Prop} {R2 : Room} {P : Int32 → Mem → Prop} {i : Nat} (hi : i < 12) (hM : Ct idsA G yX1_hasWay cX1_hasWay 1 (some .boolean) R2 [.ref (ad G (40 + i))] h (Qi P)) (hR : rOK R R2 1) (hw : (st.map fun v => v.category).sum ≤ 8) (hd : decode cc pc = .ok (.invokevirtual 172, 3)) (k : ∀ r h', P r h' → V idsA G RX5 cc nL ret R (pc + 3) lv (.int r :: st) h' Q) : V idsA G RX5 cc nL ret R pc lv (.ref (ad G (40 + i)) :: st) h Q :=
  V_callV (rest := st) (av := []) hM ml_X5_172 imX1_hasWay seX1_hasWay in_X1 coX1_hasWay okX1_hasWay hR (mem_line hi) (cell_line hi _) rfl rfl hw hd (fun v h' hq => by obtain ⟨r, rfl, hp⟩ := hq; exact k r h' hp)
theorem okX5_goThroughLines : mOK yX5_goThroughLines 0 := by unfold mOK; exact ⟨by decide +kernel, by decide +kernel, by decide +kernel⟩
theorem kX5_175 {G : GE} {cc : ByteArray} {nL : Nat} {ret : Option FieldType} {R : Room} {pc : Nat} {lv : List OV} {st : List Value} {h : Mem} {Q : Option Value → Mem → Prop} {R2 : Room} {P : Int32 → Mem → Prop} (hM : Ct idsA G yX5_goThroughLines cX5_goThroughLines 3 (some .int) R2 [.ref (ad G 0)] h (Qi P)) (hR : rOK R R2 3) (hw : (st.map fun v => v.category).sum ≤ 8) (hd : decode cc pc = .ok (.invokevirtual 175, 3)) (k : ∀ r h', P r h' → V idsA G RX5 cc nL ret R (pc + 3) lv (.int r :: st) h' Q) : V idsA G RX5 cc nL ret R pc lv (.ref (ad G 0) :: st) h Q :=
  V_callV (rest := st) (av := []) hM ml_X5_175 imX5_goThroughLines seX5_goThroughLines in_X5 coX5_goThroughLines okX5_goThroughLines hR (by decide) rfl rfl rfl hw hd (fun v h' hq => by obtain ⟨r, rfl, hp⟩ := hq; exact k r h' hp)
theorem kX5_182 {G : GE} {cc : ByteArray} {nL : Nat} {ret : Option FieldType} {R : Room} {pc : Nat} {lv : List OV} {st : List Value} {h : Mem} {Q : Option Value → Mem → Prop} {R2 : Room} {P : Int32 → Mem → Prop} {a0 : Value} (hM : Ct idsA G yX5_isDirection cX5_isDirection 1 (some .boolean) R2 [a0] h (Qi P)) (hR : rOK R R2 1) (hw : (st.map fun v => v.category).sum ≤ 8) (hd : decode cc pc = .ok (.invokestatic 182, 3)) (k : ∀ r h', P r h' → V idsA G RX5 cc nL ret R (pc + 3) lv (.int r :: st) h' Q) : V idsA G RX5 cc nL ret R pc lv (a0 :: st) h Q :=
  V_callS (rest := st) (av := [a0]) hM ml_X5_182 smX5_isDirection in_X5 coX5_isDirection okX5_isDirection hR rfl hw hd (fun v h' hq => by obtain ⟨r, rfl, hp⟩ := hq; exact k r h' hp)
theorem okX2_widthFrom : mOK yX2_widthFrom 2 := by unfold mOK; exact ⟨by decide +kernel, by decide +kernel, by decide +kernel⟩
theorem kX5_185 {G : GE} {cc : ByteArray} {nL : Nat} {ret : Option FieldType} {R : Room} {pc : Nat} {lv : List OV} {st : List Value} {h : Mem} {Q : Option Value → Mem → Prop} {R2 : Room} {P : Int32 → Mem → Prop} {a0 a1 : Value} (hM : Ct idsA G yX2_widthFrom cX2_widthFrom 3 (some .int) R2 [.ref (ad G 4), a0, a1] h (Qi P)) (hR : rOK R R2 3) (hw : (st.map fun v => v.category).sum ≤ 8) (hd : decode cc pc = .ok (.invokevirtual 185, 3)) (k : ∀ r h', P r h' → V idsA G RX5 cc nL ret R (pc + 3) lv (.int r :: st) h' Q) : V idsA G RX5 cc nL ret R pc lv (a1 :: a0 :: .ref (ad G 4) :: st) h Q :=
  V_callV (rest := st) (av := [a0, a1]) hM ml_X5_185 imX2_widthFrom seX2_widthFrom in_X2 coX2_widthFrom okX2_widthFrom hR (by decide) rfl rfl rfl hw hd (fun v h' hq => by obtain ⟨r, rfl, hp⟩ := hq; exact k r h' hp)
theorem okX2_costOfAll : mOK yX2_costOfAll 0 := by unfold mOK; exact ⟨by decide +kernel, by decide +kernel, by decide +kernel⟩
theorem kX5_188 {G : GE} {cc : ByteArray} {nL : Nat} {ret : Option FieldType} {R : Room} {pc : Nat} {lv : List OV} {st : List Value} {h : Mem} {Q : Option Value → Mem → Prop} {R2 : Room} {P : Int32 → Mem → Prop} (hM : Ct idsA G yX2_costOfAll cX2_costOfAll 5 (some .int) R2 [.ref (ad G 4)] h (Qi P)) (hR : rOK R R2 5) (hw : (st.map fun v => v.category).sum ≤ 8) (hd : decode cc pc = .ok (.invokevirtual 188, 3)) (k : ∀ r h', P r h' → V idsA G RX5 cc nL ret R (pc + 3) lv (.int r :: st) h' Q) : V idsA G RX5 cc nL ret R pc lv (.ref (ad G 4) :: st) h Q :=
  V_callV (rest := st) (av := []) hM ml_X5_188 imX2_costOfAll seX2_costOfAll in_X2 coX2_costOfAll okX2_costOfAll hR (by decide) rfl rfl rfl hw hd (fun v h' hq => by obtain ⟨r, rfl, hp⟩ := hq; exact k r h' hp)
theorem okX2_usedSides : mOK yX2_usedSides 0 := by unfold mOK; exact ⟨by decide +kernel, by decide +kernel, by decide +kernel⟩
theorem kX5_191 {G : GE} {cc : ByteArray} {nL : Nat} {ret : Option FieldType} {R : Room} {pc : Nat} {lv : List OV} {st : List Value} {h : Mem} {Q : Option Value → Mem → Prop} {R2 : Room} {P : Int32 → Mem → Prop} (hM : Ct idsA G yX2_usedSides cX2_usedSides 3 (some .int) R2 [.ref (ad G 4)] h (Qi P)) (hR : rOK R R2 3) (hw : (st.map fun v => v.category).sum ≤ 8) (hd : decode cc pc = .ok (.invokevirtual 191, 3)) (k : ∀ r h', P r h' → V idsA G RX5 cc nL ret R (pc + 3) lv (.int r :: st) h' Q) : V idsA G RX5 cc nL ret R pc lv (.ref (ad G 4) :: st) h Q :=
  V_callV (rest := st) (av := []) hM ml_X5_191 imX2_usedSides seX2_usedSides in_X2 coX2_usedSides okX2_usedSides hR (by decide) rfl rfl rfl hw hd (fun v h' hq => by obtain ⟨r, rfl, hp⟩ := hq; exact k r h' hp)
theorem kX5_194 {G : GE} {cc : ByteArray} {nL : Nat} {ret : Option FieldType} {R : Room} {pc : Nat} {lv : List OV} {st : List Value} {h : Mem} {Q : Option Value → Mem → Prop} {R2 : Room} {P : Int32 → Mem → Prop} (hM : Ct idsA G yX2_greatestWidth cX2_greatestWidth 3 (some .int) R2 [.ref (ad G 4)] h (Qi P)) (hR : rOK R R2 3) (hw : (st.map fun v => v.category).sum ≤ 8) (hd : decode cc pc = .ok (.invokevirtual 194, 3)) (k : ∀ r h', P r h' → V idsA G RX5 cc nL ret R (pc + 3) lv (.int r :: st) h' Q) : V idsA G RX5 cc nL ret R pc lv (.ref (ad G 4) :: st) h Q :=
  V_callV (rest := st) (av := []) hM ml_X5_194 imX2_greatestWidth seX2_greatestWidth in_X2 coX2_greatestWidth okX2_greatestWidth hR (by decide) rfl rfl rfl hw hd (fun v h' hq => by obtain ⟨r, rfl, hp⟩ := hq; exact k r h' hp)
theorem okX2_forks : mOK yX2_forks 0 := by unfold mOK; exact ⟨by decide +kernel, by decide +kernel, by decide +kernel⟩
theorem kX5_197 {G : GE} {cc : ByteArray} {nL : Nat} {ret : Option FieldType} {R : Room} {pc : Nat} {lv : List OV} {st : List Value} {h : Mem} {Q : Option Value → Mem → Prop} {R2 : Room} {P : Int32 → Mem → Prop} (hM : Ct idsA G yX2_forks cX2_forks 3 (some .int) R2 [.ref (ad G 4)] h (Qi P)) (hR : rOK R R2 3) (hw : (st.map fun v => v.category).sum ≤ 8) (hd : decode cc pc = .ok (.invokevirtual 197, 3)) (k : ∀ r h', P r h' → V idsA G RX5 cc nL ret R (pc + 3) lv (.int r :: st) h' Q) : V idsA G RX5 cc nL ret R pc lv (.ref (ad G 4) :: st) h Q :=
  V_callV (rest := st) (av := []) hM ml_X5_197 imX2_forks seX2_forks in_X2 coX2_forks okX2_forks hR (by decide) rfl rfl rfl hw hd (fun v h' hq => by obtain ⟨r, rfl, hp⟩ := hq; exact k r h' hp)
theorem okX2_crossings : mOK yX2_crossings 0 := by unfold mOK; exact ⟨by decide +kernel, by decide +kernel, by decide +kernel⟩
theorem kX5_200 {G : GE} {cc : ByteArray} {nL : Nat} {ret : Option FieldType} {R : Room} {pc : Nat} {lv : List OV} {st : List Value} {h : Mem} {Q : Option Value → Mem → Prop} {R2 : Room} {P : Int32 → Mem → Prop} (hM : Ct idsA G yX2_crossings cX2_crossings 5 (some .int) R2 [.ref (ad G 4)] h (Qi P)) (hR : rOK R R2 5) (hw : (st.map fun v => v.category).sum ≤ 8) (hd : decode cc pc = .ok (.invokevirtual 200, 3)) (k : ∀ r h', P r h' → V idsA G RX5 cc nL ret R (pc + 3) lv (.int r :: st) h' Q) : V idsA G RX5 cc nL ret R pc lv (.ref (ad G 4) :: st) h Q :=
  V_callV (rest := st) (av := []) hM ml_X5_200 imX2_crossings seX2_crossings in_X2 coX2_crossings okX2_crossings hR (by decide) rfl rfl rfl hw hd (fun v h' hq => by obtain ⟨r, rfl, hp⟩ := hq; exact k r h' hp)
theorem okX5_sidesOfWays : mOK yX5_sidesOfWays 0 := by unfold mOK; exact ⟨by decide +kernel, by decide +kernel, by decide +kernel⟩
theorem kX5_203 {G : GE} {cc : ByteArray} {nL : Nat} {ret : Option FieldType} {R : Room} {pc : Nat} {lv : List OV} {st : List Value} {h : Mem} {Q : Option Value → Mem → Prop} {R2 : Room} {P : Int32 → Mem → Prop} (hM : Ct idsA G yX5_sidesOfWays cX5_sidesOfWays 3 (some .int) R2 [.ref (ad G 0)] h (Qi P)) (hR : rOK R R2 3) (hw : (st.map fun v => v.category).sum ≤ 8) (hd : decode cc pc = .ok (.invokevirtual 203, 3)) (k : ∀ r h', P r h' → V idsA G RX5 cc nL ret R (pc + 3) lv (.int r :: st) h' Q) : V idsA G RX5 cc nL ret R pc lv (.ref (ad G 0) :: st) h Q :=
  V_callV (rest := st) (av := []) hM ml_X5_203 imX5_sidesOfWays seX5_sidesOfWays in_X5 coX5_sidesOfWays okX5_sidesOfWays hR (by decide) rfl rfl rfl hw hd (fun v h' hq => by obtain ⟨r, rfl, hp⟩ := hq; exact k r h' hp)
theorem okX1_detourOfWay : mOK yX1_detourOfWay 0 := by unfold mOK; exact ⟨by decide +kernel, by decide +kernel, by decide +kernel⟩
theorem kX5_206 {G : GE} {cc : ByteArray} {nL : Nat} {ret : Option FieldType} {R : Room} {pc : Nat} {lv : List OV} {st : List Value} {h : Mem} {Q : Option Value → Mem → Prop} {R2 : Room} {P : Int32 → Mem → Prop} {i : Nat} (hi : i < 12) (hM : Ct idsA G yX1_detourOfWay cX1_detourOfWay 2 (some .int) R2 [.ref (ad G (40 + i))] h (Qi P)) (hR : rOK R R2 2) (hw : (st.map fun v => v.category).sum ≤ 8) (hd : decode cc pc = .ok (.invokevirtual 206, 3)) (k : ∀ r h', P r h' → V idsA G RX5 cc nL ret R (pc + 3) lv (.int r :: st) h' Q) : V idsA G RX5 cc nL ret R pc lv (.ref (ad G (40 + i)) :: st) h Q :=
  V_callV (rest := st) (av := []) hM ml_X5_206 imX1_detourOfWay seX1_detourOfWay in_X1 coX1_detourOfWay okX1_detourOfWay hR (mem_line hi) (cell_line hi _) rfl rfl hw hd (fun v h' hq => by obtain ⟨r, rfl, hp⟩ := hq; exact k r h' hp)
theorem okX2_sidesWithAll : mOK yX2_sidesWithAll 1 := by unfold mOK; exact ⟨by decide +kernel, by decide +kernel, by decide +kernel⟩
theorem kX5_212 {G : GE} {cc : ByteArray} {nL : Nat} {ret : Option FieldType} {R : Room} {pc : Nat} {lv : List OV} {st : List Value} {h : Mem} {Q : Option Value → Mem → Prop} {R2 : Room} {P : Int32 → Mem → Prop} {a0 : Value} (hM : Ct idsA G yX2_sidesWithAll cX2_sidesWithAll 4 (some .int) R2 [.ref (ad G 4), a0] h (Qi P)) (hR : rOK R R2 4) (hw : (st.map fun v => v.category).sum ≤ 8) (hd : decode cc pc = .ok (.invokevirtual 212, 3)) (k : ∀ r h', P r h' → V idsA G RX5 cc nL ret R (pc + 3) lv (.int r :: st) h' Q) : V idsA G RX5 cc nL ret R pc lv (a0 :: .ref (ad G 4) :: st) h Q :=
  V_callV (rest := st) (av := [a0]) hM ml_X5_212 imX2_sidesWithAll seX2_sidesWithAll in_X2 coX2_sidesWithAll okX2_sidesWithAll hR (by decide) rfl rfl rfl hw hd (fun v h' hq => by obtain ⟨r, rfl, hp⟩ := hq; exact k r h' hp)
theorem okX5_waysMask : mOK yX5_waysMask 0 := by unfold mOK; exact ⟨by decide +kernel, by decide +kernel, by decide +kernel⟩
theorem kX5_215 {G : GE} {cc : ByteArray} {nL : Nat} {ret : Option FieldType} {R : Room} {pc : Nat} {lv : List OV} {st : List Value} {h : Mem} {Q : Option Value → Mem → Prop} {R2 : Room} {P : Int32 → Mem → Prop} (hM : Ct idsA G yX5_waysMask cX5_waysMask 3 (some .int) R2 [.ref (ad G 0)] h (Qi P)) (hR : rOK R R2 3) (hw : (st.map fun v => v.category).sum ≤ 8) (hd : decode cc pc = .ok (.invokevirtual 215, 3)) (k : ∀ r h', P r h' → V idsA G RX5 cc nL ret R (pc + 3) lv (.int r :: st) h' Q) : V idsA G RX5 cc nL ret R pc lv (.ref (ad G 0) :: st) h Q :=
  V_callV (rest := st) (av := []) hM ml_X5_215 imX5_waysMask seX5_waysMask in_X5 coX5_waysMask okX5_waysMask hR (by decide) rfl rfl rfl hw hd (fun v h' hq => by obtain ⟨r, rfl, hp⟩ := hq; exact k r h' hp)
theorem okX4_tintAll : mOK yX4_tintAll 2 := by unfold mOK; exact ⟨by decide +kernel, by decide +kernel, by decide +kernel⟩
theorem kX5_218 {G : GE} {cc : ByteArray} {nL : Nat} {ret : Option FieldType} {R : Room} {pc : Nat} {lv : List OV} {st : List Value} {h : Mem} {Q : Option Value → Mem → Prop} {R2 : Room} {P : Mem → Prop} {a0 a1 : Value} (hM : Ct idsA G yX4_tintAll cX4_tintAll 4 none R2 [.ref (ad G 6), a0, a1] h (Qv P)) (hR : rOK R R2 4) (hw : (st.map fun v => v.category).sum ≤ 8) (hd : decode cc pc = .ok (.invokevirtual 218, 3)) (k : ∀ h', P h' → V idsA G RX5 cc nL ret R (pc + 3) lv st h' Q) : V idsA G RX5 cc nL ret R pc lv (a1 :: a0 :: .ref (ad G 6) :: st) h Q :=
  V_callV (rest := st) (av := [a0, a1]) hM ml_X5_218 imX4_tintAll seX4_tintAll in_X4 coX4_tintAll okX4_tintAll hR (by decide) rfl rfl rfl hw hd (fun v h' hq => by obtain ⟨rfl, hp⟩ := hq; exact k h' hp)
theorem kX5_228 {G : GE} {cc : ByteArray} {nL : Nat} {ret : Option FieldType} {R : Room} {pc : Nat} {lv : List OV} {st : List Value} {h : Mem} {Q : Option Value → Mem → Prop} {R2 : Room} {P : Int32 → Mem → Prop} {a0 a1 : Value} (hM : Ct idsA G yX5_beside cX5_beside 2 (some .int) R2 [a0, a1] h (Qi P)) (hR : rOK R R2 2) (hw : (st.map fun v => v.category).sum ≤ 8) (hd : decode cc pc = .ok (.invokestatic 228, 3)) (k : ∀ r h', P r h' → V idsA G RX5 cc nL ret R (pc + 3) lv (.int r :: st) h' Q) : V idsA G RX5 cc nL ret R pc lv (a1 :: a0 :: st) h Q :=
  V_callS (rest := st) (av := [a0, a1]) hM ml_X5_228 smX5_beside in_X5 coX5_beside okX5_beside hR rfl hw hd (fun v h' hq => by obtain ⟨r, rfl, hp⟩ := hq; exact k r h' hp)
theorem okX5_isEndOfWay : mOK yX5_isEndOfWay 1 := by unfold mOK; exact ⟨by decide +kernel, by decide +kernel, by decide +kernel⟩
theorem kX5_231 {G : GE} {cc : ByteArray} {nL : Nat} {ret : Option FieldType} {R : Room} {pc : Nat} {lv : List OV} {st : List Value} {h : Mem} {Q : Option Value → Mem → Prop} {R2 : Room} {P : Int32 → Mem → Prop} {a0 : Value} (hM : Ct idsA G yX5_isEndOfWay cX5_isEndOfWay 3 (some .boolean) R2 [.ref (ad G 0), a0] h (Qi P)) (hR : rOK R R2 3) (hw : (st.map fun v => v.category).sum ≤ 8) (hd : decode cc pc = .ok (.invokevirtual 231, 3)) (k : ∀ r h', P r h' → V idsA G RX5 cc nL ret R (pc + 3) lv (.int r :: st) h' Q) : V idsA G RX5 cc nL ret R pc lv (a0 :: .ref (ad G 0) :: st) h Q :=
  V_callV (rest := st) (av := [a0]) hM ml_X5_231 imX5_isEndOfWay seX5_isEndOfWay in_X5 coX5_isEndOfWay okX5_isEndOfWay hR (by decide) rfl rfl rfl hw hd (fun v h' hq => by obtain ⟨r, rfl, hp⟩ := hq; exact k r h' hp)
theorem okX2_onward : mOK yX2_onward 2 := by unfold mOK; exact ⟨by decide +kernel, by decide +kernel, by decide +kernel⟩
theorem kX5_234 {G : GE} {cc : ByteArray} {nL : Nat} {ret : Option FieldType} {R : Room} {pc : Nat} {lv : List OV} {st : List Value} {h : Mem} {Q : Option Value → Mem → Prop} {R2 : Room} {P : Int32 → Mem → Prop} {a0 a1 : Value} (hM : Ct idsA G yX2_onward cX2_onward 5 (some .int) R2 [.ref (ad G 4), a0, a1] h (Qi P)) (hR : rOK R R2 5) (hw : (st.map fun v => v.category).sum ≤ 8) (hd : decode cc pc = .ok (.invokevirtual 234, 3)) (k : ∀ r h', P r h' → V idsA G RX5 cc nL ret R (pc + 3) lv (.int r :: st) h' Q) : V idsA G RX5 cc nL ret R pc lv (a1 :: a0 :: .ref (ad G 4) :: st) h Q :=
  V_callV (rest := st) (av := [a0, a1]) hM ml_X5_234 imX2_onward seX2_onward in_X2 coX2_onward okX2_onward hR (by decide) rfl rfl rfl hw hd (fun v h' hq => by obtain ⟨r, rfl, hp⟩ := hq; exact k r h' hp)
theorem okX2_kindOf : mOK yX2_kindOf 1 := by unfold mOK; exact ⟨by decide +kernel, by decide +kernel, by decide +kernel⟩
theorem kX5_237 {G : GE} {cc : ByteArray} {nL : Nat} {ret : Option FieldType} {R : Room} {pc : Nat} {lv : List OV} {st : List Value} {h : Mem} {Q : Option Value → Mem → Prop} {R2 : Room} {P : Int32 → Mem → Prop} {a0 : Value} (hM : Ct idsA G yX2_kindOf cX2_kindOf 3 (some .int) R2 [.ref (ad G 4), a0] h (Qi P)) (hR : rOK R R2 3) (hw : (st.map fun v => v.category).sum ≤ 8) (hd : decode cc pc = .ok (.invokevirtual 237, 3)) (k : ∀ r h', P r h' → V idsA G RX5 cc nL ret R (pc + 3) lv (.int r :: st) h' Q) : V idsA G RX5 cc nL ret R pc lv (a0 :: .ref (ad G 4) :: st) h Q :=
  V_callV (rest := st) (av := [a0]) hM ml_X5_237 imX2_kindOf seX2_kindOf in_X2 coX2_kindOf okX2_kindOf hR (by decide) rfl rfl rfl hw hd (fun v h' hq => by obtain ⟨r, rfl, hp⟩ := hq; exact k r h' hp)
theorem okX5_sizeAsked : mOK yX5_sizeAsked 1 := by unfold mOK; exact ⟨by decide +kernel, by decide +kernel, by decide +kernel⟩
theorem kX5_244 {G : GE} {cc : ByteArray} {nL : Nat} {ret : Option FieldType} {R : Room} {pc : Nat} {lv : List OV} {st : List Value} {h : Mem} {Q : Option Value → Mem → Prop} {R2 : Room} {P : Int32 → Mem → Prop} {a0 : Value} (hM : Ct idsA G yX5_sizeAsked cX5_sizeAsked 2 (some .int) R2 [.ref (ad G 0), a0] h (Qi P)) (hR : rOK R R2 2) (hw : (st.map fun v => v.category).sum ≤ 8) (hd : decode cc pc = .ok (.invokevirtual 244, 3)) (k : ∀ r h', P r h' → V idsA G RX5 cc nL ret R (pc + 3) lv (.int r :: st) h' Q) : V idsA G RX5 cc nL ret R pc lv (a0 :: .ref (ad G 0) :: st) h Q :=
  V_callV (rest := st) (av := [a0]) hM ml_X5_244 imX5_sizeAsked seX5_sizeAsked in_X5 coX5_sizeAsked okX5_sizeAsked hR (by decide) rfl rfl rfl hw hd (fun v h' hq => by obtain ⟨r, rfl, hp⟩ := hq; exact k r h' hp)
theorem okX5_markAsked : mOK yX5_markAsked 1 := by unfold mOK; exact ⟨by decide +kernel, by decide +kernel, by decide +kernel⟩
theorem kX5_247 {G : GE} {cc : ByteArray} {nL : Nat} {ret : Option FieldType} {R : Room} {pc : Nat} {lv : List OV} {st : List Value} {h : Mem} {Q : Option Value → Mem → Prop} {R2 : Room} {P : Int32 → Mem → Prop} {a0 : Value} (hM : Ct idsA G yX5_markAsked cX5_markAsked 2 (some .int) R2 [.ref (ad G 0), a0] h (Qi P)) (hR : rOK R R2 2) (hw : (st.map fun v => v.category).sum ≤ 8) (hd : decode cc pc = .ok (.invokevirtual 247, 3)) (k : ∀ r h', P r h' → V idsA G RX5 cc nL ret R (pc + 3) lv (.int r :: st) h' Q) : V idsA G RX5 cc nL ret R pc lv (a0 :: .ref (ad G 0) :: st) h Q :=
  V_callV (rest := st) (av := [a0]) hM ml_X5_247 imX5_markAsked seX5_markAsked in_X5 coX5_markAsked okX5_markAsked hR (by decide) rfl rfl rfl hw hd (fun v h' hq => by obtain ⟨r, rfl, hp⟩ := hq; exact k r h' hp)
theorem okX5_sheetsThere : mOK yX5_sheetsThere 0 := by unfold mOK; exact ⟨by decide +kernel, by decide +kernel, by decide +kernel⟩
theorem kX5_250 {G : GE} {cc : ByteArray} {nL : Nat} {ret : Option FieldType} {R : Room} {pc : Nat} {lv : List OV} {st : List Value} {h : Mem} {Q : Option Value → Mem → Prop} {R2 : Room} {P : Int32 → Mem → Prop} (hM : Ct idsA G yX5_sheetsThere cX5_sheetsThere 3 (some .int) R2 [.ref (ad G 0)] h (Qi P)) (hR : rOK R R2 3) (hw : (st.map fun v => v.category).sum ≤ 8) (hd : decode cc pc = .ok (.invokevirtual 250, 3)) (k : ∀ r h', P r h' → V idsA G RX5 cc nL ret R (pc + 3) lv (.int r :: st) h' Q) : V idsA G RX5 cc nL ret R pc lv (.ref (ad G 0) :: st) h Q :=
  V_callV (rest := st) (av := []) hM ml_X5_250 imX5_sheetsThere seX5_sheetsThere in_X5 coX5_sheetsThere okX5_sheetsThere hR (by decide) rfl rfl rfl hw hd (fun v h' hq => by obtain ⟨r, rfl, hp⟩ := hq; exact k r h' hp)
theorem kX5_253 {G : GE} {cc : ByteArray} {nL : Nat} {ret : Option FieldType} {R : Room} {pc : Nat} {lv : List OV} {st : List Value} {h : Mem} {Q : Option Value → Mem → Prop} {R2 : Room} {P : Int32 → Mem → Prop} {a0 : Value} (hM : Ct idsA G yJ6_bitCount_0f7a4 cJ6_bitCount_0f7a4 1 (some .int) R2 [a0] h (Qi P)) (hR : rOK R R2 1) (hw : (st.map fun v => v.category).sum ≤ 8) (hd : decode cc pc = .ok (.invokestatic 253, 3)) (k : ∀ r h', P r h' → V idsA G RX5 cc nL ret R (pc + 3) lv (.int r :: st) h' Q) : V idsA G RX5 cc nL ret R pc lv (a0 :: st) h Q :=
  V_callS (rest := st) (av := [a0]) hM ml_X5_253 smJ6_bitCount_0f7a4 in_J6 coJ6_bitCount_0f7a4 okJ6_bitCount_0f7a4 hR rfl hw hd (fun v h' hq => by obtain ⟨r, rfl, hp⟩ := hq; exact k r h' hp)
theorem okX5_linesOfKind : mOK yX5_linesOfKind 1 := by unfold mOK; exact ⟨by decide +kernel, by decide +kernel, by decide +kernel⟩
theorem kX5_258 {G : GE} {cc : ByteArray} {nL : Nat} {ret : Option FieldType} {R : Room} {pc : Nat} {lv : List OV} {st : List Value} {h : Mem} {Q : Option Value → Mem → Prop} {R2 : Room} {P : Int32 → Mem → Prop} {a0 : Value} (hM : Ct idsA G yX5_linesOfKind cX5_linesOfKind 4 (some .int) R2 [.ref (ad G 0), a0] h (Qi P)) (hR : rOK R R2 4) (hw : (st.map fun v => v.category).sum ≤ 8) (hd : decode cc pc = .ok (.invokevirtual 258, 3)) (k : ∀ r h', P r h' → V idsA G RX5 cc nL ret R (pc + 3) lv (.int r :: st) h' Q) : V idsA G RX5 cc nL ret R pc lv (a0 :: .ref (ad G 0) :: st) h Q :=
  V_callV (rest := st) (av := [a0]) hM ml_X5_258 imX5_linesOfKind seX5_linesOfKind in_X5 coX5_linesOfKind okX5_linesOfKind hR (by decide) rfl rfl rfl hw hd (fun v h' hq => by obtain ⟨r, rfl, hp⟩ := hq; exact k r h' hp)
theorem okX2_shutPlaces : mOK yX2_shutPlaces 0 := by unfold mOK; exact ⟨by decide +kernel, by decide +kernel, by decide +kernel⟩
theorem kX5_261 {G : GE} {cc : ByteArray} {nL : Nat} {ret : Option FieldType} {R : Room} {pc : Nat} {lv : List OV} {st : List Value} {h : Mem} {Q : Option Value → Mem → Prop} {R2 : Room} {P : Int32 → Mem → Prop} (hM : Ct idsA G yX2_shutPlaces cX2_shutPlaces 3 (some .int) R2 [.ref (ad G 4)] h (Qi P)) (hR : rOK R R2 3) (hw : (st.map fun v => v.category).sum ≤ 8) (hd : decode cc pc = .ok (.invokevirtual 261, 3)) (k : ∀ r h', P r h' → V idsA G RX5 cc nL ret R (pc + 3) lv (.int r :: st) h' Q) : V idsA G RX5 cc nL ret R pc lv (.ref (ad G 4) :: st) h Q :=
  V_callV (rest := st) (av := []) hM ml_X5_261 imX2_shutPlaces seX2_shutPlaces in_X2 coX2_shutPlaces okX2_shutPlaces hR (by decide) rfl rfl rfl hw hd (fun v h' hq => by obtain ⟨r, rfl, hp⟩ := hq; exact k r h' hp)
theorem kX5_268 {d : Nat} {G : GE} {cc : ByteArray} {nL : Nat} {ret : Option FieldType} {pc : Nat} {lv : List OV} {st : List Value} {h : Mem} {Q : Option Value → Mem → Prop} {x y : Int32} (h0 : 0 < d) (hw : (st.map fun v => v.category).sum ≤ 8) (hd : decode cc pc = .ok (.invokestatic 268, 3)) (kk : V idsA G RX5 cc nL ret (rmD d) (pc + 3) lv (.int (if y < x then y else x) :: st) h Q) : V idsA G RX5 cc nL ret (rmD d) pc lv (.int y :: .int x :: st) h Q :=
  V_mmin ml_X5_268 sm_min in_J9 co_min h0 (by show _ + 13 ≤ 40 * d; omega) hd kk
theorem okX5_leadIfBetter : mOK yX5_leadIfBetter 1 := by unfold mOK; exact ⟨by decide +kernel, by decide +kernel, by decide +kernel⟩
theorem kX5_273 {G : GE} {cc : ByteArray} {nL : Nat} {ret : Option FieldType} {R : Room} {pc : Nat} {lv : List OV} {st : List Value} {h : Mem} {Q : Option Value → Mem → Prop} {R2 : Room} {P : Int32 → Mem → Prop} {a0 : Value} (hM : Ct idsA G yX5_leadIfBetter cX5_leadIfBetter 2 (some .boolean) R2 [.ref (ad G 0), a0] h (Qi P)) (hR : rOK R R2 2) (hw : (st.map fun v => v.category).sum ≤ 8) (hd : decode cc pc = .ok (.invokevirtual 273, 3)) (k : ∀ r h', P r h' → V idsA G RX5 cc nL ret R (pc + 3) lv (.int r :: st) h' Q) : V idsA G RX5 cc nL ret R pc lv (a0 :: .ref (ad G 0) :: st) h Q :=
  V_callV (rest := st) (av := [a0]) hM ml_X5_273 imX5_leadIfBetter seX5_leadIfBetter in_X5 coX5_leadIfBetter okX5_leadIfBetter hR (by decide) rfl rfl rfl hw hd (fun v h' hq => by obtain ⟨r, rfl, hp⟩ := hq; exact k r h' hp)
theorem okX2_costAmongOthers : mOK yX2_costAmongOthers 1 := by unfold mOK; exact ⟨by decide +kernel, by decide +kernel, by decide +kernel⟩
theorem kX5_277 {G : GE} {cc : ByteArray} {nL : Nat} {ret : Option FieldType} {R : Room} {pc : Nat} {lv : List OV} {st : List Value} {h : Mem} {Q : Option Value → Mem → Prop} {R2 : Room} {P : Int32 → Mem → Prop} {a0 : Value} (hM : Ct idsA G yX2_costAmongOthers cX2_costAmongOthers 4 (some .int) R2 [.ref (ad G 4), a0] h (Qi P)) (hR : rOK R R2 4) (hw : (st.map fun v => v.category).sum ≤ 8) (hd : decode cc pc = .ok (.invokevirtual 277, 3)) (k : ∀ r h', P r h' → V idsA G RX5 cc nL ret R (pc + 3) lv (.int r :: st) h' Q) : V idsA G RX5 cc nL ret R pc lv (a0 :: .ref (ad G 4) :: st) h Q :=
  V_callV (rest := st) (av := [a0]) hM ml_X5_277 imX2_costAmongOthers seX2_costAmongOthers in_X2 coX2_costAmongOthers okX2_costAmongOthers hR (by decide) rfl rfl rfl hw hd (fun v h' hq => by obtain ⟨r, rfl, hp⟩ := hq; exact k r h' hp)
theorem okX5_sizeOfAlone : mOK yX5_sizeOfAlone 1 := by unfold mOK; exact ⟨by decide +kernel, by decide +kernel, by decide +kernel⟩
theorem kX5_286 {G : GE} {cc : ByteArray} {nL : Nat} {ret : Option FieldType} {R : Room} {pc : Nat} {lv : List OV} {st : List Value} {h : Mem} {Q : Option Value → Mem → Prop} {R2 : Room} {P : Int32 → Mem → Prop} {a0 : Value} (hM : Ct idsA G yX5_sizeOfAlone cX5_sizeOfAlone 2 (some .int) R2 [.ref (ad G 0), a0] h (Qi P)) (hR : rOK R R2 2) (hw : (st.map fun v => v.category).sum ≤ 8) (hd : decode cc pc = .ok (.invokevirtual 286, 3)) (k : ∀ r h', P r h' → V idsA G RX5 cc nL ret R (pc + 3) lv (.int r :: st) h' Q) : V idsA G RX5 cc nL ret R pc lv (a0 :: .ref (ad G 0) :: st) h Q :=
  V_callV (rest := st) (av := [a0]) hM ml_X5_286 imX5_sizeOfAlone seX5_sizeOfAlone in_X5 coX5_sizeOfAlone okX5_sizeOfAlone hR (by decide) rfl rfl rfl hw hd (fun v h' hq => by obtain ⟨r, rfl, hp⟩ := hq; exact k r h' hp)
theorem okX5_sizeOfBound : mOK yX5_sizeOfBound 1 := by unfold mOK; exact ⟨by decide +kernel, by decide +kernel, by decide +kernel⟩
theorem kX5_289 {G : GE} {cc : ByteArray} {nL : Nat} {ret : Option FieldType} {R : Room} {pc : Nat} {lv : List OV} {st : List Value} {h : Mem} {Q : Option Value → Mem → Prop} {R2 : Room} {P : Int32 → Mem → Prop} {a0 : Value} (hM : Ct idsA G yX5_sizeOfBound cX5_sizeOfBound 2 (some .int) R2 [.ref (ad G 0), a0] h (Qi P)) (hR : rOK R R2 2) (hw : (st.map fun v => v.category).sum ≤ 8) (hd : decode cc pc = .ok (.invokevirtual 289, 3)) (k : ∀ r h', P r h' → V idsA G RX5 cc nL ret R (pc + 3) lv (.int r :: st) h' Q) : V idsA G RX5 cc nL ret R pc lv (a0 :: .ref (ad G 0) :: st) h Q :=
  V_callV (rest := st) (av := [a0]) hM ml_X5_289 imX5_sizeOfBound seX5_sizeOfBound in_X5 coX5_sizeOfBound okX5_sizeOfBound hR (by decide) rfl rfl rfl hw hd (fun v h' hq => by obtain ⟨r, rfl, hp⟩ := hq; exact k r h' hp)
theorem okX5_sizeOfForked : mOK yX5_sizeOfForked 1 := by unfold mOK; exact ⟨by decide +kernel, by decide +kernel, by decide +kernel⟩
theorem kX5_292 {G : GE} {cc : ByteArray} {nL : Nat} {ret : Option FieldType} {R : Room} {pc : Nat} {lv : List OV} {st : List Value} {h : Mem} {Q : Option Value → Mem → Prop} {R2 : Room} {P : Int32 → Mem → Prop} {a0 : Value} (hM : Ct idsA G yX5_sizeOfForked cX5_sizeOfForked 2 (some .int) R2 [.ref (ad G 0), a0] h (Qi P)) (hR : rOK R R2 2) (hw : (st.map fun v => v.category).sum ≤ 8) (hd : decode cc pc = .ok (.invokevirtual 292, 3)) (k : ∀ r h', P r h' → V idsA G RX5 cc nL ret R (pc + 3) lv (.int r :: st) h' Q) : V idsA G RX5 cc nL ret R pc lv (a0 :: .ref (ad G 0) :: st) h Q :=
  V_callV (rest := st) (av := [a0]) hM ml_X5_292 imX5_sizeOfForked seX5_sizeOfForked in_X5 coX5_sizeOfForked okX5_sizeOfForked hR (by decide) rfl rfl rfl hw hd (fun v h' hq => by obtain ⟨r, rfl, hp⟩ := hq; exact k r h' hp)
theorem okX5_sizeLent : mOK yX5_sizeLent 1 := by unfold mOK; exact ⟨by decide +kernel, by decide +kernel, by decide +kernel⟩
theorem kX5_295 {G : GE} {cc : ByteArray} {nL : Nat} {ret : Option FieldType} {R : Room} {pc : Nat} {lv : List OV} {st : List Value} {h : Mem} {Q : Option Value → Mem → Prop} {R2 : Room} {P : Int32 → Mem → Prop} {a0 : Value} (hM : Ct idsA G yX5_sizeLent cX5_sizeLent 2 (some .int) R2 [.ref (ad G 0), a0] h (Qi P)) (hR : rOK R R2 2) (hw : (st.map fun v => v.category).sum ≤ 8) (hd : decode cc pc = .ok (.invokevirtual 295, 3)) (k : ∀ r h', P r h' → V idsA G RX5 cc nL ret R (pc + 3) lv (.int r :: st) h' Q) : V idsA G RX5 cc nL ret R pc lv (a0 :: .ref (ad G 0) :: st) h Q :=
  V_callV (rest := st) (av := [a0]) hM ml_X5_295 imX5_sizeLent seX5_sizeLent in_X5 coX5_sizeLent okX5_sizeLent hR (by decide) rfl rfl rfl hw hd (fun v h' hq => by obtain ⟨r, rfl, hp⟩ := hq; exact k r h' hp)
theorem okX5_markOfBound : mOK yX5_markOfBound 1 := by unfold mOK; exact ⟨by decide +kernel, by decide +kernel, by decide +kernel⟩
theorem kX5_298 {G : GE} {cc : ByteArray} {nL : Nat} {ret : Option FieldType} {R : Room} {pc : Nat} {lv : List OV} {st : List Value} {h : Mem} {Q : Option Value → Mem → Prop} {R2 : Room} {P : Int32 → Mem → Prop} {a0 : Value} (hM : Ct idsA G yX5_markOfBound cX5_markOfBound 2 (some .int) R2 [.ref (ad G 0), a0] h (Qi P)) (hR : rOK R R2 2) (hw : (st.map fun v => v.category).sum ≤ 8) (hd : decode cc pc = .ok (.invokevirtual 298, 3)) (k : ∀ r h', P r h' → V idsA G RX5 cc nL ret R (pc + 3) lv (.int r :: st) h' Q) : V idsA G RX5 cc nL ret R pc lv (a0 :: .ref (ad G 0) :: st) h Q :=
  V_callV (rest := st) (av := [a0]) hM ml_X5_298 imX5_markOfBound seX5_markOfBound in_X5 coX5_markOfBound okX5_markOfBound hR (by decide) rfl rfl rfl hw hd (fun v h' hq => by obtain ⟨r, rfl, hp⟩ := hq; exact k r h' hp)
theorem okX5_markOfForked : mOK yX5_markOfForked 1 := by unfold mOK; exact ⟨by decide +kernel, by decide +kernel, by decide +kernel⟩
theorem kX5_301 {G : GE} {cc : ByteArray} {nL : Nat} {ret : Option FieldType} {R : Room} {pc : Nat} {lv : List OV} {st : List Value} {h : Mem} {Q : Option Value → Mem → Prop} {R2 : Room} {P : Int32 → Mem → Prop} {a0 : Value} (hM : Ct idsA G yX5_markOfForked cX5_markOfForked 2 (some .int) R2 [.ref (ad G 0), a0] h (Qi P)) (hR : rOK R R2 2) (hw : (st.map fun v => v.category).sum ≤ 8) (hd : decode cc pc = .ok (.invokevirtual 301, 3)) (k : ∀ r h', P r h' → V idsA G RX5 cc nL ret R (pc + 3) lv (.int r :: st) h' Q) : V idsA G RX5 cc nL ret R pc lv (a0 :: .ref (ad G 0) :: st) h Q :=
  V_callV (rest := st) (av := [a0]) hM ml_X5_301 imX5_markOfForked seX5_markOfForked in_X5 coX5_markOfForked okX5_markOfForked hR (by decide) rfl rfl rfl hw hd (fun v h' hq => by obtain ⟨r, rfl, hp⟩ := hq; exact k r h' hp)
theorem okX5_markLent : mOK yX5_markLent 1 := by unfold mOK; exact ⟨by decide +kernel, by decide +kernel, by decide +kernel⟩
theorem kX5_304 {G : GE} {cc : ByteArray} {nL : Nat} {ret : Option FieldType} {R : Room} {pc : Nat} {lv : List OV} {st : List Value} {h : Mem} {Q : Option Value → Mem → Prop} {R2 : Room} {P : Int32 → Mem → Prop} {a0 : Value} (hM : Ct idsA G yX5_markLent cX5_markLent 2 (some .int) R2 [.ref (ad G 0), a0] h (Qi P)) (hR : rOK R R2 2) (hw : (st.map fun v => v.category).sum ≤ 8) (hd : decode cc pc = .ok (.invokevirtual 304, 3)) (k : ∀ r h', P r h' → V idsA G RX5 cc nL ret R (pc + 3) lv (.int r :: st) h' Q) : V idsA G RX5 cc nL ret R pc lv (a0 :: .ref (ad G 0) :: st) h Q :=
  V_callV (rest := st) (av := [a0]) hM ml_X5_304 imX5_markLent seX5_markLent in_X5 coX5_markLent okX5_markLent hR (by decide) rfl rfl rfl hw hd (fun v h' hq => by obtain ⟨r, rfl, hp⟩ := hq; exact k r h' hp)
theorem okX5_leave : mOK yX5_leave 1 := by unfold mOK; exact ⟨by decide +kernel, by decide +kernel, by decide +kernel⟩
theorem kX5_307 {G : GE} {cc : ByteArray} {nL : Nat} {ret : Option FieldType} {R : Room} {pc : Nat} {lv : List OV} {st : List Value} {h : Mem} {Q : Option Value → Mem → Prop} {R2 : Room} {P : Mem → Prop} {a0 : Value} (hM : Ct idsA G yX5_leave cX5_leave 2 none R2 [.ref (ad G 0), a0] h (Qv P)) (hR : rOK R R2 2) (hw : (st.map fun v => v.category).sum ≤ 8) (hd : decode cc pc = .ok (.invokevirtual 307, 3)) (k : ∀ h', P h' → V idsA G RX5 cc nL ret R (pc + 3) lv st h' Q) : V idsA G RX5 cc nL ret R pc lv (a0 :: .ref (ad G 0) :: st) h Q :=
  V_callV (rest := st) (av := [a0]) hM ml_X5_307 imX5_leave seX5_leave in_X5 coX5_leave okX5_leave hR (by decide) rfl rfl rfl hw hd (fun v h' hq => by obtain ⟨rfl, hp⟩ := hq; exact k h' hp)
theorem kX5_310 {G : GE} {cc : ByteArray} {nL : Nat} {ret : Option FieldType} {R : Room} {pc : Nat} {lv : List OV} {st : List Value} {h : Mem} {Q : Option Value → Mem → Prop} {R2 : Room} {P : Int32 → Mem → Prop} {a0 : Value} (hM : Ct idsA G yX2_sidesWithOthers cX2_sidesWithOthers 4 (some .int) R2 [.ref (ad G 4), a0] h (Qi P)) (hR : rOK R R2 4) (hw : (st.map fun v => v.category).sum ≤ 8) (hd : decode cc pc = .ok (.invokevirtual 310, 3)) (k : ∀ r h', P r h' → V idsA G RX5 cc nL ret R (pc + 3) lv (.int r :: st) h' Q) : V idsA G RX5 cc nL ret R pc lv (a0 :: .ref (ad G 4) :: st) h Q :=
  V_callV (rest := st) (av := [a0]) hM ml_X5_310 imX2_sidesWithOthers seX2_sidesWithOthers in_X2 coX2_sidesWithOthers okX2_sidesWithOthers hR (by decide) rfl rfl rfl hw hd (fun v h' hq => by obtain ⟨r, rfl, hp⟩ := hq; exact k r h' hp)
theorem okX6_in : mOK yX6_in 3 := by unfold mOK; exact ⟨by decide +kernel, by decide +kernel, by decide +kernel⟩
theorem kX6_72 {G : GE} {cc : ByteArray} {nL : Nat} {ret : Option FieldType} {R : Room} {pc : Nat} {lv : List OV} {st : List Value} {h : Mem} {Q : Option Value → Mem → Prop} {R2 : Room} {P : Int32 → Mem → Prop} {a0 a1 a2 : Value} (hM : Ct idsB G yX6_in cX6_in 6 (some .boolean) R2 [a0, a1, a2] h (Qi P)) (hR : rOK R R2 6) (hw : (st.map fun v => v.category).sum ≤ 8) (hd : decode cc pc = .ok (.invokestatic 72, 3)) (k : ∀ r h', P r h' → V idsB G RX6 cc nL ret R (pc + 3) lv (.int r :: st) h' Q) : V idsB G RX6 cc nL ret R pc lv (a2 :: a1 :: a0 :: st) h Q :=
  V_callS (rest := st) (av := [a0, a1, a2]) hM ml_X6_72 smX6_in in_X6 coX6_in okX6_in hR rfl hw hd (fun v h' hq => by obtain ⟨r, rfl, hp⟩ := hq; exact k r h' hp)
theorem okX6_isSheet : mOK yX6_isSheet 1 := by unfold mOK; exact ⟨by decide +kernel, by decide +kernel, by decide +kernel⟩
theorem kX6_76 {G : GE} {cc : ByteArray} {nL : Nat} {ret : Option FieldType} {R : Room} {pc : Nat} {lv : List OV} {st : List Value} {h : Mem} {Q : Option Value → Mem → Prop} {R2 : Room} {P : Int32 → Mem → Prop} {a0 : Value} (hM : Ct idsB G yX6_isSheet cX6_isSheet 1 (some .boolean) R2 [a0] h (Qi P)) (hR : rOK R R2 1) (hw : (st.map fun v => v.category).sum ≤ 8) (hd : decode cc pc = .ok (.invokestatic 76, 3)) (k : ∀ r h', P r h' → V idsB G RX6 cc nL ret R (pc + 3) lv (.int r :: st) h' Q) : V idsB G RX6 cc nL ret R pc lv (a0 :: st) h Q :=
  V_callS (rest := st) (av := [a0]) hM ml_X6_76 smX6_isSheet in_X6 coX6_isSheet okX6_isSheet hR rfl hw hd (fun v h' hq => by obtain ⟨r, rfl, hp⟩ := hq; exact k r h' hp)
theorem okX6_found : mOK yX6_found 1 := by unfold mOK; exact ⟨by decide +kernel, by decide +kernel, by decide +kernel⟩
theorem kX6_83 {G : GE} {cc : ByteArray} {nL : Nat} {ret : Option FieldType} {R : Room} {pc : Nat} {lv : List OV} {st : List Value} {h : Mem} {Q : Option Value → Mem → Prop} {R2 : Room} {P : Int32 → Mem → Prop} {a0 : Value} (hM : Ct idsB G yX6_found cX6_found 2 (some .int) R2 [.ref (ad G 100), a0] h (Qi P)) (hR : rOK R R2 2) (hw : (st.map fun v => v.category).sum ≤ 8) (hd : decode cc pc = .ok (.invokevirtual 83, 3)) (k : ∀ r h', P r h' → V idsB G RX6 cc nL ret R (pc + 3) lv (.int r :: st) h' Q) : V idsB G RX6 cc nL ret R pc lv (a0 :: .ref (ad G 100) :: st) h Q :=
  V_callV (rest := st) (av := [a0]) hM ml_X6_83 imX6_found seX6_found in_X6 coX6_found okX6_found hR (by decide) rfl rfl rfl hw hd (fun v h' hq => by obtain ⟨r, rfl, hp⟩ := hq; exact k r h' hp)
theorem okX6_isOn : mOK yX6_isOn 2 := by unfold mOK; exact ⟨by decide +kernel, by decide +kernel, by decide +kernel⟩
theorem kX6_89 {G : GE} {cc : ByteArray} {nL : Nat} {ret : Option FieldType} {R : Room} {pc : Nat} {lv : List OV} {st : List Value} {h : Mem} {Q : Option Value → Mem → Prop} {R2 : Room} {P : Int32 → Mem → Prop} {a0 a1 : Value} (hM : Ct idsB G yX6_isOn cX6_isOn 2 (some .boolean) R2 [a0, a1] h (Qi P)) (hR : rOK R R2 2) (hw : (st.map fun v => v.category).sum ≤ 8) (hd : decode cc pc = .ok (.invokestatic 89, 3)) (k : ∀ r h', P r h' → V idsB G RX6 cc nL ret R (pc + 3) lv (.int r :: st) h' Q) : V idsB G RX6 cc nL ret R pc lv (a1 :: a0 :: st) h Q :=
  V_callS (rest := st) (av := [a0, a1]) hM ml_X6_89 smX6_isOn in_X6 coX6_isOn okX6_isOn hR rfl hw hd (fun v h' hq => by obtain ⟨r, rfl, hp⟩ := hq; exact k r h' hp)
theorem okX6_pointOn : mOK yX6_pointOn 1 := by unfold mOK; exact ⟨by decide +kernel, by decide +kernel, by decide +kernel⟩
theorem kX6_97 {G : GE} {cc : ByteArray} {nL : Nat} {ret : Option FieldType} {R : Room} {pc : Nat} {lv : List OV} {st : List Value} {h : Mem} {Q : Option Value → Mem → Prop} {R2 : Room} {P : Int32 → Mem → Prop} {a0 : Value} (hM : Ct idsB G yX6_pointOn cX6_pointOn 4 (some .int) R2 [.ref (ad G 100), a0] h (Qi P)) (hR : rOK R R2 4) (hw : (st.map fun v => v.category).sum ≤ 8) (hd : decode cc pc = .ok (.invokevirtual 97, 3)) (k : ∀ r h', P r h' → V idsB G RX6 cc nL ret R (pc + 3) lv (.int r :: st) h' Q) : V idsB G RX6 cc nL ret R pc lv (a0 :: .ref (ad G 100) :: st) h Q :=
  V_callV (rest := st) (av := [a0]) hM ml_X6_97 imX6_pointOn seX6_pointOn in_X6 coX6_pointOn okX6_pointOn hR (by decide) rfl rfl rfl hw hd (fun v h' hq => by obtain ⟨r, rfl, hp⟩ := hq; exact k r h' hp)
theorem okX6_go : mOK yX6_go 2 := by unfold mOK; exact ⟨by decide +kernel, by decide +kernel, by decide +kernel⟩
theorem kX6_105 {G : GE} {cc : ByteArray} {nL : Nat} {ret : Option FieldType} {R : Room} {pc : Nat} {lv : List OV} {st : List Value} {h : Mem} {Q : Option Value → Mem → Prop} {R2 : Room} {P : Int32 → Mem → Prop} {a0 a1 : Value} (hM : Ct idsB G yX6_go cX6_go 4 (some .int) R2 [a0, a1] h (Qi P)) (hR : rOK R R2 4) (hw : (st.map fun v => v.category).sum ≤ 8) (hd : decode cc pc = .ok (.invokestatic 105, 3)) (k : ∀ r h', P r h' → V idsB G RX6 cc nL ret R (pc + 3) lv (.int r :: st) h' Q) : V idsB G RX6 cc nL ret R pc lv (a1 :: a0 :: st) h Q :=
  V_callS (rest := st) (av := [a0, a1]) hM ml_X6_105 smX6_go in_X6 coX6_go okX6_go hR rfl hw hd (fun v h' hq => by obtain ⟨r, rfl, hp⟩ := hq; exact k r h' hp)
theorem okX6_side : mOK yX6_side 2 := by unfold mOK; exact ⟨by decide +kernel, by decide +kernel, by decide +kernel⟩
theorem kX6_109 {G : GE} {cc : ByteArray} {nL : Nat} {ret : Option FieldType} {R : Room} {pc : Nat} {lv : List OV} {st : List Value} {h : Mem} {Q : Option Value → Mem → Prop} {R2 : Room} {P : Int32 → Mem → Prop} {a0 a1 : Value} (hM : Ct idsB G yX6_side cX6_side 4 (some .int) R2 [a0, a1] h (Qi P)) (hR : rOK R R2 4) (hw : (st.map fun v => v.category).sum ≤ 8) (hd : decode cc pc = .ok (.invokestatic 109, 3)) (k : ∀ r h', P r h' → V idsB G RX6 cc nL ret R (pc + 3) lv (.int r :: st) h' Q) : V idsB G RX6 cc nL ret R pc lv (a1 :: a0 :: st) h Q :=
  V_callS (rest := st) (av := [a0, a1]) hM ml_X6_109 smX6_side in_X6 coX6_side okX6_side hR rfl hw hd (fun v h' hq => by obtain ⟨r, rfl, hp⟩ := hq; exact k r h' hp)
theorem okX6_widthOf : mOK yX6_widthOf 1 := by unfold mOK; exact ⟨by decide +kernel, by decide +kernel, by decide +kernel⟩
theorem kX6_112 {G : GE} {cc : ByteArray} {nL : Nat} {ret : Option FieldType} {R : Room} {pc : Nat} {lv : List OV} {st : List Value} {h : Mem} {Q : Option Value → Mem → Prop} {R2 : Room} {P : Int32 → Mem → Prop} {a0 : Value} (hM : Ct idsB G yX6_widthOf cX6_widthOf 4 (some .int) R2 [.ref (ad G 100), a0] h (Qi P)) (hR : rOK R R2 4) (hw : (st.map fun v => v.category).sum ≤ 8) (hd : decode cc pc = .ok (.invokevirtual 112, 3)) (k : ∀ r h', P r h' → V idsB G RX6 cc nL ret R (pc + 3) lv (.int r :: st) h' Q) : V idsB G RX6 cc nL ret R pc lv (a0 :: .ref (ad G 100) :: st) h Q :=
  V_callV (rest := st) (av := [a0]) hM ml_X6_112 imX6_widthOf seX6_widthOf in_X6 coX6_widthOf okX6_widthOf hR (by decide) rfl rfl rfl hw hd (fun v h' hq => by obtain ⟨r, rfl, hp⟩ := hq; exact k r h' hp)
theorem okX6_isOfWay : mOK yX6_isOfWay 1 := by unfold mOK; exact ⟨by decide +kernel, by decide +kernel, by decide +kernel⟩
theorem kX6_115 {G : GE} {cc : ByteArray} {nL : Nat} {ret : Option FieldType} {R : Room} {pc : Nat} {lv : List OV} {st : List Value} {h : Mem} {Q : Option Value → Mem → Prop} {R2 : Room} {P : Int32 → Mem → Prop} {a0 : Value} (hM : Ct idsB G yX6_isOfWay cX6_isOfWay 4 (some .boolean) R2 [.ref (ad G 100), a0] h (Qi P)) (hR : rOK R R2 4) (hw : (st.map fun v => v.category).sum ≤ 8) (hd : decode cc pc = .ok (.invokevirtual 115, 3)) (k : ∀ r h', P r h' → V idsB G RX6 cc nL ret R (pc + 3) lv (.int r :: st) h' Q) : V idsB G RX6 cc nL ret R pc lv (a0 :: .ref (ad G 100) :: st) h Q :=
  V_callV (rest := st) (av := [a0]) hM ml_X6_115 imX6_isOfWay seX6_isOfWay in_X6 coX6_isOfWay okX6_isOfWay hR (by decide) rfl rfl rfl hw hd (fun v h' hq => by obtain ⟨r, rfl, hp⟩ := hq; exact k r h' hp)
theorem okX6_isPoint : mOK yX6_isPoint 1 := by unfold mOK; exact ⟨by decide +kernel, by decide +kernel, by decide +kernel⟩
theorem kX6_118 {G : GE} {cc : ByteArray} {nL : Nat} {ret : Option FieldType} {R : Room} {pc : Nat} {lv : List OV} {st : List Value} {h : Mem} {Q : Option Value → Mem → Prop} {R2 : Room} {P : Int32 → Mem → Prop} {a0 : Value} (hM : Ct idsB G yX6_isPoint cX6_isPoint 2 (some .boolean) R2 [.ref (ad G 100), a0] h (Qi P)) (hR : rOK R R2 2) (hw : (st.map fun v => v.category).sum ≤ 8) (hd : decode cc pc = .ok (.invokevirtual 118, 3)) (k : ∀ r h', P r h' → V idsB G RX6 cc nL ret R (pc + 3) lv (.int r :: st) h' Q) : V idsB G RX6 cc nL ret R pc lv (a0 :: .ref (ad G 100) :: st) h Q :=
  V_callV (rest := st) (av := [a0]) hM ml_X6_118 imX6_isPoint seX6_isPoint in_X6 coX6_isPoint okX6_isPoint hR (by decide) rfl rfl rfl hw hd (fun v h' hq => by obtain ⟨r, rfl, hp⟩ := hq; exact k r h' hp)
theorem okX6_costOf : mOK yX6_costOf 1 := by unfold mOK; exact ⟨by decide +kernel, by decide +kernel, by decide +kernel⟩
theorem kX6_125 {G : GE} {cc : ByteArray} {nL : Nat} {ret : Option FieldType} {R : Room} {pc : Nat} {lv : List OV} {st : List Value} {h : Mem} {Q : Option Value → Mem → Prop} {R2 : Room} {P : Int32 → Mem → Prop} {a0 : Value} (hM : Ct idsB G yX6_costOf cX6_costOf 3 (some .int) R2 [.ref (ad G 100), a0] h (Qi P)) (hR : rOK R R2 3) (hw : (st.map fun v => v.category).sum ≤ 8) (hd : decode cc pc = .ok (.invokevirtual 125, 3)) (k : ∀ r h', P r h' → V idsB G RX6 cc nL ret R (pc + 3) lv (.int r :: st) h' Q) : V idsB G RX6 cc nL ret R pc lv (a0 :: .ref (ad G 100) :: st) h Q :=
  V_callV (rest := st) (av := [a0]) hM ml_X6_125 imX6_costOf seX6_costOf in_X6 coX6_costOf okX6_costOf hR (by decide) rfl rfl rfl hw hd (fun v h' hq => by obtain ⟨r, rfl, hp⟩ := hq; exact k r h' hp)
theorem okX6_isLine : mOK yX6_isLine 1 := by unfold mOK; exact ⟨by decide +kernel, by decide +kernel, by decide +kernel⟩
theorem kX6_128 {G : GE} {cc : ByteArray} {nL : Nat} {ret : Option FieldType} {R : Room} {pc : Nat} {lv : List OV} {st : List Value} {h : Mem} {Q : Option Value → Mem → Prop} {R2 : Room} {P : Int32 → Mem → Prop} {a0 : Value} (hM : Ct idsB G yX6_isLine cX6_isLine 2 (some .boolean) R2 [.ref (ad G 100), a0] h (Qi P)) (hR : rOK R R2 2) (hw : (st.map fun v => v.category).sum ≤ 8) (hd : decode cc pc = .ok (.invokevirtual 128, 3)) (k : ∀ r h', P r h' → V idsB G RX6 cc nL ret R (pc + 3) lv (.int r :: st) h' Q) : V idsB G RX6 cc nL ret R pc lv (a0 :: .ref (ad G 100) :: st) h Q :=
  V_callV (rest := st) (av := [a0]) hM ml_X6_128 imX6_isLine seX6_isLine in_X6 coX6_isLine okX6_isLine hR (by decide) rfl rfl rfl hw hd (fun v h' hq => by obtain ⟨r, rfl, hp⟩ := hq; exact k r h' hp)
theorem okX6_wipe : mOK yX6_wipe 1 := by unfold mOK; exact ⟨by decide +kernel, by decide +kernel, by decide +kernel⟩
theorem kX6_131 {G : GE} {cc : ByteArray} {nL : Nat} {ret : Option FieldType} {R : Room} {pc : Nat} {lv : List OV} {st : List Value} {h : Mem} {Q : Option Value → Mem → Prop} {R2 : Room} {P : Mem → Prop} {a0 : Value} (hM : Ct idsB G yX6_wipe cX6_wipe 3 none R2 [.ref (ad G 100), a0] h (Qv P)) (hR : rOK R R2 3) (hw : (st.map fun v => v.category).sum ≤ 8) (hd : decode cc pc = .ok (.invokevirtual 131, 3)) (k : ∀ h', P h' → V idsB G RX6 cc nL ret R (pc + 3) lv st h' Q) : V idsB G RX6 cc nL ret R pc lv (a0 :: .ref (ad G 100) :: st) h Q :=
  V_callV (rest := st) (av := [a0]) hM ml_X6_131 imX6_wipe seX6_wipe in_X6 coX6_wipe okX6_wipe hR (by decide) rfl rfl rfl hw hd (fun v h' hq => by obtain ⟨rfl, hp⟩ := hq; exact k h' hp)
theorem okX6_find : mOK yX6_find 1 := by unfold mOK; exact ⟨by decide +kernel, by decide +kernel, by decide +kernel⟩
theorem kX6_135 {G : GE} {cc : ByteArray} {nL : Nat} {ret : Option FieldType} {R : Room} {pc : Nat} {lv : List OV} {st : List Value} {h : Mem} {Q : Option Value → Mem → Prop} {R2 : Room} {P : Int32 → Mem → Prop} {a0 : Value} (hM : Ct idsB G yX6_find cX6_find 8 (some .boolean) R2 [.ref (ad G 100), a0] h (Qi P)) (hR : rOK R R2 8) (hw : (st.map fun v => v.category).sum ≤ 8) (hd : decode cc pc = .ok (.invokevirtual 135, 3)) (k : ∀ r h', P r h' → V idsB G RX6 cc nL ret R (pc + 3) lv (.int r :: st) h' Q) : V idsB G RX6 cc nL ret R pc lv (a0 :: .ref (ad G 100) :: st) h Q :=
  V_callV (rest := st) (av := [a0]) hM ml_X6_135 imX6_find seX6_find in_X6 coX6_find okX6_find hR (by decide) rfl rfl rfl hw hd (fun v h' hq => by obtain ⟨r, rfl, hp⟩ := hq; exact k r h' hp)
theorem okX6_follow : mOK yX6_follow 1 := by unfold mOK; exact ⟨by decide +kernel, by decide +kernel, by decide +kernel⟩
theorem kX6_138 {G : GE} {cc : ByteArray} {nL : Nat} {ret : Option FieldType} {R : Room} {pc : Nat} {lv : List OV} {st : List Value} {h : Mem} {Q : Option Value → Mem → Prop} {R2 : Room} {P : Mem → Prop} {a0 : Value} (hM : Ct idsB G yX6_follow cX6_follow 7 none R2 [.ref (ad G 100), a0] h (Qv P)) (hR : rOK R R2 7) (hw : (st.map fun v => v.category).sum ≤ 8) (hd : decode cc pc = .ok (.invokevirtual 138, 3)) (k : ∀ h', P h' → V idsB G RX6 cc nL ret R (pc + 3) lv st h' Q) : V idsB G RX6 cc nL ret R pc lv (a0 :: .ref (ad G 100) :: st) h Q :=
  V_callV (rest := st) (av := [a0]) hM ml_X6_138 imX6_follow seX6_follow in_X6 coX6_follow okX6_follow hR (by decide) rfl rfl rfl hw hd (fun v h' hq => by obtain ⟨rfl, hp⟩ := hq; exact k h' hp)
theorem okX6_ownCost : mOK yX6_ownCost 1 := by unfold mOK; exact ⟨by decide +kernel, by decide +kernel, by decide +kernel⟩
theorem kX6_145 {G : GE} {cc : ByteArray} {nL : Nat} {ret : Option FieldType} {R : Room} {pc : Nat} {lv : List OV} {st : List Value} {h : Mem} {Q : Option Value → Mem → Prop} {R2 : Room} {P : Int32 → Mem → Prop} {a0 : Value} (hM : Ct idsB G yX6_ownCost cX6_ownCost 4 (some .int) R2 [.ref (ad G 100), a0] h (Qi P)) (hR : rOK R R2 4) (hw : (st.map fun v => v.category).sum ≤ 8) (hd : decode cc pc = .ok (.invokevirtual 145, 3)) (k : ∀ r h', P r h' → V idsB G RX6 cc nL ret R (pc + 3) lv (.int r :: st) h' Q) : V idsB G RX6 cc nL ret R pc lv (a0 :: .ref (ad G 100) :: st) h Q :=
  V_callV (rest := st) (av := [a0]) hM ml_X6_145 imX6_ownCost seX6_ownCost in_X6 coX6_ownCost okX6_ownCost hR (by decide) rfl rfl rfl hw hd (fun v h' hq => by obtain ⟨r, rfl, hp⟩ := hq; exact k r h' hp)
theorem okX6_passed : mOK yX6_passed 0 := by unfold mOK; exact ⟨by decide +kernel, by decide +kernel, by decide +kernel⟩
theorem kX6_148 {G : GE} {cc : ByteArray} {nL : Nat} {ret : Option FieldType} {R : Room} {pc : Nat} {lv : List OV} {st : List Value} {h : Mem} {Q : Option Value → Mem → Prop} {R2 : Room} {P : Int32 → Mem → Prop} (hM : Ct idsB G yX6_passed cX6_passed 8 (some .int) R2 [.ref (ad G 100)] h (Qi P)) (hR : rOK R R2 8) (hw : (st.map fun v => v.category).sum ≤ 8) (hd : decode cc pc = .ok (.invokevirtual 148, 3)) (k : ∀ r h', P r h' → V idsB G RX6 cc nL ret R (pc + 3) lv (.int r :: st) h' Q) : V idsB G RX6 cc nL ret R pc lv (.ref (ad G 100) :: st) h Q :=
  V_callV (rest := st) (av := []) hM ml_X6_148 imX6_passed seX6_passed in_X6 coX6_passed okX6_passed hR (by decide) rfl rfl rfl hw hd (fun v h' hq => by obtain ⟨r, rfl, hp⟩ := hq; exact k r h' hp)
theorem okX6_at : mOK yX6_at 2 := by unfold mOK; exact ⟨by decide +kernel, by decide +kernel, by decide +kernel⟩
theorem kX6_154 {G : GE} {cc : ByteArray} {nL : Nat} {ret : Option FieldType} {R : Room} {pc : Nat} {lv : List OV} {st : List Value} {h : Mem} {Q : Option Value → Mem → Prop} {R2 : Room} {P : Int32 → Mem → Prop} {a0 a1 : Value} (hM : Ct idsB G yX6_at cX6_at 5 (some .int) R2 [.ref (ad G 100), a0, a1] h (Qi P)) (hR : rOK R R2 5) (hw : (st.map fun v => v.category).sum ≤ 8) (hd : decode cc pc = .ok (.invokevirtual 154, 3)) (k : ∀ r h', P r h' → V idsB G RX6 cc nL ret R (pc + 3) lv (.int r :: st) h' Q) : V idsB G RX6 cc nL ret R pc lv (a1 :: a0 :: .ref (ad G 100) :: st) h Q :=
  V_callV (rest := st) (av := [a0, a1]) hM ml_X6_154 imX6_at seX6_at in_X6 coX6_at okX6_at hR (by decide) rfl rfl rfl hw hd (fun v h' hq => by obtain ⟨r, rfl, hp⟩ := hq; exact k r h' hp)
theorem okX6_size : mOK yX6_size 1 := by unfold mOK; exact ⟨by decide +kernel, by decide +kernel, by decide +kernel⟩
theorem kX6_157 {G : GE} {cc : ByteArray} {nL : Nat} {ret : Option FieldType} {R : Room} {pc : Nat} {lv : List OV} {st : List Value} {h : Mem} {Q : Option Value → Mem → Prop} {R2 : Room} {P : Int32 → Mem → Prop} {a0 : Value} (hM : Ct idsB G yX6_size cX6_size 1 (some .int) R2 [a0] h (Qi P)) (hR : rOK R R2 1) (hw : (st.map fun v => v.category).sum ≤ 8) (hd : decode cc pc = .ok (.invokestatic 157, 3)) (k : ∀ r h', P r h' → V idsB G RX6 cc nL ret R (pc + 3) lv (.int r :: st) h' Q) : V idsB G RX6 cc nL ret R pc lv (a0 :: st) h Q :=
  V_callS (rest := st) (av := [a0]) hM ml_X6_157 smX6_size in_X6 coX6_size okX6_size hR rfl hw hd (fun v h' hq => by obtain ⟨r, rfl, hp⟩ := hq; exact k r h' hp)
theorem okX6_detourOf : mOK yX6_detourOf 1 := by unfold mOK; exact ⟨by decide +kernel, by decide +kernel, by decide +kernel⟩
theorem kX6_160 {G : GE} {cc : ByteArray} {nL : Nat} {ret : Option FieldType} {R : Room} {pc : Nat} {lv : List OV} {st : List Value} {h : Mem} {Q : Option Value → Mem → Prop} {R2 : Room} {P : Int32 → Mem → Prop} {a0 : Value} (hM : Ct idsB G yX6_detourOf cX6_detourOf 4 (some .int) R2 [.ref (ad G 100), a0] h (Qi P)) (hR : rOK R R2 4) (hw : (st.map fun v => v.category).sum ≤ 8) (hd : decode cc pc = .ok (.invokevirtual 160, 3)) (k : ∀ r h', P r h' → V idsB G RX6 cc nL ret R (pc + 3) lv (.int r :: st) h' Q) : V idsB G RX6 cc nL ret R pc lv (a0 :: .ref (ad G 100) :: st) h Q :=
  V_callV (rest := st) (av := [a0]) hM ml_X6_160 imX6_detourOf seX6_detourOf in_X6 coX6_detourOf okX6_detourOf hR (by decide) rfl rfl rfl hw hd (fun v h' hq => by obtain ⟨r, rfl, hp⟩ := hq; exact k r h' hp)
theorem okX6_sharedBy : mOK yX6_sharedBy 2 := by unfold mOK; exact ⟨by decide +kernel, by decide +kernel, by decide +kernel⟩
theorem kX6_163 {G : GE} {cc : ByteArray} {nL : Nat} {ret : Option FieldType} {R : Room} {pc : Nat} {lv : List OV} {st : List Value} {h : Mem} {Q : Option Value → Mem → Prop} {R2 : Room} {P : Int32 → Mem → Prop} {a0 a1 : Value} (hM : Ct idsB G yX6_sharedBy cX6_sharedBy 5 (some .int) R2 [.ref (ad G 100), a0, a1] h (Qi P)) (hR : rOK R R2 5) (hw : (st.map fun v => v.category).sum ≤ 8) (hd : decode cc pc = .ok (.invokevirtual 163, 3)) (k : ∀ r h', P r h' → V idsB G RX6 cc nL ret R (pc + 3) lv (.int r :: st) h' Q) : V idsB G RX6 cc nL ret R pc lv (a1 :: a0 :: .ref (ad G 100) :: st) h Q :=
  V_callV (rest := st) (av := [a0, a1]) hM ml_X6_163 imX6_sharedBy seX6_sharedBy in_X6 coX6_sharedBy okX6_sharedBy hR (by decide) rfl rfl rfl hw hd (fun v h' hq => by obtain ⟨r, rfl, hp⟩ := hq; exact k r h' hp)
theorem okX6_fits : mOK yX6_fits 1 := by unfold mOK; exact ⟨by decide +kernel, by decide +kernel, by decide +kernel⟩
theorem kX6_166 {G : GE} {cc : ByteArray} {nL : Nat} {ret : Option FieldType} {R : Room} {pc : Nat} {lv : List OV} {st : List Value} {h : Mem} {Q : Option Value → Mem → Prop} {R2 : Room} {P : Int32 → Mem → Prop} {a0 : Value} (hM : Ct idsB G yX6_fits cX6_fits 4 (some .boolean) R2 [.ref (ad G 100), a0] h (Qi P)) (hR : rOK R R2 4) (hw : (st.map fun v => v.category).sum ≤ 8) (hd : decode cc pc = .ok (.invokevirtual 166, 3)) (k : ∀ r h', P r h' → V idsB G RX6 cc nL ret R (pc + 3) lv (.int r :: st) h' Q) : V idsB G RX6 cc nL ret R pc lv (a0 :: .ref (ad G 100) :: st) h Q :=
  V_callV (rest := st) (av := [a0]) hM ml_X6_166 imX6_fits seX6_fits in_X6 coX6_fits okX6_fits hR (by decide) rfl rfl rfl hw hd (fun v h' hq => by obtain ⟨r, rfl, hp⟩ := hq; exact k r h' hp)
theorem okX6_ways : mOK yX6_ways 0 := by unfold mOK; exact ⟨by decide +kernel, by decide +kernel, by decide +kernel⟩
theorem kX6_169 {G : GE} {cc : ByteArray} {nL : Nat} {ret : Option FieldType} {R : Room} {pc : Nat} {lv : List OV} {st : List Value} {h : Mem} {Q : Option Value → Mem → Prop} {R2 : Room} {P : Int32 → Mem → Prop} (hM : Ct idsB G yX6_ways cX6_ways 3 (some .int) R2 [.ref (ad G 100)] h (Qi P)) (hR : rOK R R2 3) (hw : (st.map fun v => v.category).sum ≤ 8) (hd : decode cc pc = .ok (.invokevirtual 169, 3)) (k : ∀ r h', P r h' → V idsB G RX6 cc nL ret R (pc + 3) lv (.int r :: st) h' Q) : V idsB G RX6 cc nL ret R pc lv (.ref (ad G 100) :: st) h Q :=
  V_callV (rest := st) (av := []) hM ml_X6_169 imX6_ways seX6_ways in_X6 coX6_ways okX6_ways hR (by decide) rfl rfl rfl hw hd (fun v h' hq => by obtain ⟨r, rfl, hp⟩ := hq; exact k r h' hp)
theorem okX6_tints : mOK yX6_tints 1 := by unfold mOK; exact ⟨by decide +kernel, by decide +kernel, by decide +kernel⟩
theorem kX6_172 {G : GE} {cc : ByteArray} {nL : Nat} {ret : Option FieldType} {R : Room} {pc : Nat} {lv : List OV} {st : List Value} {h : Mem} {Q : Option Value → Mem → Prop} {R2 : Room} {P : Int32 → Mem → Prop} {a0 : Value} (hM : Ct idsB G yX6_tints cX6_tints 5 (some .boolean) R2 [.ref (ad G 100), a0] h (Qi P)) (hR : rOK R R2 5) (hw : (st.map fun v => v.category).sum ≤ 8) (hd : decode cc pc = .ok (.invokevirtual 172, 3)) (k : ∀ r h', P r h' → V idsB G RX6 cc nL ret R (pc + 3) lv (.int r :: st) h' Q) : V idsB G RX6 cc nL ret R pc lv (a0 :: .ref (ad G 100) :: st) h Q :=
  V_callV (rest := st) (av := [a0]) hM ml_X6_172 imX6_tints seX6_tints in_X6 coX6_tints okX6_tints hR (by decide) rfl rfl rfl hw hd (fun v h' hq => by obtain ⟨r, rfl, hp⟩ := hq; exact k r h' hp)
theorem okX6_isWide : mOK yX6_isWide 2 := by unfold mOK; exact ⟨by decide +kernel, by decide +kernel, by decide +kernel⟩
theorem kX6_175 {G : GE} {cc : ByteArray} {nL : Nat} {ret : Option FieldType} {R : Room} {pc : Nat} {lv : List OV} {st : List Value} {h : Mem} {Q : Option Value → Mem → Prop} {R2 : Room} {P : Int32 → Mem → Prop} {a0 a1 : Value} (hM : Ct idsB G yX6_isWide cX6_isWide 3 (some .boolean) R2 [.ref (ad G 100), a0, a1] h (Qi P)) (hR : rOK R R2 3) (hw : (st.map fun v => v.category).sum ≤ 8) (hd : decode cc pc = .ok (.invokevirtual 175, 3)) (k : ∀ r h', P r h' → V idsB G RX6 cc nL ret R (pc + 3) lv (.int r :: st) h' Q) : V idsB G RX6 cc nL ret R pc lv (a1 :: a0 :: .ref (ad G 100) :: st) h Q :=
  V_callV (rest := st) (av := [a0, a1]) hM ml_X6_175 imX6_isWide seX6_isWide in_X6 coX6_isWide okX6_isWide hR (by decide) rfl rfl rfl hw hd (fun v h' hq => by obtain ⟨r, rfl, hp⟩ := hq; exact k r h' hp)
theorem okX6_isEnd : mOK yX6_isEnd 1 := by unfold mOK; exact ⟨by decide +kernel, by decide +kernel, by decide +kernel⟩
theorem kX6_178 {G : GE} {cc : ByteArray} {nL : Nat} {ret : Option FieldType} {R : Room} {pc : Nat} {lv : List OV} {st : List Value} {h : Mem} {Q : Option Value → Mem → Prop} {R2 : Room} {P : Int32 → Mem → Prop} {a0 : Value} (hM : Ct idsB G yX6_isEnd cX6_isEnd 4 (some .boolean) R2 [.ref (ad G 100), a0] h (Qi P)) (hR : rOK R R2 4) (hw : (st.map fun v => v.category).sum ≤ 8) (hd : decode cc pc = .ok (.invokevirtual 178, 3)) (k : ∀ r h', P r h' → V idsB G RX6 cc nL ret R (pc + 3) lv (.int r :: st) h' Q) : V idsB G RX6 cc nL ret R pc lv (a0 :: .ref (ad G 100) :: st) h Q :=
  V_callV (rest := st) (av := [a0]) hM ml_X6_178 imX6_isEnd seX6_isEnd in_X6 coX6_isEnd okX6_isEnd hR (by decide) rfl rfl rfl hw hd (fun v h' hq => by obtain ⟨r, rfl, hp⟩ := hq; exact k r h' hp)
theorem okX6_sharing : mOK yX6_sharing 1 := by unfold mOK; exact ⟨by decide +kernel, by decide +kernel, by decide +kernel⟩
theorem kX6_181 {G : GE} {cc : ByteArray} {nL : Nat} {ret : Option FieldType} {R : Room} {pc : Nat} {lv : List OV} {st : List Value} {h : Mem} {Q : Option Value → Mem → Prop} {R2 : Room} {P : Int32 → Mem → Prop} {a0 : Value} (hM : Ct idsB G yX6_sharing cX6_sharing 4 (some .int) R2 [.ref (ad G 100), a0] h (Qi P)) (hR : rOK R R2 4) (hw : (st.map fun v => v.category).sum ≤ 8) (hd : decode cc pc = .ok (.invokevirtual 181, 3)) (k : ∀ r h', P r h' → V idsB G RX6 cc nL ret R (pc + 3) lv (.int r :: st) h' Q) : V idsB G RX6 cc nL ret R pc lv (a0 :: .ref (ad G 100) :: st) h Q :=
  V_callV (rest := st) (av := [a0]) hM ml_X6_181 imX6_sharing seX6_sharing in_X6 coX6_sharing okX6_sharing hR (by decide) rfl rfl rfl hw hd (fun v h' hq => by obtain ⟨r, rfl, hp⟩ := hq; exact k r h' hp)
theorem okX6_kindOf : mOK yX6_kindOf 1 := by unfold mOK; exact ⟨by decide +kernel, by decide +kernel, by decide +kernel⟩
theorem kX6_184 {G : GE} {cc : ByteArray} {nL : Nat} {ret : Option FieldType} {R : Room} {pc : Nat} {lv : List OV} {st : List Value} {h : Mem} {Q : Option Value → Mem → Prop} {R2 : Room} {P : Int32 → Mem → Prop} {a0 : Value} (hM : Ct idsB G yX6_kindOf cX6_kindOf 3 (some .int) R2 [.ref (ad G 100), a0] h (Qi P)) (hR : rOK R R2 3) (hw : (st.map fun v => v.category).sum ≤ 8) (hd : decode cc pc = .ok (.invokevirtual 184, 3)) (k : ∀ r h', P r h' → V idsB G RX6 cc nL ret R (pc + 3) lv (.int r :: st) h' Q) : V idsB G RX6 cc nL ret R pc lv (a0 :: .ref (ad G 100) :: st) h Q :=
  V_callV (rest := st) (av := [a0]) hM ml_X6_184 imX6_kindOf seX6_kindOf in_X6 coX6_kindOf okX6_kindOf hR (by decide) rfl rfl rfl hw hd (fun v h' hq => by obtain ⟨r, rfl, hp⟩ := hq; exact k r h' hp)
theorem okX6_began : mOK yX6_began 1 := by unfold mOK; exact ⟨by decide +kernel, by decide +kernel, by decide +kernel⟩
theorem kX6_190 {G : GE} {cc : ByteArray} {nL : Nat} {ret : Option FieldType} {R : Room} {pc : Nat} {lv : List OV} {st : List Value} {h : Mem} {Q : Option Value → Mem → Prop} {R2 : Room} {P : Mem → Prop} {a0 : Value} (hM : Ct idsB G yX6_began cX6_began 2 none R2 [.ref (ad G 100), a0] h (Qv P)) (hR : rOK R R2 2) (hw : (st.map fun v => v.category).sum ≤ 8) (hd : decode cc pc = .ok (.invokevirtual 190, 3)) (k : ∀ h', P h' → V idsB G RX6 cc nL ret R (pc + 3) lv st h' Q) : V idsB G RX6 cc nL ret R pc lv (a0 :: .ref (ad G 100) :: st) h Q :=
  V_callV (rest := st) (av := [a0]) hM ml_X6_190 imX6_began seX6_began in_X6 coX6_began okX6_began hR (by decide) rfl rfl rfl hw hd (fun v h' hq => by obtain ⟨rfl, hp⟩ := hq; exact k h' hp)
theorem okX6_sized : mOK yX6_sized 1 := by unfold mOK; exact ⟨by decide +kernel, by decide +kernel, by decide +kernel⟩
theorem kX6_193 {G : GE} {cc : ByteArray} {nL : Nat} {ret : Option FieldType} {R : Room} {pc : Nat} {lv : List OV} {st : List Value} {h : Mem} {Q : Option Value → Mem → Prop} {R2 : Room} {P : Int32 → Mem → Prop} {a0 : Value} (hM : Ct idsB G yX6_sized cX6_sized 3 (some .int) R2 [.ref (ad G 100), a0] h (Qi P)) (hR : rOK R R2 3) (hw : (st.map fun v => v.category).sum ≤ 8) (hd : decode cc pc = .ok (.invokevirtual 193, 3)) (k : ∀ r h', P r h' → V idsB G RX6 cc nL ret R (pc + 3) lv (.int r :: st) h' Q) : V idsB G RX6 cc nL ret R pc lv (a0 :: .ref (ad G 100) :: st) h Q :=
  V_callV (rest := st) (av := [a0]) hM ml_X6_193 imX6_sized seX6_sized in_X6 coX6_sized okX6_sized hR (by decide) rfl rfl rfl hw hd (fun v h' hq => by obtain ⟨r, rfl, hp⟩ := hq; exact k r h' hp)
theorem okX6_marked : mOK yX6_marked 1 := by unfold mOK; exact ⟨by decide +kernel, by decide +kernel, by decide +kernel⟩
theorem kX6_196 {G : GE} {cc : ByteArray} {nL : Nat} {ret : Option FieldType} {R : Room} {pc : Nat} {lv : List OV} {st : List Value} {h : Mem} {Q : Option Value → Mem → Prop} {R2 : Room} {P : Int32 → Mem → Prop} {a0 : Value} (hM : Ct idsB G yX6_marked cX6_marked 4 (some .int) R2 [.ref (ad G 100), a0] h (Qi P)) (hR : rOK R R2 4) (hw : (st.map fun v => v.category).sum ≤ 8) (hd : decode cc pc = .ok (.invokevirtual 196, 3)) (k : ∀ r h', P r h' → V idsB G RX6 cc nL ret R (pc + 3) lv (.int r :: st) h' Q) : V idsB G RX6 cc nL ret R pc lv (a0 :: .ref (ad G 100) :: st) h Q :=
  V_callV (rest := st) (av := [a0]) hM ml_X6_196 imX6_marked seX6_marked in_X6 coX6_marked okX6_marked hR (by decide) rfl rfl rfl hw hd (fun v h' hq => by obtain ⟨r, rfl, hp⟩ := hq; exact k r h' hp)
end
section
def lvE : List Value → List OV
  | [] => []
  | v :: vs => if v.category = 2 then some v :: none :: lvE vs else some v :: lvE vs
theorem lvE_at : ∀ (av : List Value) (k i0 i : Nat) (v : Value), (lvE av ++ List.replicate k none)[i]? = some (some v) → (i0 + i, v) ∈ lv_args i0 av
  | [], k, i0, i, v, h => by
    simp only [lvE, List.nil_append, List.getElem?_replicate] at h
    split at h <;> cases h
  | a :: as, k, i0, i, v, h => by
    by_cases hc : a.category = 2
    · simp only [lvE, hc, if_true, List.cons_append] at h
      match i, h with
      | 0, h => cases h; exact List.mem_cons_self
      | 1, h => cases h
      | i + 2, h =>
        have := lvE_at as k (i0 + 2) i v h
        simp only [lv_args, hc, if_true]
        exact List.mem_cons_of_mem _ (by rwa [show i0 + (i + 2) = i0 + 2 + i by omega])
    · simp only [lvE, hc, if_false, List.cons_append] at h
      match i, h with
      | 0, h => cases h; exact List.mem_cons_self
      | i + 1, h =>
        have := lvE_at as k (i0 + 1) i v h
        simp only [lv_args, hc, if_false]
        exact List.mem_cons_of_mem _ (by rwa [show i0 + (i + 1) = i0 + 1 + i by omega])
theorem lvE_ok {lv : List OV} {av : List Value} (k : Nat) (e : lv = lvE av ++ List.replicate k none) (i : Nat) (v : Value) (h : lv[i]? = some (some v)) : (i, v) ∈ lv_args 0 av := by
  have := lvE_at av k 0 i v (e ▸ h)
  rwa [Nat.zero_add] at this
section VI
variable {ids : List Nat} {G : GE} {own : String} {cc : ByteArray} {nL : Nat} {ret : Option FieldType} {R : Room} {pc : Nat} {st : List Value} {h : Mem} {Q : Option Value → Mem → Prop}
theorem V_iinc0_n {lr : List OV} {a : Nat} {n : Int} (d : Nat) (hd : decode cc pc = .ok (.iinc 0 n, 3)) (he : Int32.ofInt n = nI d) (hn : 0 < nL) (k : V ids G own cc nL ret R (pc + 3) (some (.int (nI (a + d))) :: lr) st h Q) : V ids G own cc nL ret R pc (some (.int (nI a)) :: lr) st h Q := V_iinc0 (nI d) hd he hn (by rw [nI_add]; exact k)
theorem V_iinc1_n {a0 : OV} {lr : List OV} {a : Nat} {n : Int} (d : Nat) (hd : decode cc pc = .ok (.iinc 1 n, 3)) (he : Int32.ofInt n = nI d) (hn : 1 < nL) (hp : okc a0 = true) (k : V ids G own cc nL ret R (pc + 3) (a0 :: some (.int (nI (a + d))) :: lr) st h Q) : V ids G own cc nL ret R pc (a0 :: some (.int (nI a)) :: lr) st h Q := V_iinc1 (nI d) hd he hn hp (by rw [nI_add]; exact k)
theorem V_iinc2_n {a0 a1 : OV} {lr : List OV} {a : Nat} {n : Int} (d : Nat) (hd : decode cc pc = .ok (.iinc 2 n, 3)) (he : Int32.ofInt n = nI d) (hn : 2 < nL) (hp : okc a1 = true) (k : V ids G own cc nL ret R (pc + 3) (a0 :: a1 :: some (.int (nI (a + d))) :: lr) st h Q) : V ids G own cc nL ret R pc (a0 :: a1 :: some (.int (nI a)) :: lr) st h Q := V_iinc2 (nI d) hd he hn hp (by rw [nI_add]; exact k)
theorem V_iinc3_n {a0 a1 a2 : OV} {lr : List OV} {a : Nat} {n : Int} (d : Nat) (hd : decode cc pc = .ok (.iinc 3 n, 3)) (he : Int32.ofInt n = nI d) (hn : 3 < nL) (hp : okc a2 = true) (k : V ids G own cc nL ret R (pc + 3) (a0 :: a1 :: a2 :: some (.int (nI (a + d))) :: lr) st h Q) : V ids G own cc nL ret R pc (a0 :: a1 :: a2 :: some (.int (nI a)) :: lr) st h Q := V_iinc3 (nI d) hd he hn hp (by rw [nI_add]; exact k)
theorem V_iinc4_n {a0 a1 a2 a3 : OV} {lr : List OV} {a : Nat} {n : Int} (d : Nat) (hd : decode cc pc = .ok (.iinc 4 n, 3)) (he : Int32.ofInt n = nI d) (hn : 4 < nL) (hp : okc a3 = true) (k : V ids G own cc nL ret R (pc + 3) (a0 :: a1 :: a2 :: a3 :: some (.int (nI (a + d))) :: lr) st h Q) : V ids G own cc nL ret R pc (a0 :: a1 :: a2 :: a3 :: some (.int (nI a)) :: lr) st h Q := V_iinc4 (nI d) hd he hn hp (by rw [nI_add]; exact k)
theorem V_iinc5_n {a0 a1 a2 a3 a4 : OV} {lr : List OV} {a : Nat} {n : Int} (d : Nat) (hd : decode cc pc = .ok (.iinc 5 n, 3)) (he : Int32.ofInt n = nI d) (hn : 5 < nL) (hp : okc a4 = true) (k : V ids G own cc nL ret R (pc + 3) (a0 :: a1 :: a2 :: a3 :: a4 :: some (.int (nI (a + d))) :: lr) st h Q) : V ids G own cc nL ret R pc (a0 :: a1 :: a2 :: a3 :: a4 :: some (.int (nI a)) :: lr) st h Q := V_iinc5 (nI d) hd he hn hp (by rw [nI_add]; exact k)
theorem V_iinc6_n {a0 a1 a2 a3 a4 a5 : OV} {lr : List OV} {a : Nat} {n : Int} (d : Nat) (hd : decode cc pc = .ok (.iinc 6 n, 3)) (he : Int32.ofInt n = nI d) (hn : 6 < nL) (hp : okc a5 = true) (k : V ids G own cc nL ret R (pc + 3) (a0 :: a1 :: a2 :: a3 :: a4 :: a5 :: some (.int (nI (a + d))) :: lr) st h Q) : V ids G own cc nL ret R pc (a0 :: a1 :: a2 :: a3 :: a4 :: a5 :: some (.int (nI a)) :: lr) st h Q := V_iinc6 (nI d) hd he hn hp (by rw [nI_add]; exact k)
theorem V_iinc7_n {a0 a1 a2 a3 a4 a5 a6 : OV} {lr : List OV} {a : Nat} {n : Int} (d : Nat) (hd : decode cc pc = .ok (.iinc 7 n, 3)) (he : Int32.ofInt n = nI d) (hn : 7 < nL) (hp : okc a6 = true) (k : V ids G own cc nL ret R (pc + 3) (a0 :: a1 :: a2 :: a3 :: a4 :: a5 :: a6 :: some (.int (nI (a + d))) :: lr) st h Q) : V ids G own cc nL ret R pc (a0 :: a1 :: a2 :: a3 :: a4 :: a5 :: a6 :: some (.int (nI a)) :: lr) st h Q := V_iinc7 (nI d) hd he hn hp (by rw [nI_add]; exact k)
theorem V_iinc8_n {a0 a1 a2 a3 a4 a5 a6 a7 : OV} {lr : List OV} {a : Nat} {n : Int} (d : Nat) (hd : decode cc pc = .ok (.iinc 8 n, 3)) (he : Int32.ofInt n = nI d) (hn : 8 < nL) (hp : okc a7 = true) (k : V ids G own cc nL ret R (pc + 3) (a0 :: a1 :: a2 :: a3 :: a4 :: a5 :: a6 :: a7 :: some (.int (nI (a + d))) :: lr) st h Q) : V ids G own cc nL ret R pc (a0 :: a1 :: a2 :: a3 :: a4 :: a5 :: a6 :: a7 :: some (.int (nI a)) :: lr) st h Q := V_iinc8 (nI d) hd he hn hp (by rw [nI_add]; exact k)
theorem V_iinc9_n {a0 a1 a2 a3 a4 a5 a6 a7 a8 : OV} {lr : List OV} {a : Nat} {n : Int} (d : Nat) (hd : decode cc pc = .ok (.iinc 9 n, 3)) (he : Int32.ofInt n = nI d) (hn : 9 < nL) (hp : okc a8 = true) (k : V ids G own cc nL ret R (pc + 3) (a0 :: a1 :: a2 :: a3 :: a4 :: a5 :: a6 :: a7 :: a8 :: some (.int (nI (a + d))) :: lr) st h Q) : V ids G own cc nL ret R pc (a0 :: a1 :: a2 :: a3 :: a4 :: a5 :: a6 :: a7 :: a8 :: some (.int (nI a)) :: lr) st h Q := V_iinc9 (nI d) hd he hn hp (by rw [nI_add]; exact k)
theorem V_iinc10_n {a0 a1 a2 a3 a4 a5 a6 a7 a8 a9 : OV} {lr : List OV} {a : Nat} {n : Int} (d : Nat) (hd : decode cc pc = .ok (.iinc 10 n, 3)) (he : Int32.ofInt n = nI d) (hn : 10 < nL) (hp : okc a9 = true) (k : V ids G own cc nL ret R (pc + 3) (a0 :: a1 :: a2 :: a3 :: a4 :: a5 :: a6 :: a7 :: a8 :: a9 :: some (.int (nI (a + d))) :: lr) st h Q) : V ids G own cc nL ret R pc (a0 :: a1 :: a2 :: a3 :: a4 :: a5 :: a6 :: a7 :: a8 :: a9 :: some (.int (nI a)) :: lr) st h Q := V_iinc10 (nI d) hd he hn hp (by rw [nI_add]; exact k)
theorem V_iinc11_n {a0 a1 a2 a3 a4 a5 a6 a7 a8 a9 a10 : OV} {lr : List OV} {a : Nat} {n : Int} (d : Nat) (hd : decode cc pc = .ok (.iinc 11 n, 3)) (he : Int32.ofInt n = nI d) (hn : 11 < nL) (hp : okc a10 = true) (k : V ids G own cc nL ret R (pc + 3) (a0 :: a1 :: a2 :: a3 :: a4 :: a5 :: a6 :: a7 :: a8 :: a9 :: a10 :: some (.int (nI (a + d))) :: lr) st h Q) : V ids G own cc nL ret R pc (a0 :: a1 :: a2 :: a3 :: a4 :: a5 :: a6 :: a7 :: a8 :: a9 :: a10 :: some (.int (nI a)) :: lr) st h Q := V_iinc11 (nI d) hd he hn hp (by rw [nI_add]; exact k)
theorem V_iinc12_n {a0 a1 a2 a3 a4 a5 a6 a7 a8 a9 a10 a11 : OV} {lr : List OV} {a : Nat} {n : Int} (d : Nat) (hd : decode cc pc = .ok (.iinc 12 n, 3)) (he : Int32.ofInt n = nI d) (hn : 12 < nL) (hp : okc a11 = true) (k : V ids G own cc nL ret R (pc + 3) (a0 :: a1 :: a2 :: a3 :: a4 :: a5 :: a6 :: a7 :: a8 :: a9 :: a10 :: a11 :: some (.int (nI (a + d))) :: lr) st h Q) : V ids G own cc nL ret R pc (a0 :: a1 :: a2 :: a3 :: a4 :: a5 :: a6 :: a7 :: a8 :: a9 :: a10 :: a11 :: some (.int (nI a)) :: lr) st h Q := V_iinc12 (nI d) hd he hn hp (by rw [nI_add]; exact k)
end VI
abbrev inR (x : Int32) (n : Nat) : Prop := 0 ≤ x ∧ x < nI n
theorem inR_iff {x : Int32} {n : Nat} (hn : n < 2 ^ 31) : inR x n ↔ ∃ j, j < n ∧ x = nI j := by
  constructor
  · rintro ⟨h0, h1⟩
    rcases pk_ix x hn with h | h | h
    · exact absurd h (Int32.not_lt.mpr h0)
    · exact absurd h1 (Int32.not_lt.mpr h)
    · exact h
  · rintro ⟨j, hj, rfl⟩
    exact ⟨nI_pos' (by omega), nI_lt hj hn⟩
theorem inR_nI {j n : Nat} (hj : j < n) (hn : n < 2 ^ 31) : inR (nI j) n := (inR_iff hn).mpr ⟨j, hj, rfl⟩
theorem i_nlt {x y : Int32} (h : ¬ x < y) : y ≤ x := Int32.not_lt.mp h
theorem i_nle {x y : Int32} (h : ¬ x ≤ y) : y < x := Int32.not_le.mp h
theorem i_lt_n {x y : Int32} (h : x < y) : ¬ y ≤ x := Int32.not_le.mpr h
theorem i_le_n {x y : Int32} (h : x ≤ y) : ¬ y < x := Int32.not_lt.mpr h
theorem bz_r0 {P : Prop} [Decidable P] (h : ¬ P) : nI 0 = bz P := by rw [bz_f h]; exact nI_0
theorem bz_r1 {P : Prop} [Decidable P] (h : P) : nI 1 = bz P := by rw [bz_t h]; decide
/-- the place one side away -/
def nb (p d : Nat) : Option Nat :=
  if d = 0 then (if 10 ≤ p then some (p - 10) else none) else if d = 1 then (if p % 10 < 9 then some (p + 1) else none) else if d = 2 then (if p < 90 then some (p + 10) else none) else (if 0 < p % 10 then some (p - 1) else none)
def oI (o : Option Nat) (v : Int32) : Int32 := match o with
  | some k => nI k
  | none => v
def sA (p q d : Nat) : Nat := min p q * 2 + d % 2
end
section
/-! plain facts on numbers and arrays, to paste: each family by itself; over the kit's rows on nI and upd -/
/-! ===== order of ints, in all its forms, and through longs ===== -/
theorem fa_lt (a b : Int32) : a < b ↔ a.toInt < b.toInt := Int32.lt_iff_toInt_lt
theorem fa_le (a b : Int32) : a ≤ b ↔ a.toInt ≤ b.toInt := Int32.le_iff_toInt_le
theorem fa_eq (a b : Int32) : a = b ↔ a.toInt = b.toInt := Int32.toInt_inj.symm
theorem fa_lt64 (a b : Int64) : a < b ↔ a.toInt < b.toInt := Int64.lt_iff_toInt_lt
theorem fa_le64 (a b : Int64) : a ≤ b ↔ a.toInt ≤ b.toInt := Int64.le_iff_toInt_le
theorem fa_eq64 (a b : Int64) : a = b ↔ a.toInt = b.toInt := Int64.toInt_inj.symm
/-- a comparison of two ints taken as longs -/
theorem fa_wide_lt (a b : Int32) : a.toInt64 < b.toInt64 ↔ a < b := by rw [fa_lt64, fa_lt, Int32.toInt_toInt64, Int32.toInt_toInt64]
theorem fa_wide_le (a b : Int32) : a.toInt64 ≤ b.toInt64 ↔ a ≤ b := by rw [fa_le64, fa_le, Int32.toInt_toInt64, Int32.toInt_toInt64]
theorem fa_wide_eq (a b : Int32) : a.toInt64 = b.toInt64 ↔ a = b := by rw [fa_eq64, fa_eq, Int32.toInt_toInt64, Int32.toInt_toInt64]
/-- one strict comparison gives all the others -/
theorem fa_of_lt {a b : Int32} (h : a < b) : a ≤ b ∧ ¬ b ≤ a ∧ ¬ b < a ∧ a ≠ b ∧ b ≠ a := by
  rw [fa_lt] at h
  refine ⟨?_, ?_, ?_, ?_, ?_⟩
  · rw [fa_le]; omega
  · rw [fa_le]; omega
  · rw [fa_lt]; omega
  · intro e; rw [fa_eq] at e; omega
  · intro e; rw [fa_eq] at e; omega
theorem fa_of_nlt {a b : Int32} (h : ¬ a < b) : b ≤ a := by
  rw [fa_lt] at h
  rw [fa_le]
  omega
theorem fa_of_nle {a b : Int32} (h : ¬ a ≤ b) : b < a := by
  rw [fa_le] at h
  rw [fa_lt]
  omega
theorem fa_le_ne {a b : Int32} (h : a ≤ b) (h2 : a ≠ b) : a < b := by
  rw [fa_le] at h
  rw [fa_lt]
  have h3 : a.toInt ≠ b.toInt := fun e => h2 ((fa_eq a b).mpr e)
  omega
theorem fa_three (a b : Int32) : a < b ∨ a = b ∨ b < a := by
  rw [fa_lt, fa_lt, fa_eq]
  omega
theorem fa_trans {a b c : Int32} (h : a < b) (h2 : b ≤ c) : a < c := by
  rw [fa_lt] at *
  rw [fa_le] at h2
  omega
/-! ===== small literals as numbers ===== -/
theorem fa_lit (n : Nat) : (OfNat.ofNat n : Int32) = nI n := rfl
theorem fa_litL (n : Nat) : (OfNat.ofNat n : Int64) = lN n := rfl
/-! ===== bits of a number: 'or', masks, one bit ===== -/
theorem fa_and (a b : Nat) : nI a &&& nI b = nI (a &&& b) := by
  apply Int32.toBitVec_inj.1
  show BitVec.ofNat 32 a &&& BitVec.ofNat 32 b = BitVec.ofNat 32 (a &&& b)
  apply BitVec.eq_of_getLsbD_eq
  intro i hi
  simp [hi]
theorem fa_or (a b : Nat) : nI a ||| nI b = nI (a ||| b) := by
  apply Int32.toBitVec_inj.1
  show BitVec.ofNat 32 a ||| BitVec.ofNat 32 b = BitVec.ofNat 32 (a ||| b)
  apply BitVec.eq_of_getLsbD_eq
  intro i hi
  simp [hi]
/-- a remainder by a power of two, as a mask -/
theorem fa_mask (n k : Nat) : nI n &&& nI (2 ^ k - 1) = nI (n % 2 ^ k) := by rw [fa_and, Nat.and_two_pow_sub_one_eq_mod]
/-- 'or' of a high part and a low one that don't meet is their sum -/
theorem fa_or_sum {a k : Nat} (b : Nat) (h : a < 2 ^ k) : nI (2 ^ k * b) ||| nI a = nI (2 ^ k * b + a) := by rw [fa_or, Nat.two_pow_add_eq_or_of_lt h]
/-- one bit, by 'and' with a power of two -/
theorem fa_bit {n j : Nat} (hj : j < 31) : nI n &&& nI (2 ^ j) = 0 ↔ n.testBit j = false := by
  have h2 : (2 : Nat) ^ j < 2 ^ 31 := Nat.pow_lt_pow_right (by decide) hj
  have hle : n &&& 2 ^ j ≤ 2 ^ j := Nat.and_le_right
  have e : n &&& 2 ^ j = 0 ↔ n.testBit j = false := by
    constructor
    · intro h
      have h1 : (n &&& 2 ^ j).testBit j = false := by rw [h]; simp
      rw [Nat.testBit_and] at h1
      first | simpa using h1 | simpa [Nat.testBit_two_pow_self] using h1 | simpa [Nat.testBit_two_pow] using h1
    · intro h
      apply Nat.eq_of_testBit_eq
      intro i
      rw [Nat.testBit_and]
      by_cases hi : j = i
      · subst hi; simp [h]
      · first | (simp [Nat.testBit_two_pow, hi]; done) | (simp [Nat.testBit_two_pow_of_ne hi]; done)
  rw [fa_and]
  constructor
  · intro h
    apply e.mp
    rcases Nat.eq_zero_or_pos (n &&& 2 ^ j) with z | z
    · exact z
    · exact absurd h (nI_ne0 z (Nat.lt_of_le_of_lt hle h2))
  · intro h
    rw [e.mpr h]; exact nI_0
/-- a remainder by a power of two of a number that isn't negative, as Java divides -/
theorem fa_rem {a k : Nat} (ha : a < 2 ^ 31) (hk : k < 31) : nI a - nI a / nI (2 ^ k) * nI (2 ^ k) = nI (a % 2 ^ k) := pk_rem ha (Nat.two_pow_pos k) (Nat.pow_lt_pow_right (by decide) hk)
/-! ===== cuts to a byte, a short ===== -/
theorem fa_byte_xor (x y : Int32) : (x ^^^ y).toInt8 = x.toInt8 ^^^ y.toInt8 := by
  apply Int8.toBitVec_inj.1
  apply BitVec.eq_of_getLsbD_eq
  intro i hi
  first | (simp [hi]; done) | (simp [hi, BitVec.getLsbD_setWidth, BitVec.getLsbD_signExtend]; done)
theorem fa_short_xor (x y : Int32) : (x ^^^ y).toInt16 = x.toInt16 ^^^ y.toInt16 := by
  apply Int16.toBitVec_inj.1
  apply BitVec.eq_of_getLsbD_eq
  intro i hi
  first | (simp [hi]; done) | (simp [hi, BitVec.getLsbD_setWidth, BitVec.getLsbD_signExtend]; done)
/-- the cut to a byte sees the low byte alone -/
theorem fa_byte_low (x : Int32) : (x &&& 255).toInt8 = x.toInt8 := by
  apply Int8.toBitVec_inj.1
  apply BitVec.eq_of_getLsbD_eq
  intro i hi
  have h2 : (255 : Int32).toBitVec.getLsbD i = true := by
    have : ∀ j : Fin 8, (255 : Int32).toBitVec.getLsbD j.val = true := by decide +kernel
    exact this ⟨i, hi⟩
  have h4 : (x &&& 255).toBitVec.getLsbD i = x.toBitVec.getLsbD i := by
    show (x.toBitVec &&& (255 : Int32).toBitVec).getLsbD i = _
    rw [BitVec.getLsbD_and, h2, Bool.and_true]
  have h3 : i < 32 := by omega
  first
    | (show (((x &&& 255).toBitVec).signExtend 8).getLsbD i = (x.toBitVec.signExtend 8).getLsbD i; rw [BitVec.getLsbD_signExtend, BitVec.getLsbD_signExtend, if_pos h3, if_pos h3, h4])
    | (show (((x &&& 255).toBitVec).setWidth 8).getLsbD i = (x.toBitVec.setWidth 8).getLsbD i; rw [BitVec.getLsbD_setWidth, BitVec.getLsbD_setWidth, h4])
    | (simp [hi, h3, h4]; done)
theorem fa_short_low (x : Int32) : (x &&& 65535).toInt16 = x.toInt16 := by
  apply Int16.toBitVec_inj.1
  apply BitVec.eq_of_getLsbD_eq
  intro i hi
  have h2 : (65535 : Int32).toBitVec.getLsbD i = true := by
    have : ∀ j : Fin 16, (65535 : Int32).toBitVec.getLsbD j.val = true := by decide +kernel
    exact this ⟨i, hi⟩
  have h4 : (x &&& 65535).toBitVec.getLsbD i = x.toBitVec.getLsbD i := by
    show (x.toBitVec &&& (65535 : Int32).toBitVec).getLsbD i = _
    rw [BitVec.getLsbD_and, h2, Bool.and_true]
  have h3 : i < 32 := by omega
  first
    | (show (((x &&& 65535).toBitVec).signExtend 16).getLsbD i = (x.toBitVec.signExtend 16).getLsbD i; rw [BitVec.getLsbD_signExtend, BitVec.getLsbD_signExtend, if_pos h3, if_pos h3, h4])
    | (show (((x &&& 65535).toBitVec).setWidth 16).getLsbD i = (x.toBitVec.setWidth 16).getLsbD i; rw [BitVec.getLsbD_setWidth, BitVec.getLsbD_setWidth, h4])
    | (simp [hi, h3, h4]; done)
/-- a small number is its own byte, its own short -/
theorem fa_byte_small {n : Nat} (h : n < 128) : (nI n).toInt8.toInt32 = nI n := by
  have : ∀ j : Fin 128, (nI j.val).toInt8.toInt32 = nI j.val := by decide +kernel
  exact this ⟨n, h⟩
/-! ===== absolute difference ===== -/
theorem fa_absdiff {a b : Nat} (ha : a < 2 ^ 31) (hb : b < 2 ^ 31) : (if nI a < nI b then nI b - nI a else nI a - nI b) = nI (if a < b then b - a else a - b) := by
  by_cases h : a < b
  · rw [if_pos (nI_lt h hb), if_pos h]
    exact pk_sub (Nat.le_of_lt h)
  · rw [if_neg (nI_nlt (Nat.le_of_not_lt h) ha), if_neg h]
    exact pk_sub (Nat.le_of_not_lt h)
/-! ===== an array behind i stores, a conditional store, a row copied ===== -/
/-- f where k < i, what stood there else -/
def fa_fill {α : Type} (f g : Nat → α) (i : Nat) : Nat → α := fun k => if k < i then f k else g k
theorem fa_fill_0 {α : Type} (f g : Nat → α) : fa_fill f g 0 = g := funext fun k => if_neg (Nat.not_lt_zero k)
theorem fa_fill_in {α : Type} {f g : Nat → α} {i k : Nat} (h : k < i) : fa_fill f g i k = f k := if_pos h
theorem fa_fill_out {α : Type} {f g : Nat → α} {i k : Nat} (h : i ≤ k) : fa_fill f g i k = g k := if_neg (Nat.not_lt.mpr h)
theorem fa_fill_succ (f g : Nat → Int32) (i : Nat) : upd (fa_fill f g i) i (f i) = fa_fill f g (i + 1) := by
  funext k
  by_cases e : k = i
  · subst e
    rw [pk_us]
    exact (if_pos (Nat.lt_succ_self k)).symm
  · rw [pk_un e]
    by_cases h : k < i
    · rw [fa_fill_in h, fa_fill_in (Nat.lt_succ_of_lt h)]
    · rw [fa_fill_out (Nat.le_of_not_lt h), fa_fill_out (by omega)]
/-- a store that changes nothing -/
theorem fa_upd_same {f : Nat → Int32} {i : Nat} {x : Int32} (h : f i = x) : upd f i x = f := by
  funext k
  by_cases e : k = i
  · subst e
    rw [pk_us, h]
  · rw [pk_un e]
/-- a store under a condition, told as one -/
theorem fa_upd_if (c : Prop) [Decidable c] (f : Nat → Int32) (i : Nat) (x : Int32) : (if c then upd f i x else f) = upd f i (if c then x else f i) := by
  by_cases h : c
  · rw [if_pos h, if_pos h]
  · rw [if_neg h, if_neg h, fa_upd_same rfl]
/-- two stores at one place, at two -/
theorem fa_upd_twice (f : Nat → Int32) (i : Nat) (x y : Int32) : upd (upd f i x) i y = upd f i y := by
  funext k
  by_cases e : k = i
  · subst e
    rw [pk_us, pk_us]
  · rw [pk_un e, pk_un e, pk_un e]
theorem fa_upd_swap (f : Nat → Int32) {i j : Nat} (h : i ≠ j) (x y : Int32) : upd (upd f i x) j y = upd (upd f j y) i x := by
  funext k
  by_cases e : k = i
  · subst e
    rw [pk_un h, pk_us, pk_us]
  · by_cases e2 : k = j
    · subst e2
      rw [pk_us, pk_un e, pk_us]
    · rw [pk_un e2, pk_un e, pk_un e, pk_un e2]
/-! ===== the first index with a property; a count ===== -/
/-- the first k < n with p k, n if there is none -/
def fa_first (p : Nat → Bool) : Nat → Nat
  | 0 => 0
  | n + 1 => if fa_first p n < n then fa_first p n else if p n then n else n + 1
theorem fa_first_le (p : Nat → Bool) : ∀ n, fa_first p n ≤ n
  | 0 => Nat.le_refl 0
  | n + 1 => by
    have ih := fa_first_le p n
    unfold fa_first
    split
    · omega
    · split
      · omega
      · omega
theorem fa_first_no (p : Nat → Bool) : ∀ n k, k < fa_first p n → p k = false
  | 0, k, h => absurd h (Nat.not_lt_zero k)
  | n + 1, k, h => by
    have ih := fa_first_no p n
    have hl := fa_first_le p n
    unfold fa_first at h
    split at h
    · exact ih k h
    · rename_i h1
      split at h
      · exact ih k (by omega)
      · rename_i h2
        by_cases e : k = n
        · subst e
          exact Bool.eq_false_iff.mpr h2
        · exact ih k (by omega)
theorem fa_first_yes (p : Nat → Bool) : ∀ n, fa_first p n < n → p (fa_first p n) = true
  | 0, h => absurd h (Nat.not_lt_zero _)
  | n + 1, h => by
    have ih := fa_first_yes p n
    have hl := fa_first_le p n
    unfold fa_first at h ⊢
    split at h
    · rename_i h1
      rw [if_pos h1]
      exact ih h1
    · rename_i h1
      rw [if_neg h1]
      split at h
      · rename_i h2
        rw [if_pos h2]
        exact h2
      · omega
/-- how many k < n have p k -/
def fa_cnt (p : Nat → Bool) : Nat → Nat
  | 0 => 0
  | n + 1 => fa_cnt p n + if p n then 1 else 0
theorem fa_cnt_le (p : Nat → Bool) : ∀ n, fa_cnt p n ≤ n
  | 0 => Nat.le_refl 0
  | n + 1 => by
    have ih := fa_cnt_le p n
    unfold fa_cnt
    split
    · omega
    · omega
theorem fa_cnt_yes {p : Nat → Bool} {n : Nat} (h : p n = true) : fa_cnt p (n + 1) = fa_cnt p n + 1 := by rw [fa_cnt, if_pos h]
theorem fa_cnt_no {p : Nat → Bool} {n : Nat} (h : p n = false) : fa_cnt p (n + 1) = fa_cnt p n := by rw [fa_cnt, if_neg (by rw [h]; decide)]; rfl
theorem fa_cnt_cong {p q : Nat → Bool} : ∀ {n : Nat}, (∀ k, k < n → p k = q k) → fa_cnt p n = fa_cnt q n
  | 0, _ => rfl
  | n + 1, h => by rw [fa_cnt, fa_cnt, fa_cnt_cong (fun k hk => h k (Nat.lt_succ_of_lt hk)), h n (Nat.lt_succ_self n)]
/-! ===== an answer carried into a post; a branch on a boolean answer ===== -/
theorem fa_post {α : Type} {P : α → Prop} {x y : α} (h : x = y) (hp : P y) : P x := h ▸ hp
theorem fa_post2 {α β : Type} {P : α → β → Prop} {x y : α} {u v : β} (h : x = y) (h2 : u = v) (hp : P y v) : P x u := h ▸ h2 ▸ hp
theorem fa_bool {r : Int32} {b : Bool} (h : r = if b then 1 else 0) : (r = 0 ↔ b = false) ∧ (¬ r = 0 ↔ b = true) := by
  subst h
  cases b
  · exact ⟨⟨fun _ => rfl, fun _ => rfl⟩, ⟨fun h => absurd rfl h, fun h => absurd h (by decide)⟩⟩
  · exact ⟨⟨fun h => absurd h (by decide), fun h => absurd h (by decide)⟩, ⟨fun _ => rfl, fun _ => by decide⟩⟩
/-- a boolean's narrowing changes nothing -/
theorem fa_bool_and {r : Int32} (h : r = 0 ∨ r = 1) : r &&& 1 = r := by
  rcases h with rfl | rfl
  · decide
  · decide
theorem fa_bool_prop {c : Prop} [Decidable c] {r : Int32} (h : r = if c then 1 else 0) : (r = 0 ↔ ¬ c) ∧ (¬ r = 0 ↔ c) := by
  subst h
  by_cases hc : c
  · rw [if_pos hc]
    exact ⟨⟨fun h => absurd h (by decide), fun h => absurd hc h⟩, ⟨fun _ => hc, fun _ => by decide⟩⟩
  · rw [if_neg hc]
    exact ⟨⟨fun _ => hc, fun _ => rfl⟩, ⟨fun h => absurd rfl h, fun h => absurd h hc⟩⟩
end
section
/-! plain facts to paste, each family by itself; over the kit's nI, lN and upd -/
/-! ===== drawers: more things than places ===== -/
theorem fb_holes : ∀ (m n : Nat) (f : Nat → Nat), (∀ i, i < n → f i < m) → (∀ i j, i < j → j < n → f i ≠ f j) → n ≤ m := by
  intro m
  induction m with
  | zero =>
    intro n f h1 _
    rcases Nat.eq_zero_or_pos n with h | h
    · omega
    · exact absurd (h1 0 h) (Nat.not_lt_zero _)
  | succ m ih =>
    intro n f h1 h2
    by_cases hx : ∃ i, i < n ∧ f i = m
    · obtain ⟨a, ha, hfa⟩ := hx
      have hg := ih (n - 1) (fun i => if i < a then f i else f (i + 1)) (by
        intro i hi
        by_cases q : i < a
        · simp only [if_pos q]
          have b1 := h1 i (by omega)
          have b2 := h2 i a q ha
          omega
        · simp only [if_neg q]
          have b1 := h1 (i + 1) (by omega)
          have b2 := h2 a (i + 1) (by omega) (by omega)
          omega) (by
        intro i j hij hj
        by_cases q : i < a
        · by_cases r : j < a
          · simp only [if_pos q, if_pos r]
            exact h2 i j hij (by omega)
          · simp only [if_pos q, if_neg r]
            exact h2 i (j + 1) (by omega) (by omega)
        · have r : ¬ j < a := by omega
          simp only [if_neg q, if_neg r]
          exact h2 (i + 1) (j + 1) (by omega) (by omega))
      omega
    · have hg := ih n f (fun i hi => by
        have b1 := h1 i hi
        have b2 : f i ≠ m := fun e => hx ⟨i, hi, e⟩
        omega) h2
      omega
/-- two of them in one place -/
theorem fb_twice {m n : Nat} {f : Nat → Nat} (h : ∀ i, i < n → f i < m) (hm : m < n) : ∃ i j, i < j ∧ j < n ∧ f i = f j := by
  refine Classical.byContradiction fun hx => ?_
  have := fb_holes m n f h (fun i j hij hj e => hx ⟨i, j, hij, hj, e⟩)
  omega
/-- as many as places, none twice: each place is taken -/
theorem fb_onto {n : Nat} {f : Nat → Nat} (h : ∀ i, i < n → f i < n) (h2 : ∀ i j, i < j → j < n → f i ≠ f j) {y : Nat} (hy : y < n) : ∃ i, i < n ∧ f i = y := by
  refine Classical.byContradiction fun hx => ?_
  have hne : ∀ i, i < n → f i ≠ y := fun i hi e => hx ⟨i, hi, e⟩
  have := fb_holes (n - 1) n (fun i => if f i < y then f i else f i - 1) (by
    intro i hi
    have b1 := h i hi
    have b2 := hne i hi
    by_cases q : f i < y
    · simp only [if_pos q]; omega
    · simp only [if_neg q]; omega) (by
    intro i j hij hj
    have b1 := hne i (by omega)
    have b2 := hne j hj
    have b3 := h2 i j hij hj
    by_cases q : f i < y
    · by_cases r : f j < y
      · simp only [if_pos q, if_pos r]; exact b3
      · simp only [if_pos q, if_neg r]; omega
    · by_cases r : f j < y
      · simp only [if_neg q, if_pos r]; omega
      · simp only [if_neg q, if_neg r]; omega)
  omega
/-! ===== how many places have a property ===== -/
def fb_ct (p : Nat → Bool) : Nat → Nat
  | 0 => 0
  | n + 1 => fb_ct p n + (if p n then 1 else 0)
theorem fb_ct_succ (p : Nat → Bool) (n : Nat) : fb_ct p (n + 1) = fb_ct p n + (if p n then 1 else 0) := rfl
theorem fb_ct_le (p : Nat → Bool) : ∀ n, fb_ct p n ≤ n
  | 0 => Nat.le_refl _
  | n + 1 => by
    have h := fb_ct_le p n
    rw [fb_ct_succ]
    split <;> omega
theorem fb_ct_step (p : Nat → Bool) (m : Nat) : ∀ n, fb_ct p m ≤ fb_ct p (m + n)
  | 0 => Nat.le_refl _
  | n + 1 => by
    have h := fb_ct_step p m n
    show fb_ct p m ≤ fb_ct p (m + n + 1)
    rw [fb_ct_succ]
    omega
theorem fb_ct_mono (p : Nat → Bool) {m n : Nat} (h : m ≤ n) : fb_ct p m ≤ fb_ct p n := by
  have := fb_ct_step p m (n - m)
  rwa [Nat.add_sub_cancel' h] at this
theorem fb_ct_cong {p q : Nat → Bool} : ∀ {n : Nat}, (∀ k, k < n → p k = q k) → fb_ct p n = fb_ct q n
  | 0, _ => rfl
  | n + 1, h => by
    rw [fb_ct_succ, fb_ct_succ, fb_ct_cong (fun k hk => h k (by omega)), h n (by omega)]
/-- one place changed -/
theorem fb_ct_out (p : Nat → Bool) (b : Bool) {i n : Nat} (h : n ≤ i) : fb_ct (fun k => if k = i then b else p k) n = fb_ct p n :=
  fb_ct_cong fun k hk => if_neg (by omega)
theorem fb_ct_upd (p : Nat → Bool) (b : Bool) {i : Nat} : ∀ {n : Nat}, i < n → fb_ct (fun k => if k = i then b else p k) n + (if p i then 1 else 0) = fb_ct p n + (if b then 1 else 0)
  | 0, h => absurd h (Nat.not_lt_zero i)
  | n + 1, h => by
    rw [fb_ct_succ, fb_ct_succ]
    rcases Nat.lt_or_ge i n with q | q
    · have := fb_ct_upd p b q
      have e : (if n = i then b else p n) = p n := if_neg (by omega)
      rw [e]
      omega
    · have e : i = n := by omega
      subst e
      rw [fb_ct_out p b (Nat.le_refl _)]
      simp only [if_true]
      omega
theorem fb_ct_sub {p q : Nat → Bool} : ∀ {n : Nat}, (∀ k, k < n → p k = true → q k = true) → fb_ct p n ≤ fb_ct q n
  | 0, _ => Nat.le_refl _
  | n + 1, h => by
    have h1 := fb_ct_sub (n := n) (p := p) (q := q) (fun k hk => h k (by omega))
    have h2 := h n (by omega)
    rw [fb_ct_succ, fb_ct_succ]
    cases hp : p n <;> cases hq : q n <;> simp_all <;> omega
theorem fb_ct_or {p q : Nat → Bool} : ∀ {n : Nat}, (∀ k, k < n → ¬ (p k = true ∧ q k = true)) → fb_ct (fun k => p k || q k) n = fb_ct p n + fb_ct q n
  | 0, _ => rfl
  | n + 1, h => by
    have h1 := fb_ct_or (n := n) (p := p) (q := q) (fun k hk => h k (by omega))
    have h2 := h n (by omega)
    rw [fb_ct_succ, fb_ct_succ, fb_ct_succ, h1]
    cases hp : p n <;> cases hq : q n <;> simp_all <;> omega
theorem fb_ct_not (p : Nat → Bool) : ∀ n, fb_ct p n + fb_ct (fun k => !p k) n = n
  | 0 => rfl
  | n + 1 => by
    have h := fb_ct_not p n
    rw [fb_ct_succ, fb_ct_succ]
    cases p n <;> simp <;> omega
theorem fb_ct_split (p : Nat → Bool) (m : Nat) : ∀ n, fb_ct p (m + n) = fb_ct p m + fb_ct (fun k => p (m + k)) n
  | 0 => rfl
  | n + 1 => by
    have h := fb_ct_split p m n
    show fb_ct p (m + n + 1) = _
    rw [fb_ct_succ, fb_ct_succ, h, Nat.add_assoc]
theorem fb_ct_zero {p : Nat → Bool} : ∀ {n : Nat}, fb_ct p n = 0 ↔ ∀ k, k < n → p k = false
  | 0 => ⟨fun _ k hk => absurd hk (Nat.not_lt_zero k), fun _ => rfl⟩
  | n + 1 => by
    have h := fb_ct_zero (p := p) (n := n)
    rw [fb_ct_succ]
    constructor
    · intro e k hk
      have e1 : fb_ct p n = 0 := by omega
      rcases Nat.lt_or_ge k n with q | q
      · exact h.mp e1 k q
      · have ek : k = n := by omega
        subst ek
        cases hp : p k
        · rfl
        · simp [hp] at e
    · intro a
      rw [h.mpr (fun k hk => a k (by omega)), a n (by omega)]
      rfl
theorem fb_ct_pos {p : Nat → Bool} {n : Nat} : 0 < fb_ct p n ↔ ∃ k, k < n ∧ p k = true := by
  constructor
  · intro h
    refine Classical.byContradiction fun hx => ?_
    have := fb_ct_zero.mpr (fun k hk => by
      cases hp : p k
      · rfl
      · exact absurd ⟨k, hk, hp⟩ hx : ∀ k, k < n → p k = false)
    omega
  · rintro ⟨k, hk, hp⟩
    rcases Nat.eq_zero_or_pos (fb_ct p n) with e | e
    · have := fb_ct_zero.mp e k hk
      rw [this] at hp
      cases hp
    · exact e
theorem fb_ct_all {p : Nat → Bool} {n : Nat} : fb_ct p n = n ↔ ∀ k, k < n → p k = true := by
  have h := fb_ct_not p n
  constructor
  · intro e k hk
    have z : fb_ct (fun k => !p k) n = 0 := by omega
    have := fb_ct_zero.mp z k hk
    cases hp : p k
    · simp [hp] at this
    · rfl
  · intro a
    have z : fb_ct (fun k => !p k) n = 0 := fb_ct_zero.mpr (fun k hk => by simp [a k hk])
    omega
/-- the k-th place with the property -/
theorem fb_ct_kth {p : Nat → Bool} {k : Nat} : ∀ {n : Nat}, k < fb_ct p n → ∃ i, i < n ∧ p i = true ∧ fb_ct p i = k
  | 0, h => absurd h (Nat.not_lt_zero k)
  | n + 1, h => by
    rcases Nat.lt_or_ge k (fb_ct p n) with q | q
    · obtain ⟨i, h1, h2⟩ := fb_ct_kth q
      exact ⟨i, by omega, h2⟩
    · rw [fb_ct_succ] at h
      cases hp : p n
      · simp [hp] at h; omega
      · simp [hp] at h
        exact ⟨n, by omega, hp, by omega⟩
theorem fb_ct_kth_one {p : Nat → Bool} {i j : Nat} (hi : p i = true) (hj : p j = true) (e : fb_ct p i = fb_ct p j) : i = j := by
  have key : ∀ a b : Nat, a < b → p a = true → fb_ct p a < fb_ct p b := by
    intro a b hab ha
    have h := fb_ct_mono p (show a + 1 ≤ b from hab)
    rw [fb_ct_succ, ha] at h
    simp at h
    omega
  rcases Nat.lt_trichotomy i j with q | q | q
  · have := key i j q hi; omega
  · exact q
  · have := key j i q hj; omega
/-! ===== sums over a range: one place changed, parts, bounds ===== -/
def fb_sm (f : Nat → Nat) : Nat → Nat
  | 0 => 0
  | n + 1 => fb_sm f n + f n
theorem fb_sm_succ (f : Nat → Nat) (n : Nat) : fb_sm f (n + 1) = fb_sm f n + f n := rfl
theorem fb_sm_cong {f g : Nat → Nat} : ∀ {n : Nat}, (∀ k, k < n → f k = g k) → fb_sm f n = fb_sm g n
  | 0, _ => rfl
  | n + 1, h => by rw [fb_sm_succ, fb_sm_succ, fb_sm_cong (fun k hk => h k (by omega)), h n (by omega)]
theorem fb_sm_out (f : Nat → Nat) (v : Nat) {i n : Nat} (h : n ≤ i) : fb_sm (fun k => if k = i then v else f k) n = fb_sm f n :=
  fb_sm_cong fun k hk => if_neg (by omega)
theorem fb_sm_upd (f : Nat → Nat) (v : Nat) {i : Nat} : ∀ {n : Nat}, i < n → fb_sm (fun k => if k = i then v else f k) n + f i = fb_sm f n + v
  | 0, h => absurd h (Nat.not_lt_zero i)
  | n + 1, h => by
    rw [fb_sm_succ, fb_sm_succ]
    rcases Nat.lt_or_ge i n with q | q
    · have := fb_sm_upd f v q
      have e : (if n = i then v else f n) = f n := if_neg (by omega)
      rw [e]
      omega
    · have e : i = n := by omega
      subst e
      rw [fb_sm_out f v (Nat.le_refl _)]
      simp only [if_true]
      omega
theorem fb_sm_add (f g : Nat → Nat) : ∀ n, fb_sm (fun k => f k + g k) n = fb_sm f n + fb_sm g n
  | 0 => rfl
  | n + 1 => by
    have h := fb_sm_add f g n
    rw [fb_sm_succ, fb_sm_succ, fb_sm_succ, h]
    omega
theorem fb_sm_le {f g : Nat → Nat} : ∀ {n : Nat}, (∀ k, k < n → f k ≤ g k) → fb_sm f n ≤ fb_sm g n
  | 0, _ => Nat.le_refl _
  | n + 1, h => by
    have h1 := fb_sm_le (n := n) (f := f) (g := g) (fun k hk => h k (by omega))
    have h2 := h n (by omega)
    rw [fb_sm_succ, fb_sm_succ]
    omega
theorem fb_sm_const (c : Nat) : ∀ n, fb_sm (fun _ => c) n = n * c
  | 0 => by rw [Nat.zero_mul]; rfl
  | n + 1 => by rw [fb_sm_succ, fb_sm_const c n, Nat.succ_mul]
theorem fb_sm_bound {f : Nat → Nat} {c n : Nat} (h : ∀ k, k < n → f k ≤ c) : fb_sm f n ≤ n * c := by
  rw [← fb_sm_const c n]
  exact fb_sm_le h
theorem fb_sm_mono (f : Nat → Nat) (m : Nat) : ∀ n, fb_sm f m ≤ fb_sm f (m + n)
  | 0 => Nat.le_refl _
  | n + 1 => by
    have h := fb_sm_mono f m n
    show fb_sm f m ≤ fb_sm f (m + n + 1)
    rw [fb_sm_succ]
    omega
theorem fb_sm_part (f : Nat → Nat) {i n : Nat} (h : i < n) : fb_sm f i + f i ≤ fb_sm f n := by
  have := fb_sm_mono f (i + 1) (n - (i + 1))
  rw [fb_sm_succ, show i + 1 + (n - (i + 1)) = n by omega] at this
  exact this
theorem fb_sm_split (f : Nat → Nat) (m : Nat) : ∀ n, fb_sm f (m + n) = fb_sm f m + fb_sm (fun k => f (m + k)) n
  | 0 => rfl
  | n + 1 => by
    have h := fb_sm_split f m n
    show fb_sm f (m + n + 1) = _
    rw [fb_sm_succ, fb_sm_succ, h, Nat.add_assoc]
theorem fb_sm_zero {f : Nat → Nat} {n : Nat} (h : fb_sm f n = 0) : ∀ k, k < n → f k = 0 := fun k hk => by
  have := fb_sm_part f hk
  omega
/-- the same over whole numbers -/
def fb_si (f : Nat → Int) : Nat → Int
  | 0 => 0
  | n + 1 => fb_si f n + f n
theorem fb_si_succ (f : Nat → Int) (n : Nat) : fb_si f (n + 1) = fb_si f n + f n := rfl
theorem fb_si_cong {f g : Nat → Int} : ∀ {n : Nat}, (∀ k, k < n → f k = g k) → fb_si f n = fb_si g n
  | 0, _ => rfl
  | n + 1, h => by rw [fb_si_succ, fb_si_succ, fb_si_cong (fun k hk => h k (by omega)), h n (by omega)]
theorem fb_si_out (f : Nat → Int) (v : Int) {i n : Nat} (h : n ≤ i) : fb_si (fun k => if k = i then v else f k) n = fb_si f n :=
  fb_si_cong fun k hk => if_neg (by omega)
theorem fb_si_upd (f : Nat → Int) (v : Int) {i : Nat} : ∀ {n : Nat}, i < n → fb_si (fun k => if k = i then v else f k) n = fb_si f n - f i + v
  | 0, h => absurd h (Nat.not_lt_zero i)
  | n + 1, h => by
    rw [fb_si_succ, fb_si_succ]
    rcases Nat.lt_or_ge i n with q | q
    · have := fb_si_upd f v q
      have e : (if n = i then v else f n) = f n := if_neg (by omega)
      rw [e]
      omega
    · have e : i = n := by omega
      subst e
      rw [fb_si_out f v (Nat.le_refl _)]
      simp only [if_true]
      omega
theorem fb_si_add (f g : Nat → Int) : ∀ n, fb_si (fun k => f k + g k) n = fb_si f n + fb_si g n
  | 0 => rfl
  | n + 1 => by
    have h := fb_si_add f g n
    rw [fb_si_succ, fb_si_succ, fb_si_succ, h]
    omega
theorem fb_si_sub (f g : Nat → Int) : ∀ n, fb_si (fun k => f k - g k) n = fb_si f n - fb_si g n
  | 0 => rfl
  | n + 1 => by
    have h := fb_si_sub f g n
    rw [fb_si_succ, fb_si_succ, fb_si_succ, h]
    omega
theorem fb_si_mul (c : Int) (f : Nat → Int) : ∀ n, fb_si (fun k => c * f k) n = c * fb_si f n
  | 0 => (Int.mul_zero c).symm
  | n + 1 => by
    have h := fb_si_mul c f n
    rw [fb_si_succ, fb_si_succ, h, Int.mul_add]
theorem fb_si_split (f : Nat → Int) (m : Nat) : ∀ n, fb_si f (m + n) = fb_si f m + fb_si (fun k => f (m + k)) n
  | 0 => (Int.add_zero _).symm
  | n + 1 => by
    have h := fb_si_split f m n
    show fb_si f (m + n + 1) = _
    rw [fb_si_succ, fb_si_succ, h, Int.add_assoc]
theorem fb_si_nat (f : Nat → Nat) : ∀ n, fb_si (fun k => (f k : Int)) n = (fb_sm f n : Int)
  | 0 => rfl
  | n + 1 => by
    have h := fb_si_nat f n
    rw [fb_si_succ, fb_sm_succ, h]
    omega
theorem fb_si_bound {f : Nat → Int} {c : Int} (hc : 0 ≤ c) : ∀ {n : Nat}, (∀ k, k < n → -c ≤ f k ∧ f k ≤ c) → -(n * c) ≤ fb_si f n ∧ fb_si f n ≤ n * c
  | 0, _ => by simp [fb_si]
  | n + 1, h => by
    have h1 := fb_si_bound (n := n) (f := f) hc (fun k hk => h k (by omega))
    have h2 := h n (by omega)
    have e : ((n + 1 : Nat) : Int) * c = n * c + c := by rw [Int.natCast_add, Int.add_mul]; simp
    rw [fb_si_succ, e]
    omega
/-! ===== bits of a long that isn't negative ===== -/
theorem fb_andL (a b : Nat) : lN a &&& lN b = lN (a &&& b) := by
  apply Int64.toBitVec_inj.1
  show BitVec.ofNat 64 a &&& BitVec.ofNat 64 b = BitVec.ofNat 64 (a &&& b)
  apply BitVec.eq_of_getLsbD_eq
  intro i hi
  simp [hi]
theorem fb_orL (a b : Nat) : lN a ||| lN b = lN (a ||| b) := by
  apply Int64.toBitVec_inj.1
  show BitVec.ofNat 64 a ||| BitVec.ofNat 64 b = BitVec.ofNat 64 (a ||| b)
  apply BitVec.eq_of_getLsbD_eq
  intro i hi
  simp [hi]
theorem fb_xorL (a b : Nat) : lN a ^^^ lN b = lN (a ^^^ b) := by
  apply Int64.toBitVec_inj.1
  show BitVec.ofNat 64 a ^^^ BitVec.ofNat 64 b = BitVec.ofNat 64 (a ^^^ b)
  apply BitVec.eq_of_getLsbD_eq
  intro i hi
  simp [hi]
theorem fb_xorI (a b : Nat) : nI a ^^^ nI b = nI (a ^^^ b) := by
  apply Int32.toBitVec_inj.1
  show BitVec.ofNat 32 a ^^^ BitVec.ofNat 32 b = BitVec.ofNat 32 (a ^^^ b)
  apply BitVec.eq_of_getLsbD_eq
  intro i hi
  simp [hi]
theorem fb_maskL (n k : Nat) : lN n &&& lN (2 ^ k - 1) = lN (n % 2 ^ k) := by rw [fb_andL, Nat.and_two_pow_sub_one_eq_mod]
theorem fb_or_sumL {a k : Nat} (b : Nat) (h : a < 2 ^ k) : lN (2 ^ k * b) ||| lN a = lN (2 ^ k * b + a) := by rw [fb_orL, Nat.two_pow_add_eq_or_of_lt h]
theorem fb_lN_inj {a b : Nat} (ha : a < 2 ^ 63) (hb : b < 2 ^ 63) : lN a = lN b ↔ a = b := by
  constructor
  · intro h
    have h1 : (BitVec.ofNat 64 a).toNat = (BitVec.ofNat 64 b).toNat := congrArg (fun x : Int64 => x.toBitVec.toNat) h
    rw [BitVec.toNat_ofNat, BitVec.toNat_ofNat, Nat.mod_eq_of_lt (by omega), Nat.mod_eq_of_lt (by omega)] at h1
    exact h1
  · rintro rfl; rfl
theorem fb_bit_nat (n j : Nat) : n &&& 2 ^ j = 0 ↔ n.testBit j = false := by
  constructor
  · intro h
    have h1 : (n &&& 2 ^ j).testBit j = false := by rw [h]; simp
    rw [Nat.testBit_and] at h1
    simpa using h1
  · intro h
    apply Nat.eq_of_testBit_eq
    intro i
    rw [Nat.testBit_and]
    by_cases hi : j = i
    · subst hi; simp [h]
    · first | (simp [Nat.testBit_two_pow, hi]; done) | (simp [Nat.testBit_two_pow_of_ne hi]; done)
/-- one bit of a long -/
theorem fb_bitL {n j : Nat} (hj : j < 63) : lN n &&& lN (2 ^ j) = 0 ↔ n.testBit j = false := by
  have h2 : (2 : Nat) ^ j < 2 ^ 63 := Nat.pow_lt_pow_right (by decide) hj
  have hle : n &&& 2 ^ j ≤ 2 ^ j := Nat.and_le_right
  rw [fb_andL, ← fb_bit_nat, show (0 : Int64) = lN 0 from rfl]
  exact fb_lN_inj (by omega) (by decide)
/-- a bit set, a bit taken off -/
theorem fb_bit_set (n j i : Nat) : (n ||| 2 ^ j).testBit i = (n.testBit i || decide (i = j)) := by
  rw [Nat.testBit_or]
  by_cases h : j = i
  · subst h; simp
  · have h2 : ¬ i = j := fun e => h e.symm
    first | (simp [Nat.testBit_two_pow, h, h2]; done) | (simp [Nat.testBit_two_pow_of_ne h, h2]; done)
theorem fb_bit_flip (n j i : Nat) : (n ^^^ 2 ^ j).testBit i = (n.testBit i ^^ decide (i = j)) := by
  rw [Nat.testBit_xor]
  by_cases h : j = i
  · subst h; simp
  · have h2 : ¬ i = j := fun e => h e.symm
    first | (simp [Nat.testBit_two_pow, h, h2]; done) | (simp [Nat.testBit_two_pow_of_ne h, h2]; done)
/-! ===== a stretch of an array written over by a function ===== -/
def fb_put {α : Type} (f g : Nat → α) (a n : Nat) : Nat → α := fun k => if a ≤ k ∧ k < a + n then g (k - a) else f k
theorem fb_put_0 {α : Type} (f g : Nat → α) (a : Nat) : fb_put f g a 0 = f := funext fun k => if_neg (by omega)
theorem fb_put_in {α : Type} {f g : Nat → α} {a n k : Nat} (h1 : a ≤ k) (h2 : k < a + n) : fb_put f g a n k = g (k - a) := if_pos ⟨h1, h2⟩
theorem fb_put_out {α : Type} {f g : Nat → α} {a n k : Nat} (h : k < a ∨ a + n ≤ k) : fb_put f g a n k = f k := if_neg (by omega)
theorem fb_put_succ (f g : Nat → Int32) (a n : Nat) : upd (fb_put f g a n) (a + n) (g n) = fb_put f g a (n + 1) := by
  funext k
  by_cases h : k = a + n
  · subst h
    simp [upd, fb_put]
  · by_cases h1 : a ≤ k ∧ k < a + n
    · have h2 : a ≤ k ∧ k < a + (n + 1) := by omega
      simp only [upd, fb_put, if_neg h, if_pos h1, if_pos h2]
    · have h2 : ¬ (a ≤ k ∧ k < a + (n + 1)) := by omega
      simp only [upd, fb_put, if_neg h, if_neg h1, if_neg h2]
/-- .. from the far end down -/
theorem fb_put_down (f g : Nat → Int32) {a n m : Nat} (h : m < n) : upd (fb_put f (fun k => g (k + (m + 1))) (a + (m + 1)) (n - (m + 1))) (a + m) (g m) = fb_put f (fun k => g (k + m)) (a + m) (n - m) := by
  funext k
  by_cases h0 : k = a + m
  · subst h0
    simp only [upd, if_true]
    rw [fb_put_in (by omega) (by omega)]
    exact congrArg g (by omega)
  · simp only [upd, if_neg h0]
    by_cases h1 : a + (m + 1) ≤ k ∧ k < a + (m + 1) + (n - (m + 1))
    · rw [fb_put_in h1.1 h1.2, fb_put_in (by omega) (by omega)]
      exact congrArg g (by omega)
    · rw [fb_put_out (by omega), fb_put_out (by omega)]
theorem fb_put_cong {α : Type} {f f2 g g2 : Nat → α} {a n : Nat} (hf : ∀ k, (k < a ∨ a + n ≤ k) → f k = f2 k) (hg : ∀ k, k < n → g k = g2 k) : fb_put f g a n = fb_put f2 g2 a n := by
  funext k
  by_cases h : a ≤ k ∧ k < a + n
  · rw [fb_put_in h.1 h.2, fb_put_in h.1 h.2, hg _ (by omega)]
  · rw [fb_put_out (by omega), fb_put_out (by omega), hf _ (by omega)]
/-! ===== the least, the first, the best so far; that there is one alone ===== -/
theorem fb_first {p : Nat → Prop} [DecidablePred p] : ∀ {n : Nat}, (∃ i, i < n ∧ p i) → ∃ i, i < n ∧ p i ∧ ∀ j, j < i → ¬ p j
  | 0, h => by obtain ⟨i, hi, -⟩ := h; exact absurd hi (Nat.not_lt_zero i)
  | n + 1, h => by
    by_cases q : ∃ i, i < n ∧ p i
    · obtain ⟨i, h1, h2⟩ := fb_first q
      exact ⟨i, by omega, h2⟩
    · obtain ⟨i, h1, h2⟩ := h
      have e : i = n := by
        rcases Nat.lt_or_ge i n with r | r
        · exact absurd ⟨i, r, h2⟩ q
        · omega
      subst e
      exact ⟨i, by omega, h2, fun j hj hp => q ⟨j, hj, hp⟩⟩
theorem fb_first_one {p : Nat → Prop} {i j : Nat} (hi : p i) (hi2 : ∀ k, k < i → ¬ p k) (hj : p j) (hj2 : ∀ k, k < j → ¬ p k) : i = j := by
  rcases Nat.lt_trichotomy i j with q | q | q
  · exact absurd hi (hj2 i q)
  · exact q
  · exact absurd hj (hi2 j q)
theorem fb_last {p : Nat → Prop} [DecidablePred p] : ∀ {n : Nat}, (∃ i, i < n ∧ p i) → ∃ i, i < n ∧ p i ∧ ∀ j, i < j → j < n → ¬ p j
  | 0, h => by obtain ⟨i, hi, -⟩ := h; exact absurd hi (Nat.not_lt_zero i)
  | n + 1, h => by
    by_cases q : p n
    · exact ⟨n, by omega, q, fun j h1 h2 => by omega⟩
    · obtain ⟨i, h1, h2⟩ := h
      have hi : i < n := by
        rcases Nat.lt_or_ge i n with r | r
        · exact r
        · have e : i = n := by omega
          subst e
          exact absurd h2 q
      obtain ⟨i2, a1, a2, a3⟩ := fb_last (n := n) ⟨i, hi, h2⟩
      refine ⟨i2, by omega, a2, fun j b1 b2 => ?_⟩
      rcases Nat.lt_or_ge j n with r | r
      · exact a3 j b1 r
      · have e : j = n := by omega
        subst e
        exact q
/-- the first greatest -/
theorem fb_best (f : Nat → Int) : ∀ {n : Nat}, 0 < n → ∃ i, i < n ∧ (∀ j, j < n → f j ≤ f i) ∧ ∀ j, j < i → f j < f i
  | 0, h => absurd h (Nat.lt_irrefl 0)
  | 1, _ => ⟨0, by omega, fun j hj => by have e : j = 0 := by omega
                                         subst e; exact Int.le_refl _, fun j hj => absurd hj (Nat.not_lt_zero j)⟩
  | n + 2, _ => by
    obtain ⟨i, h1, h2, h3⟩ := fb_best f (n := n + 1) (by omega)
    by_cases q : f i < f (n + 1)
    · refine ⟨n + 1, by omega, fun j hj => ?_, fun j hj => ?_⟩
      · rcases Nat.lt_or_ge j (n + 1) with r | r
        · have := h2 j r; omega
        · have e : j = n + 1 := by omega
          subst e; exact Int.le_refl _
      · have := h2 j hj; omega
    · refine ⟨i, by omega, fun j hj => ?_, h3⟩
      rcases Nat.lt_or_ge j (n + 1) with r | r
      · exact h2 j r
      · have e : j = n + 1 := by omega
        subst e; omega
theorem fb_best_one {f : Nat → Int} {n i j : Nat} (hi : i < n) (hi2 : ∀ k, k < n → f k ≤ f i) (hi3 : ∀ k, k < i → f k < f i) (hj : j < n) (hj2 : ∀ k, k < n → f k ≤ f j) (hj3 : ∀ k, k < j → f k < f j) : i = j := by
  rcases Nat.lt_trichotomy i j with q | q | q
  · have a := hj3 i q
    have b := hi2 j hj
    omega
  · exact q
  · have a := hi3 j q
    have b := hj2 i hi
    omega
/-- the first least -/
theorem fb_low (f : Nat → Int) {n : Nat} (h : 0 < n) : ∃ i, i < n ∧ (∀ j, j < n → f i ≤ f j) ∧ ∀ j, j < i → f i < f j := by
  obtain ⟨i, h1, h2, h3⟩ := fb_best (fun k => -f k) h
  exact ⟨i, h1, fun j hj => by have := h2 j hj; omega, fun j hj => by have := h3 j hj; omega⟩
/-! ===== signed ints as whole numbers, within bounds ===== -/
theorem fb_rng (x : Int32) : -2147483648 ≤ x.toInt ∧ x.toInt < 2147483648 := by
  have h1 := Int32.le_toInt x
  have h2 := Int32.toInt_lt x
  omega
theorem fb_bmod {z : Int} (h1 : -2147483648 ≤ z) (h2 : z < 2147483648) : z.bmod (2 ^ 32) = z := by
  rw [Int.bmod_eq_of_le (by omega) (by omega)]
theorem fb_addI {x y : Int32} (h1 : -2147483648 ≤ x.toInt + y.toInt) (h2 : x.toInt + y.toInt < 2147483648) : (x + y).toInt = x.toInt + y.toInt := by
  rw [Int32.toInt_add, fb_bmod h1 h2]
theorem fb_subI {x y : Int32} (h1 : -2147483648 ≤ x.toInt - y.toInt) (h2 : x.toInt - y.toInt < 2147483648) : (x - y).toInt = x.toInt - y.toInt := by
  rw [Int32.toInt_sub, fb_bmod h1 h2]
theorem fb_mulI {x y : Int32} (h1 : -2147483648 ≤ x.toInt * y.toInt) (h2 : x.toInt * y.toInt < 2147483648) : (x * y).toInt = x.toInt * y.toInt := by
  rw [Int32.toInt_mul, fb_bmod h1 h2]
theorem fb_negI {x : Int32} (h : x.toInt ≠ -2147483648) : (-x).toInt = -x.toInt := by
  have := fb_rng x
  rw [Int32.toInt_neg, fb_bmod (by omega) (by omega)]
theorem fb_ofI {z : Int} (h1 : -2147483648 ≤ z) (h2 : z < 2147483648) : (Int32.ofInt z).toInt = z := by
  rw [Int32.toInt_ofInt, fb_bmod h1 h2]
theorem fb_asI (x : Int32) : Int32.ofInt x.toInt = x := Int32.ofInt_toInt x
theorem fb_rngL (x : Int64) : -9223372036854775808 ≤ x.toInt ∧ x.toInt < 9223372036854775808 := by
  have h1 := Int64.le_toInt x
  have h2 := Int64.toInt_lt x
  omega
theorem fb_bmodL {z : Int} (h1 : -9223372036854775808 ≤ z) (h2 : z < 9223372036854775808) : z.bmod (2 ^ 64) = z := by
  rw [Int.bmod_eq_of_le (by omega) (by omega)]
theorem fb_addL {x y : Int64} (h1 : -9223372036854775808 ≤ x.toInt + y.toInt) (h2 : x.toInt + y.toInt < 9223372036854775808) : (x + y).toInt = x.toInt + y.toInt := by
  rw [Int64.toInt_add, fb_bmodL h1 h2]
theorem fb_subL {x y : Int64} (h1 : -9223372036854775808 ≤ x.toInt - y.toInt) (h2 : x.toInt - y.toInt < 9223372036854775808) : (x - y).toInt = x.toInt - y.toInt := by
  rw [Int64.toInt_sub, fb_bmodL h1 h2]
theorem fb_mulL {x y : Int64} (h1 : -9223372036854775808 ≤ x.toInt * y.toInt) (h2 : x.toInt * y.toInt < 9223372036854775808) : (x * y).toInt = x.toInt * y.toInt := by
  rw [Int64.toInt_mul, fb_bmodL h1 h2]
/-! ===== cuts of what is narrow already ===== -/
theorem fb_byte {x : Int32} (h1 : -128 ≤ x.toInt) (h2 : x.toInt < 128) : x.toInt8.toInt32 = x := by
  apply Int32.toInt_inj.1
  rw [Int8.toInt_toInt32, Int32.toInt_toInt8, Int.bmod_eq_of_le (by omega) (by omega)]
theorem fb_short {x : Int32} (h1 : -32768 ≤ x.toInt) (h2 : x.toInt < 32768) : x.toInt16.toInt32 = x := by
  apply Int32.toInt_inj.1
  rw [Int16.toInt_toInt32, Int32.toInt_toInt16, Int.bmod_eq_of_le (by omega) (by omega)]
theorem fb_byte_rng (x : Int32) : -128 ≤ x.toInt8.toInt32.toInt ∧ x.toInt8.toInt32.toInt < 128 := by
  rw [Int8.toInt_toInt32]
  have h1 := Int8.le_toInt x.toInt8
  have h2 := Int8.toInt_lt x.toInt8
  omega
theorem fb_short_rng (x : Int32) : -32768 ≤ x.toInt16.toInt32.toInt ∧ x.toInt16.toInt32.toInt < 32768 := by
  rw [Int16.toInt_toInt32]
  have h1 := Int16.le_toInt x.toInt16
  have h2 := Int16.toInt_lt x.toInt16
  omega
theorem fb_byte_twice (x : Int32) : x.toInt8.toInt32.toInt8.toInt32 = x.toInt8.toInt32 := fb_byte (fb_byte_rng x).1 (fb_byte_rng x).2
theorem fb_short_twice (x : Int32) : x.toInt16.toInt32.toInt16.toInt32 = x.toInt16.toInt32 := fb_short (fb_short_rng x).1 (fb_short_rng x).2
theorem fb_char {n : Nat} (h : n < 65536) : (nI n).toUInt32.toUInt16.toUInt32.toInt32 = nI n := by
  apply Int32.toBitVec_inj.1
  apply BitVec.eq_of_toNat_eq
  have e1 : (nI n).toBitVec.toNat = n := by
    show (BitVec.ofNat 32 n).toNat = n
    rw [BitVec.toNat_ofNat, Nat.mod_eq_of_lt (by omega)]
  have e2 : ((nI n).toUInt32.toUInt16.toUInt32).toNat = n := by
    rw [UInt16.toNat_toUInt32, UInt32.toNat_toUInt16]
    show (nI n).toBitVec.toNat % 2 ^ 16 = n
    rw [e1, Nat.mod_eq_of_lt (by omega)]
  rw [e1]
  exact e2
end
section
set_option maxRecDepth 4000 in
theorem m_X5_isSheet (G : GE) (h : Mem) (x : Int32) : Ct idsA G yX5_isSheet cX5_isSheet 1 (some .boolean) (rmD 0) [.int x] h (Qi fun r h' => h' = h ∧ r = bz (inR x 8)) := by
  refine Ct.of [some (.int x)] (by decide) (Nat.le_of_ble_eq_true rfl) (lvE_ok 0 rfl) ?_
  refine V_iload0 dX5_isSheet_0 ?_
  first | refine V_if_lt_n 14 dX5_isSheet_1 (by decide) (by omega) (fun c1 => ?_) (fun c1 => ?_) | refine V_if_lt 14 dX5_isSheet_1 (by decide) (fun c1 => ?_) (fun c1 => ?_)
  · refine V_iconst (nI 0) dX5_isSheet_14 (by decide) ?_
    refine V_zreti dX5_isSheet_15 (by first | exact bz_01 | exact nI_01 (Or.inl rfl) | exact nI_01 (Or.inr rfl) | assumption) ?_
    exact ⟨rfl, by first | exact bz_r1 (by simp only [inR, Int32.lt_iff_toInt_lt, Int32.le_iff_toInt_le, nI_toInt (show 8 < 2 ^ 31 by decide), nI_toInt (show 10 < 2 ^ 31 by decide), nI_toInt (show 4 < 2 ^ 31 by decide), Int32.toInt_zero] at *; omega) | exact bz_r0 (by simp only [inR, Int32.lt_iff_toInt_lt, Int32.le_iff_toInt_le, nI_toInt (show 8 < 2 ^ 31 by decide), nI_toInt (show 10 < 2 ^ 31 by decide), nI_toInt (show 4 < 2 ^ 31 by decide), Int32.toInt_zero] at *; omega)⟩
  · refine V_iload0 dX5_isSheet_4 ?_
    refine V_bipush (nI 8) dX5_isSheet_5 (by decide) ?_
    first | refine V_icmp_ge_n 14 dX5_isSheet_7 (by decide) (by omega) (by omega) (fun c7 => ?_) (fun c7 => ?_) | refine V_icmp_ge 14 dX5_isSheet_7 (by decide) (fun c7 => ?_) (fun c7 => ?_)
    · refine V_iconst (nI 0) dX5_isSheet_14 (by decide) ?_
      refine V_zreti dX5_isSheet_15 (by first | exact bz_01 | exact nI_01 (Or.inl rfl) | exact nI_01 (Or.inr rfl) | assumption) ?_
      exact ⟨rfl, by first | exact bz_r1 (by simp only [inR, Int32.lt_iff_toInt_lt, Int32.le_iff_toInt_le, nI_toInt (show 8 < 2 ^ 31 by decide), nI_toInt (show 10 < 2 ^ 31 by decide), nI_toInt (show 4 < 2 ^ 31 by decide), Int32.toInt_zero] at *; omega) | exact bz_r0 (by simp only [inR, Int32.lt_iff_toInt_lt, Int32.le_iff_toInt_le, nI_toInt (show 8 < 2 ^ 31 by decide), nI_toInt (show 10 < 2 ^ 31 by decide), nI_toInt (show 4 < 2 ^ 31 by decide), Int32.toInt_zero] at *; omega)⟩
    · refine V_iconst (nI 1) dX5_isSheet_10 (by decide) ?_
      refine V_goto 15 dX5_isSheet_11 (by decide) ?_
      refine V_zreti dX5_isSheet_15 (by first | exact bz_01 | exact nI_01 (Or.inl rfl) | exact nI_01 (Or.inr rfl) | assumption) ?_
      exact ⟨rfl, by first | exact bz_r1 (by simp only [inR, Int32.lt_iff_toInt_lt, Int32.le_iff_toInt_le, nI_toInt (show 8 < 2 ^ 31 by decide), nI_toInt (show 10 < 2 ^ 31 by decide), nI_toInt (show 4 < 2 ^ 31 by decide), Int32.toInt_zero] at *; omega) | exact bz_r0 (by simp only [inR, Int32.lt_iff_toInt_lt, Int32.le_iff_toInt_le, nI_toInt (show 8 < 2 ^ 31 by decide), nI_toInt (show 10 < 2 ^ 31 by decide), nI_toInt (show 4 < 2 ^ 31 by decide), Int32.toInt_zero] at *; omega)⟩
set_option maxRecDepth 4000 in
theorem m_X5_isPlace (G : GE) (h : Mem) (x y : Int32) : Ct idsA G yX5_isPlace cX5_isPlace 2 (some .boolean) (rmD 0) [.int x, .int y] h (Qi fun r h' => h' = h ∧ r = bz (inR x 10 ∧ inR y 10)) := by
  refine Ct.of [some (.int x), some (.int y)] (by decide) (Nat.le_of_ble_eq_true rfl) (lvE_ok 0 rfl) ?_
  refine V_iload0 dX5_isPlace_0 ?_
  first | refine V_if_lt_n 24 dX5_isPlace_1 (by decide) (by omega) (fun c1 => ?_) (fun c1 => ?_) | refine V_if_lt 24 dX5_isPlace_1 (by decide) (fun c1 => ?_) (fun c1 => ?_)
  · refine V_iconst (nI 0) dX5_isPlace_24 (by decide) ?_
    refine V_zreti dX5_isPlace_25 (by first | exact bz_01 | exact nI_01 (Or.inl rfl) | exact nI_01 (Or.inr rfl) | assumption) ?_
    exact ⟨rfl, by first | exact bz_r1 (by simp only [inR, Int32.lt_iff_toInt_lt, Int32.le_iff_toInt_le, nI_toInt (show 8 < 2 ^ 31 by decide), nI_toInt (show 10 < 2 ^ 31 by decide), nI_toInt (show 4 < 2 ^ 31 by decide), Int32.toInt_zero] at *; omega) | exact bz_r0 (by simp only [inR, Int32.lt_iff_toInt_lt, Int32.le_iff_toInt_le, nI_toInt (show 8 < 2 ^ 31 by decide), nI_toInt (show 10 < 2 ^ 31 by decide), nI_toInt (show 4 < 2 ^ 31 by decide), Int32.toInt_zero] at *; omega)⟩
  · refine V_iload0 dX5_isPlace_4 ?_
    refine V_bipush (nI 10) dX5_isPlace_5 (by decide) ?_
    first | refine V_icmp_ge_n 24 dX5_isPlace_7 (by decide) (by omega) (by omega) (fun c7 => ?_) (fun c7 => ?_) | refine V_icmp_ge 24 dX5_isPlace_7 (by decide) (fun c7 => ?_) (fun c7 => ?_)
    · refine V_iconst (nI 0) dX5_isPlace_24 (by decide) ?_
      refine V_zreti dX5_isPlace_25 (by first | exact bz_01 | exact nI_01 (Or.inl rfl) | exact nI_01 (Or.inr rfl) | assumption) ?_
      exact ⟨rfl, by first | exact bz_r1 (by simp only [inR, Int32.lt_iff_toInt_lt, Int32.le_iff_toInt_le, nI_toInt (show 8 < 2 ^ 31 by decide), nI_toInt (show 10 < 2 ^ 31 by decide), nI_toInt (show 4 < 2 ^ 31 by decide), Int32.toInt_zero] at *; omega) | exact bz_r0 (by simp only [inR, Int32.lt_iff_toInt_lt, Int32.le_iff_toInt_le, nI_toInt (show 8 < 2 ^ 31 by decide), nI_toInt (show 10 < 2 ^ 31 by decide), nI_toInt (show 4 < 2 ^ 31 by decide), Int32.toInt_zero] at *; omega)⟩
    · refine V_iload1 dX5_isPlace_10 ?_
      first | refine V_if_lt_n 24 dX5_isPlace_11 (by decide) (by omega) (fun c11 => ?_) (fun c11 => ?_) | refine V_if_lt 24 dX5_isPlace_11 (by decide) (fun c11 => ?_) (fun c11 => ?_)
      · refine V_iconst (nI 0) dX5_isPlace_24 (by decide) ?_
        refine V_zreti dX5_isPlace_25 (by first | exact bz_01 | exact nI_01 (Or.inl rfl) | exact nI_01 (Or.inr rfl) | assumption) ?_
        exact ⟨rfl, by first | exact bz_r1 (by simp only [inR, Int32.lt_iff_toInt_lt, Int32.le_iff_toInt_le, nI_toInt (show 8 < 2 ^ 31 by decide), nI_toInt (show 10 < 2 ^ 31 by decide), nI_toInt (show 4 < 2 ^ 31 by decide), Int32.toInt_zero] at *; omega) | exact bz_r0 (by simp only [inR, Int32.lt_iff_toInt_lt, Int32.le_iff_toInt_le, nI_toInt (show 8 < 2 ^ 31 by decide), nI_toInt (show 10 < 2 ^ 31 by decide), nI_toInt (show 4 < 2 ^ 31 by decide), Int32.toInt_zero] at *; omega)⟩
      · refine V_iload1 dX5_isPlace_14 ?_
        refine V_bipush (nI 10) dX5_isPlace_15 (by decide) ?_
        first | refine V_icmp_ge_n 24 dX5_isPlace_17 (by decide) (by omega) (by omega) (fun c17 => ?_) (fun c17 => ?_) | refine V_icmp_ge 24 dX5_isPlace_17 (by decide) (fun c17 => ?_) (fun c17 => ?_)
        · refine V_iconst (nI 0) dX5_isPlace_24 (by decide) ?_
          refine V_zreti dX5_isPlace_25 (by first | exact bz_01 | exact nI_01 (Or.inl rfl) | exact nI_01 (Or.inr rfl) | assumption) ?_
          exact ⟨rfl, by first | exact bz_r1 (by simp only [inR, Int32.lt_iff_toInt_lt, Int32.le_iff_toInt_le, nI_toInt (show 8 < 2 ^ 31 by decide), nI_toInt (show 10 < 2 ^ 31 by decide), nI_toInt (show 4 < 2 ^ 31 by decide), Int32.toInt_zero] at *; omega) | exact bz_r0 (by simp only [inR, Int32.lt_iff_toInt_lt, Int32.le_iff_toInt_le, nI_toInt (show 8 < 2 ^ 31 by decide), nI_toInt (show 10 < 2 ^ 31 by decide), nI_toInt (show 4 < 2 ^ 31 by decide), Int32.toInt_zero] at *; omega)⟩
        · refine V_iconst (nI 1) dX5_isPlace_20 (by decide) ?_
          refine V_goto 25 dX5_isPlace_21 (by decide) ?_
          refine V_zreti dX5_isPlace_25 (by first | exact bz_01 | exact nI_01 (Or.inl rfl) | exact nI_01 (Or.inr rfl) | assumption) ?_
          exact ⟨rfl, by first | exact bz_r1 (by simp only [inR, Int32.lt_iff_toInt_lt, Int32.le_iff_toInt_le, nI_toInt (show 8 < 2 ^ 31 by decide), nI_toInt (show 10 < 2 ^ 31 by decide), nI_toInt (show 4 < 2 ^ 31 by decide), Int32.toInt_zero] at *; omega) | exact bz_r0 (by simp only [inR, Int32.lt_iff_toInt_lt, Int32.le_iff_toInt_le, nI_toInt (show 8 < 2 ^ 31 by decide), nI_toInt (show 10 < 2 ^ 31 by decide), nI_toInt (show 4 < 2 ^ 31 by decide), Int32.toInt_zero] at *; omega)⟩
set_option maxRecDepth 4000 in
theorem m_X5_isDirection (G : GE) (h : Mem) (x : Int32) : Ct idsA G yX5_isDirection cX5_isDirection 1 (some .boolean) (rmD 0) [.int x] h (Qi fun r h' => h' = h ∧ r = bz (inR x 4)) := by
  refine Ct.of [some (.int x)] (by decide) (Nat.le_of_ble_eq_true rfl) (lvE_ok 0 rfl) ?_
  refine V_iload0 dX5_isDirection_0 ?_
  first | refine V_if_lt_n 13 dX5_isDirection_1 (by decide) (by omega) (fun c1 => ?_) (fun c1 => ?_) | refine V_if_lt 13 dX5_isDirection_1 (by decide) (fun c1 => ?_) (fun c1 => ?_)
  · refine V_iconst (nI 0) dX5_isDirection_13 (by decide) ?_
    refine V_zreti dX5_isDirection_14 (by first | exact bz_01 | exact nI_01 (Or.inl rfl) | exact nI_01 (Or.inr rfl) | assumption) ?_
    exact ⟨rfl, by first | exact bz_r1 (by simp only [inR, Int32.lt_iff_toInt_lt, Int32.le_iff_toInt_le, nI_toInt (show 8 < 2 ^ 31 by decide), nI_toInt (show 10 < 2 ^ 31 by decide), nI_toInt (show 4 < 2 ^ 31 by decide), Int32.toInt_zero] at *; omega) | exact bz_r0 (by simp only [inR, Int32.lt_iff_toInt_lt, Int32.le_iff_toInt_le, nI_toInt (show 8 < 2 ^ 31 by decide), nI_toInt (show 10 < 2 ^ 31 by decide), nI_toInt (show 4 < 2 ^ 31 by decide), Int32.toInt_zero] at *; omega)⟩
  · refine V_iload0 dX5_isDirection_4 ?_
    refine V_iconst (nI 4) dX5_isDirection_5 (by decide) ?_
    first | refine V_icmp_ge_n 13 dX5_isDirection_6 (by decide) (by omega) (by omega) (fun c6 => ?_) (fun c6 => ?_) | refine V_icmp_ge 13 dX5_isDirection_6 (by decide) (fun c6 => ?_) (fun c6 => ?_)
    · refine V_iconst (nI 0) dX5_isDirection_13 (by decide) ?_
      refine V_zreti dX5_isDirection_14 (by first | exact bz_01 | exact nI_01 (Or.inl rfl) | exact nI_01 (Or.inr rfl) | assumption) ?_
      exact ⟨rfl, by first | exact bz_r1 (by simp only [inR, Int32.lt_iff_toInt_lt, Int32.le_iff_toInt_le, nI_toInt (show 8 < 2 ^ 31 by decide), nI_toInt (show 10 < 2 ^ 31 by decide), nI_toInt (show 4 < 2 ^ 31 by decide), Int32.toInt_zero] at *; omega) | exact bz_r0 (by simp only [inR, Int32.lt_iff_toInt_lt, Int32.le_iff_toInt_le, nI_toInt (show 8 < 2 ^ 31 by decide), nI_toInt (show 10 < 2 ^ 31 by decide), nI_toInt (show 4 < 2 ^ 31 by decide), Int32.toInt_zero] at *; omega)⟩
    · refine V_iconst (nI 1) dX5_isDirection_9 (by decide) ?_
      refine V_goto 14 dX5_isDirection_10 (by decide) ?_
      refine V_zreti dX5_isDirection_14 (by first | exact bz_01 | exact nI_01 (Or.inl rfl) | exact nI_01 (Or.inr rfl) | assumption) ?_
      exact ⟨rfl, by first | exact bz_r1 (by simp only [inR, Int32.lt_iff_toInt_lt, Int32.le_iff_toInt_le, nI_toInt (show 8 < 2 ^ 31 by decide), nI_toInt (show 10 < 2 ^ 31 by decide), nI_toInt (show 4 < 2 ^ 31 by decide), Int32.toInt_zero] at *; omega) | exact bz_r0 (by simp only [inR, Int32.lt_iff_toInt_lt, Int32.le_iff_toInt_le, nI_toInt (show 8 < 2 ^ 31 by decide), nI_toInt (show 10 < 2 ^ 31 by decide), nI_toInt (show 4 < 2 ^ 31 by decide), Int32.toInt_zero] at *; omega)⟩
set_option maxRecDepth 4000 in
theorem m_X5_placeAt (G : GE) (h : Mem) (x y : Nat) : Ct idsA G yX5_placeAt cX5_placeAt 2 (some .int) (rmD 0) [.int (nI x), .int (nI y)] h (Qi fun r h' => h' = h ∧ r = nI (y * 10 + x)) := by
  refine Ct.of [some (.int (nI x)), some (.int (nI y))] (by decide) (Nat.le_of_ble_eq_true rfl) (lvE_ok 0 rfl) ?_
  refine V_iload1 dX5_placeAt_0 ?_
  refine V_bipush (nI 10) dX5_placeAt_1 (by decide) ?_
  first | refine V_imul_n dX5_placeAt_3 ?_ | refine V_imul dX5_placeAt_3 ?_
  refine V_iload0 dX5_placeAt_4 ?_
  first | refine V_iadd_n dX5_placeAt_5 ?_ | refine V_iadd dX5_placeAt_5 ?_
  refine V_ireti dX5_placeAt_6 ?_
  exact ⟨rfl, rfl⟩
set_option maxRecDepth 4000 in
theorem m_X5_found (G : GE) (h : Mem) (f : Nat) : Ct idsA G yX5_found cX5_found 2 (some .int) (rmD 0) [.ref (ad G 0), .int (nI f)] h (Qi fun r h' => h' = wr h 0 10 (nI f) ∧ r = -1000010 - nI f) := by
  refine Ct.of [some (.ref (ad G 0)), some (.int (nI f))] (by decide) (Nat.le_of_ble_eq_true rfl) (lvE_ok 0 rfl) ?_
  refine V_aload0 dX5_found_0 ?_
  refine V_iload1 dX5_found_1 ?_
  refine pX5_264 dX5_found_2 ?_
  refine V_ldc_w ct_X5_267 dX5_found_5 ?_
  refine V_iload1 dX5_found_8 ?_
  first | refine V_isub_n dX5_found_9 (by omega) ?_ | refine V_isub dX5_found_9 ?_
  refine V_ireti dX5_found_10 ?_
  exact ⟨rfl, rfl⟩
set_option maxRecDepth 4000 in
theorem m_X5_unfound (G : GE) (h : Mem) (v : Int32) : Ct idsA G yX5_unfound cX5_unfound 2 (some .int) (rmD 0) [.ref (ad G 0), .int v] h (Qi fun r h' => h' = wr h 0 10 (nI 0) ∧ r = v) := by
  refine Ct.of [some (.ref (ad G 0)), some (.int v)] (by decide) (Nat.le_of_ble_eq_true rfl) (lvE_ok 0 rfl) ?_
  refine V_aload0 dX5_unfound_0 ?_
  refine V_iconst (nI 0) dX5_unfound_1 (by decide) ?_
  refine pX5_264 dX5_unfound_2 ?_
  refine V_iload1 dX5_unfound_5 ?_
  refine V_ireti dX5_unfound_6 ?_
  exact ⟨rfl, rfl⟩
set_option maxRecDepth 4000 in
theorem m_X5_beside (G : GE) (h : Mem) (p d : Nat) (hp : p < 100) (hd : d < 4) : Ct idsA G yX5_beside cX5_beside 2 (some .int) (rmD 0) [.int (nI p), .int (nI d)] h (Qi fun r h' => h' = h ∧ r = oI (nb p d) (-1)) := by
  refine Ct.of [some (.int (nI p)), some (.int (nI d))] (by decide) (Nat.le_of_ble_eq_true rfl) (lvE_ok 0 rfl) ?_
  refine V_iload1 dX5_beside_0 ?_
  rcases (show d = 0 ∨ d = 1 ∨ d = 2 ∨ d = 3 by omega) with rfl | rfl | rfl | rfl
  · refine V_tableIn 28 dX5_beside_1 (by decide) (by decide) rfl (by decide) ?_
    refine V_iload0 dX5_beside_28 ?_
    refine V_bipush (nI 10) dX5_beside_29 (by decide) ?_
    first | refine V_icmp_lt_n 41 dX5_beside_31 (by decide) (by omega) (by omega) (fun c31 => ?_) (fun c31 => ?_) | refine V_icmp_lt 41 dX5_beside_31 (by decide) (fun c31 => ?_) (fun c31 => ?_)
    · refine V_iconst (-1) dX5_beside_41 (by decide) ?_
      refine V_ireti dX5_beside_42 ?_
      exact ⟨rfl, by by_cases e0 : 10 ≤ p <;> by_cases e1 : p % 10 < 9 <;> by_cases e2 : p < 90 <;> by_cases e3 : 0 < p % 10 <;> simp [nb, oI, e0, e1, e2, e3] <;> omega⟩
    · refine V_iload0 dX5_beside_34 ?_
      refine V_bipush (nI 10) dX5_beside_35 (by decide) ?_
      first | refine V_isub_n dX5_beside_37 (by omega) ?_ | refine V_isub dX5_beside_37 ?_
      refine V_goto 42 dX5_beside_38 (by decide) ?_
      refine V_ireti dX5_beside_42 ?_
      exact ⟨rfl, by by_cases e0 : 10 ≤ p <;> by_cases e1 : p % 10 < 9 <;> by_cases e2 : p < 90 <;> by_cases e3 : 0 < p % 10 <;> simp [nb, oI, e0, e1, e2, e3] <;> omega⟩
  · refine V_tableIn 43 dX5_beside_1 (by decide) (by decide) rfl (by decide) ?_
    refine V_iload0 dX5_beside_43 ?_
    refine V_bipush (nI 10) dX5_beside_44 (by decide) ?_
    first | refine V_irem_n dX5_beside_46 (by omega) (by omega) (by omega) ?_ | refine V_irem dX5_beside_46 (by decide) ?_
    refine V_bipush (nI 9) dX5_beside_47 (by decide) ?_
    first | refine V_icmp_ge_n 58 dX5_beside_49 (by decide) (by omega) (by omega) (fun c49 => ?_) (fun c49 => ?_) | refine V_icmp_ge 58 dX5_beside_49 (by decide) (fun c49 => ?_) (fun c49 => ?_)
    · refine V_iconst (-1) dX5_beside_58 (by decide) ?_
      refine V_ireti dX5_beside_59 ?_
      exact ⟨rfl, by by_cases e0 : 10 ≤ p <;> by_cases e1 : p % 10 < 9 <;> by_cases e2 : p < 90 <;> by_cases e3 : 0 < p % 10 <;> simp [nb, oI, e0, e1, e2, e3] <;> omega⟩
    · refine V_iload0 dX5_beside_52 ?_
      refine V_iconst (nI 1) dX5_beside_53 (by decide) ?_
      first | refine V_iadd_n dX5_beside_54 ?_ | refine V_iadd dX5_beside_54 ?_
      refine V_goto 59 dX5_beside_55 (by decide) ?_
      refine V_ireti dX5_beside_59 ?_
      exact ⟨rfl, by by_cases e0 : 10 ≤ p <;> by_cases e1 : p % 10 < 9 <;> by_cases e2 : p < 90 <;> by_cases e3 : 0 < p % 10 <;> simp [nb, oI, e0, e1, e2, e3] <;> omega⟩
  · refine V_tableIn 60 dX5_beside_1 (by decide) (by decide) rfl (by decide) ?_
    refine V_iload0 dX5_beside_60 ?_
    refine V_bipush (nI 90) dX5_beside_61 (by decide) ?_
    first | refine V_icmp_ge_n 73 dX5_beside_63 (by decide) (by omega) (by omega) (fun c63 => ?_) (fun c63 => ?_) | refine V_icmp_ge 73 dX5_beside_63 (by decide) (fun c63 => ?_) (fun c63 => ?_)
    · refine V_iconst (-1) dX5_beside_73 (by decide) ?_
      refine V_ireti dX5_beside_74 ?_
      exact ⟨rfl, by by_cases e0 : 10 ≤ p <;> by_cases e1 : p % 10 < 9 <;> by_cases e2 : p < 90 <;> by_cases e3 : 0 < p % 10 <;> simp [nb, oI, e0, e1, e2, e3] <;> omega⟩
    · refine V_iload0 dX5_beside_66 ?_
      refine V_bipush (nI 10) dX5_beside_67 (by decide) ?_
      first | refine V_iadd_n dX5_beside_69 ?_ | refine V_iadd dX5_beside_69 ?_
      refine V_goto 74 dX5_beside_70 (by decide) ?_
      refine V_ireti dX5_beside_74 ?_
      exact ⟨rfl, by by_cases e0 : 10 ≤ p <;> by_cases e1 : p % 10 < 9 <;> by_cases e2 : p < 90 <;> by_cases e3 : 0 < p % 10 <;> simp [nb, oI, e0, e1, e2, e3] <;> omega⟩
  · refine V_tableOut 75 dX5_beside_1 (by decide) (by decide) ?_
    refine V_iload0 dX5_beside_75 ?_
    refine V_bipush (nI 10) dX5_beside_76 (by decide) ?_
    first | refine V_irem_n dX5_beside_78 (by omega) (by omega) (by omega) ?_ | refine V_irem dX5_beside_78 (by decide) ?_
    first | refine V_if_le_n 88 dX5_beside_79 (by decide) (by omega) (fun c79 => ?_) (fun c79 => ?_) | refine V_if_le 88 dX5_beside_79 (by decide) (fun c79 => ?_) (fun c79 => ?_)
    · refine V_iconst (-1) dX5_beside_88 (by decide) ?_
      refine V_ireti dX5_beside_89 ?_
      exact ⟨rfl, by by_cases e0 : 10 ≤ p <;> by_cases e1 : p % 10 < 9 <;> by_cases e2 : p < 90 <;> by_cases e3 : 0 < p % 10 <;> simp [nb, oI, e0, e1, e2, e3] <;> omega⟩
    · refine V_iload0 dX5_beside_82 ?_
      refine V_iconst (nI 1) dX5_beside_83 (by decide) ?_
      first | refine V_isub_n dX5_beside_84 (by omega) ?_ | refine V_isub dX5_beside_84 ?_
      refine V_goto 89 dX5_beside_85 (by decide) ?_
      refine V_ireti dX5_beside_89 ?_
      exact ⟨rfl, by by_cases e0 : 10 ≤ p <;> by_cases e1 : p % 10 < 9 <;> by_cases e2 : p < 90 <;> by_cases e3 : 0 < p % 10 <;> simp [nb, oI, e0, e1, e2, e3] <;> omega⟩
set_option maxRecDepth 4000 in
theorem m_X5_sideBetween (G : GE) (h : Mem) (p q d : Nat) (hp : p < 100) (hq : q < 100) (hd : d < 4) : Ct idsA G yX5_sideBetween cX5_sideBetween 3 (some .int) (rmD 1) [.int (nI p), .int (nI q), .int (nI d)] h (Qi fun r h' => h' = h ∧ r = nI (sA p q d)) := by
  refine Ct.of [some (.int (nI p)), some (.int (nI q)), some (.int (nI d))] (by decide) (Nat.le_of_ble_eq_true rfl) (lvE_ok 0 rfl) ?_
  refine V_iload0 dX5_sideBetween_0 ?_
  refine V_iload1 dX5_sideBetween_1 ?_
  refine kX5_268 (by decide) (Nat.le_of_ble_eq_true rfl) dX5_sideBetween_2 ?_
  rw [show (if nI q < nI p then nI q else nI p) = nI (min p q) by simp only [nI_ltI (show q < 2 ^ 31 by omega) (show p < 2 ^ 31 by omega), Nat.min_def]; split <;> split <;> first | rfl | (congr 1; omega)]
  refine V_iconst (nI 2) dX5_sideBetween_5 (by decide) ?_
  first | refine V_imul_n dX5_sideBetween_6 ?_ | refine V_imul dX5_sideBetween_6 ?_
  refine V_iload2 dX5_sideBetween_7 ?_
  refine V_iconst (nI 2) dX5_sideBetween_8 (by decide) ?_
  first | refine V_irem_n dX5_sideBetween_9 (by omega) (by omega) (by omega) ?_ | refine V_irem dX5_sideBetween_9 (by decide) ?_
  first | refine V_iadd_n dX5_sideBetween_10 ?_ | refine V_iadd dX5_sideBetween_10 ?_
  refine V_ireti dX5_sideBetween_11 ?_
  exact ⟨rfl, rfl⟩
end
section
section VA
variable {ids : List Nat} {G : GE} {own : String} {cc : ByteArray} {nL : Nat} {ret : Option FieldType} {R : Room} {pc : Nat} {lv : List OV} {st : List Value} {h : Mem} {Q : Option Value → Mem → Prop}
theorem V_iand_n {a b : Nat} (hd : decode cc pc = .ok (.iand, 1)) (k : V ids G own cc nL ret R (pc + 1) lv (.int (nI (a &&& b)) :: st) h Q) : V ids G own cc nL ret R pc lv (.int (nI b) :: .int (nI a) :: st) h Q := V_iand hd (by rw [fa_and]; exact k)
theorem V_ior_n {a b : Nat} (hd : decode cc pc = .ok (.ior, 1)) (k : V ids G own cc nL ret R (pc + 1) lv (.int (nI (a ||| b)) :: st) h Q) : V ids G own cc nL ret R pc lv (.int (nI b) :: .int (nI a) :: st) h Q := V_ior hd (by rw [fa_or]; exact k)
theorem V_ixor_n {a b : Nat} (hd : decode cc pc = .ok (.ixor, 1)) (k : V ids G own cc nL ret R (pc + 1) lv (.int (nI (a ^^^ b)) :: st) h Q) : V ids G own cc nL ret R pc lv (.int (nI b) :: .int (nI a) :: st) h Q := V_ixor hd (by rw [fb_xorI]; exact k)
end VA
theorem ct_t {p : Nat → Bool} {n : Nat} (h : p n = true) : fb_ct p n + 1 = fb_ct p (n + 1) := by rw [fb_ct_succ, if_pos h]
theorem ct_f {p : Nat → Bool} {n : Nat} (h : p n = false) : fb_ct p n = fb_ct p (n + 1) := by rw [fb_ct_succ, if_neg (by rw [h]; decide)]; rfl
theorem or_lt12 {a b : Nat} (ha : a < 4096) (hb : b < 4096) : a ||| b < 4096 := Nat.or_lt_two_pow (n := 12) ha hb
def popc (x : Nat) : Nat := fb_ct (fun i => x.testBit i) 12
theorem popc_le (x : Nat) : popc x ≤ 12 := fb_ct_le _ 12
theorem nb_lt {p d q : Nat} (hp : p < 100) (h : nb p d = some q) : q < 100 := by
  unfold nb at h
  repeat' split at h
  all_goals first | cases h; omega | cases h
theorem sA_lt {p q d : Nat} (hp : p < 100) : sA p q d < 200 := by
  unfold sA
  have := Nat.min_le_left p q
  have := Nat.mod_lt d (show 0 < 2 by decide)
  omega
def lfM (M : Nat → Nat) (p d : Nat) : Nat := match nb p d with
  | none => 0
  | some q => M (sA p q d)
/-- the row linesBy holds the masks M -/
def hasM (M : Nat → Nat) (h : Mem) : Prop := (∀ s, s < 200 → h 10 s = nI (M s)) ∧ ∀ s, M s < 4096
theorem lfM_lt {M : Nat → Nat} (hM : ∀ s, M s < 4096) (p d : Nat) : lfM M p d < 4096 := by
  unfold lfM
  split
  · decide
  · exact hM _
theorem and_lt12 {a b : Nat} (h : a < 4096) : a &&& b < 4096 := Nat.lt_of_le_of_lt Nat.and_le_left h
set_option maxRecDepth 4000 in
theorem m_J6_bitCount_0f7a4 (G : GE) (h : Mem) (x : Nat) (hx : x < 4096) : Ct idsA G yJ6_bitCount_0f7a4 cJ6_bitCount_0f7a4 1 (some .int) (rmD 0) [.int (nI x)] h (Qi fun r h' => h' = h ∧ r = nI (popc x)) := by
  refine Ct.of [some (.int (nI x))] (by decide) (Nat.le_of_ble_eq_true rfl) (lvE_ok 0 rfl) ?_
  refine V_iload0 dJ6_bitCount_0f7a4_0 ?_
  refine V_iload0 dJ6_bitCount_0f7a4_1 ?_
  refine V_iconst (nI 1) dJ6_bitCount_0f7a4_2 (by decide) ?_
  refine V_iushr dJ6_bitCount_0f7a4_3 ?_
  refine V_ldc_w ct_J6_265 dJ6_bitCount_0f7a4_4 ?_
  first | refine V_iand_n dJ6_bitCount_0f7a4_7 ?_ | refine V_iand dJ6_bitCount_0f7a4_7 ?_
  first | refine V_isub_n dJ6_bitCount_0f7a4_8 (by omega) ?_ | refine V_isub dJ6_bitCount_0f7a4_8 ?_
  refine V_istore0 dJ6_bitCount_0f7a4_9 (by decide) ?_
  refine V_iload0 dJ6_bitCount_0f7a4_10 ?_
  refine V_ldc_w ct_J6_266 dJ6_bitCount_0f7a4_11 ?_
  first | refine V_iand_n dJ6_bitCount_0f7a4_14 ?_ | refine V_iand dJ6_bitCount_0f7a4_14 ?_
  refine V_iload0 dJ6_bitCount_0f7a4_15 ?_
  refine V_iconst (nI 2) dJ6_bitCount_0f7a4_16 (by decide) ?_
  refine V_iushr dJ6_bitCount_0f7a4_17 ?_
  refine V_ldc_w ct_J6_266 dJ6_bitCount_0f7a4_18 ?_
  first | refine V_iand_n dJ6_bitCount_0f7a4_21 ?_ | refine V_iand dJ6_bitCount_0f7a4_21 ?_
  first | refine V_iadd_n dJ6_bitCount_0f7a4_22 ?_ | refine V_iadd dJ6_bitCount_0f7a4_22 ?_
  refine V_istore0 dJ6_bitCount_0f7a4_23 (by decide) ?_
  refine V_iload0 dJ6_bitCount_0f7a4_24 ?_
  refine V_iload0 dJ6_bitCount_0f7a4_25 ?_
  refine V_iconst (nI 4) dJ6_bitCount_0f7a4_26 (by decide) ?_
  refine V_iushr dJ6_bitCount_0f7a4_27 ?_
  first | refine V_iadd_n dJ6_bitCount_0f7a4_28 ?_ | refine V_iadd dJ6_bitCount_0f7a4_28 ?_
  refine V_ldc_w ct_J6_267 dJ6_bitCount_0f7a4_29 ?_
  first | refine V_iand_n dJ6_bitCount_0f7a4_32 ?_ | refine V_iand dJ6_bitCount_0f7a4_32 ?_
  refine V_istore0 dJ6_bitCount_0f7a4_33 (by decide) ?_
  refine V_iload0 dJ6_bitCount_0f7a4_34 ?_
  refine V_iload0 dJ6_bitCount_0f7a4_35 ?_
  refine V_bipush (nI 8) dJ6_bitCount_0f7a4_36 (by decide) ?_
  refine V_iushr dJ6_bitCount_0f7a4_38 ?_
  first | refine V_iadd_n dJ6_bitCount_0f7a4_39 ?_ | refine V_iadd dJ6_bitCount_0f7a4_39 ?_
  refine V_istore0 dJ6_bitCount_0f7a4_40 (by decide) ?_
  refine V_iload0 dJ6_bitCount_0f7a4_41 ?_
  refine V_iload0 dJ6_bitCount_0f7a4_42 ?_
  refine V_bipush (nI 16) dJ6_bitCount_0f7a4_43 (by decide) ?_
  refine V_iushr dJ6_bitCount_0f7a4_45 ?_
  first | refine V_iadd_n dJ6_bitCount_0f7a4_46 ?_ | refine V_iadd dJ6_bitCount_0f7a4_46 ?_
  refine V_istore0 dJ6_bitCount_0f7a4_47 (by decide) ?_
  refine V_iload0 dJ6_bitCount_0f7a4_48 ?_
  refine V_bipush (nI 63) dJ6_bitCount_0f7a4_49 (by decide) ?_
  first | refine V_iand_n dJ6_bitCount_0f7a4_51 ?_ | refine V_iand dJ6_bitCount_0f7a4_51 ?_
  refine V_ireti dJ6_bitCount_0f7a4_52 ?_
  refine ⟨rfl, ?_⟩
  revert x
  decide +kernel
end
section
set_option maxRecDepth 4000 in
theorem m_X2_linesFrom (G : GE) (h : Mem) (M : Nat → Nat) (hM : hasM M h) (p d : Nat) (hp : p < 100) (hd : d < 4) : Ct idsA G yX2_linesFrom cX2_linesFrom 4 (some .int) (rmD 2) [.ref (ad G 4), .int (nI p), .int (nI d)] h (Qi fun r h' => h' = h ∧ r = nI (lfM M p d)) := by
  refine Ct.of [some (.ref (ad G 4)), some (.int (nI p)), some (.int (nI d)), none] (by decide) (Nat.le_of_ble_eq_true rfl) (lvE_ok 1 rfl) ?_
  refine V_iload1 dX2_linesFrom_0 ?_
  refine V_iload2 dX2_linesFrom_1 ?_
  refine kX2_46 (m_X5_beside _ _ _ _ (by first | assumption | omega) (by first | assumption | omega)) (rOK_d (by decide) (by decide)) (Nat.le_of_ble_eq_true rfl) dX2_linesFrom_2 (fun r2 h2 hq2 => ?_)
  obtain ⟨rfl, rfl⟩ := hq2
  cases e : nb p d with
  | none =>
    simp only [oI]
    refine V_istore3 dX2_linesFrom_5 (by decide) rfl ?_
    refine V_iload3 dX2_linesFrom_6 ?_
    first | refine V_if_ge_n 14 dX2_linesFrom_7 (by decide) (by omega) (fun c7 => ?_) (fun c7 => ?_) | refine V_if_ge 14 dX2_linesFrom_7 (by decide) (fun c7 => ?_) (fun c7 => ?_)
    · exact absurd c7 (by decide) --end
    · refine V_iconst (nI 0) dX2_linesFrom_10 (by decide) ?_
      refine V_goto 25 dX2_linesFrom_11 (by decide) ?_
      refine V_ireti dX2_linesFrom_25 ?_
      exact ⟨rfl, by simp [lfM, e]⟩
  | some q =>
    have hq := nb_lt hp e
    simp only [oI]
    refine V_istore3 dX2_linesFrom_5 (by decide) rfl ?_
    refine V_iload3 dX2_linesFrom_6 ?_
    first | refine V_if_ge_n 14 dX2_linesFrom_7 (by decide) (by omega) (fun c7 => ?_) (fun c7 => ?_) | refine V_if_ge 14 dX2_linesFrom_7 (by decide) (fun c7 => ?_) (fun c7 => ?_)
    · refine V_aload0 dX2_linesFrom_14 ?_
      refine gX2_19 dX2_linesFrom_15 ?_
      refine V_iload1 dX2_linesFrom_18 ?_
      refine V_iload3 dX2_linesFrom_19 ?_
      refine V_iload2 dX2_linesFrom_20 ?_
      refine kX2_49 (m_X5_sideBetween _ _ _ _ _ (by first | assumption | omega) (by first | assumption | omega) (by first | assumption | omega)) (rOK_d (by decide) (by decide)) (Nat.le_of_ble_eq_true rfl) dX2_linesFrom_21 (fun r21 h21 hq21 => ?_)
      obtain ⟨rfl, rfl⟩ := hq21
      refine V_iaload (by decide) aI_10 (by decide) rfl (sA_lt hp) dX2_linesFrom_24 ?_
      refine V_ireti dX2_linesFrom_25 ?_
      exact ⟨rfl, by simp [lfM, e]; exact hM.1 _ (sA_lt hp)⟩
    · exact c7.elim --end
set_option maxRecDepth 4000 in
theorem m_X2_widthFrom (G : GE) (h : Mem) (M : Nat → Nat) (hM : hasM M h) (p d : Nat) (hp : p < 100) (hd : d < 4) : Ct idsA G yX2_widthFrom cX2_widthFrom 3 (some .int) (rmD 3) [.ref (ad G 4), .int (nI p), .int (nI d)] h (Qi fun r h' => h' = h ∧ r = nI (popc (lfM M p d))) := by
  refine Ct.of [some (.ref (ad G 4)), some (.int (nI p)), some (.int (nI d))] (by decide) (Nat.le_of_ble_eq_true rfl) (lvE_ok 0 rfl) ?_
  refine V_aload0 dX2_widthFrom_0 ?_
  refine V_iload1 dX2_widthFrom_1 ?_
  refine V_iload2 dX2_widthFrom_2 ?_
  refine kX2_53 (m_X2_linesFrom _ _ M hM _ _ (by first | assumption | omega) (by first | assumption | omega)) (rOK_d (by decide) (by decide)) (Nat.le_of_ble_eq_true rfl) dX2_widthFrom_3 (fun r3 h3 hq3 => ?_)
  obtain ⟨rfl, rfl⟩ := hq3
  refine kX2_56 (m_J6_bitCount_0f7a4 _ _ _ (by first | assumption | omega | exact hM.2 _ | exact lfM_lt hM.2 _ _ | exact and_lt12 (lfM_lt hM.2 _ _))) (rOK_d (by decide) (by decide)) (Nat.le_of_ble_eq_true rfl) dX2_widthFrom_6 (fun r6 h6 hq6 => ?_)
  obtain ⟨rfl, rfl⟩ := hq6
  refine V_ireti dX2_widthFrom_9 ?_
  exact ⟨rfl, rfl⟩
set_option maxRecDepth 4000 in
theorem l_X2_usedSides (G : GE) (h : Mem) (M : Nat → Nat) (hM : hasM M h) (side : Nat) (hs : side ≤ 200) : V idsA G RX2 cX2_usedSides 3 (some .int) (rmD 1) 4 [some (.ref (ad G 4)), some (.int (nI (fb_ct (fun s => decide (¬ M s = 0)) side))), some (.int (nI side))] [] h (Qi (fun r h' => h' = h ∧ r = nI (fb_ct (fun s => decide (¬ M s = 0)) 200))) := by
  induction hn : 200 - side using Nat.strongRecOn generalizing side with
  | _ n ih =>
    subst hn
    refine V_iload2 dX2_usedSides_4 ?_
    refine V_sipush (nI 200) dX2_usedSides_5 (by decide) ?_
    first | refine V_icmp_ge_n 29 dX2_usedSides_8 (by decide) (by omega) (by omega) (fun c8 => ?_) (fun c8 => ?_) | refine V_icmp_ge 29 dX2_usedSides_8 (by decide) (fun c8 => ?_) (fun c8 => ?_)
    · refine V_iload1 dX2_usedSides_29 ?_
      refine V_ireti dX2_usedSides_30 ?_
      obtain rfl : side = 200 := by omega
      exact ⟨rfl, rfl⟩
    · refine V_aload0 dX2_usedSides_11 ?_
      refine gX2_19 dX2_usedSides_12 ?_
      refine V_iload2 dX2_usedSides_15 ?_
      refine V_iaload (by decide) aI_10 (by decide) rfl (by first | assumption | omega) dX2_usedSides_16 ?_
      rw [hM.1 side (by omega)]
      have hlt := hM.2 side
      first | refine V_if_eq_z 23 dX2_usedSides_17 (by decide) (fun c17 => ?_) (fun c17 => ?_) | refine V_if_eq_n 23 dX2_usedSides_17 (by decide) (by omega) (fun c17 => ?_) (fun c17 => ?_) | refine V_if_eq 23 dX2_usedSides_17 (by decide) (fun c17 => ?_) (fun c17 => ?_)
      · first | refine V_iinc2_n 1 dX2_usedSides_23 (by decide) (by decide) rfl ?_ | refine V_iinc2 (nI 1) dX2_usedSides_23 (by decide) (by decide) rfl ?_
        refine V_goto 4 dX2_usedSides_26 (by decide) ?_
        first | rw [ct_t (p := (fun s => decide (¬ M s = 0))) (n := side) (decide_eq_true c17)] | rw [ct_f (p := (fun s => decide (¬ M s = 0))) (n := side) (decide_eq_false (fun z => z c17))]
        exact ih _ (by omega) (side + 1) (by omega) rfl
      · first | refine V_iinc1_n 1 dX2_usedSides_20 (by decide) (by decide) rfl ?_ | refine V_iinc1 (nI 1) dX2_usedSides_20 (by decide) (by decide) rfl ?_
        first | refine V_iinc2_n 1 dX2_usedSides_23 (by decide) (by decide) rfl ?_ | refine V_iinc2 (nI 1) dX2_usedSides_23 (by decide) (by decide) rfl ?_
        refine V_goto 4 dX2_usedSides_26 (by decide) ?_
        first | rw [ct_t (p := (fun s => decide (¬ M s = 0))) (n := side) (decide_eq_true c17)] | rw [ct_f (p := (fun s => decide (¬ M s = 0))) (n := side) (decide_eq_false (fun z => z c17))]
        exact ih _ (by omega) (side + 1) (by omega) rfl
set_option maxRecDepth 4000 in
theorem m_X2_usedSides (G : GE) (h : Mem) (M : Nat → Nat) (hM : hasM M h) : Ct idsA G yX2_usedSides cX2_usedSides 3 (some .int) (rmD 1) [.ref (ad G 4)] h (Qi fun r h' => h' = h ∧ r = nI (fb_ct (fun s => decide (¬ M s = 0)) 200)) := by
  refine Ct.of [some (.ref (ad G 4)), none, none] (by decide) (Nat.le_of_ble_eq_true rfl) (lvE_ok 2 rfl) ?_
  refine V_iconst (nI 0) dX2_usedSides_0 (by decide) ?_
  refine V_istore1 dX2_usedSides_1 (by decide) rfl ?_
  refine V_iconst (nI 0) dX2_usedSides_2 (by decide) ?_
  refine V_istore2 dX2_usedSides_3 (by decide) rfl ?_
  exact l_X2_usedSides G h M hM 0 (by decide)
set_option maxRecDepth 4000 in
theorem l_X2_sidesWithAll (G : GE) (h : Mem) (M : Nat → Nat) (hM : hasM M h) (b : Nat) (hb : b < 4096) (side : Nat) (hs : side ≤ 200) : V idsA G RX2 cX2_sidesWithAll 4 (some .int) (rmD 1) 4 [some (.ref (ad G 4)), some (.int (nI b)), some (.int (nI (fb_ct (fun s => decide (M s &&& b = b)) side))), some (.int (nI side))] [] h (Qi (fun r h' => h' = h ∧ r = nI (fb_ct (fun s => decide (M s &&& b = b)) 200))) := by
  induction hn : 200 - side using Nat.strongRecOn generalizing side with
  | _ n ih =>
    subst hn
    refine V_iload3 dX2_sidesWithAll_4 ?_
    refine V_sipush (nI 200) dX2_sidesWithAll_5 (by decide) ?_
    first | refine V_icmp_ge_n 32 dX2_sidesWithAll_8 (by decide) (by omega) (by omega) (fun c8 => ?_) (fun c8 => ?_) | refine V_icmp_ge 32 dX2_sidesWithAll_8 (by decide) (fun c8 => ?_) (fun c8 => ?_)
    · refine V_iload2 dX2_sidesWithAll_32 ?_
      refine V_ireti dX2_sidesWithAll_33 ?_
      obtain rfl : side = 200 := by omega
      exact ⟨rfl, rfl⟩
    · refine V_aload0 dX2_sidesWithAll_11 ?_
      refine gX2_19 dX2_sidesWithAll_12 ?_
      refine V_iload3 dX2_sidesWithAll_15 ?_
      refine V_iaload (by decide) aI_10 (by decide) rfl (by first | assumption | omega) dX2_sidesWithAll_16 ?_
      rw [hM.1 side (by omega)]
      have hlt := hM.2 side
      have hal : M side &&& b < 4096 := and_lt12 hlt
      refine V_iload1 dX2_sidesWithAll_17 ?_
      first | refine V_iand_n dX2_sidesWithAll_18 ?_ | refine V_iand dX2_sidesWithAll_18 ?_
      refine V_iload1 dX2_sidesWithAll_19 ?_
      first | refine V_icmp_ne_n 26 dX2_sidesWithAll_20 (by decide) (by omega) (by omega) (fun c20 => ?_) (fun c20 => ?_) | refine V_icmp_ne 26 dX2_sidesWithAll_20 (by decide) (fun c20 => ?_) (fun c20 => ?_)
      · first | refine V_iinc3_n 1 dX2_sidesWithAll_26 (by decide) (by decide) rfl ?_ | refine V_iinc3 (nI 1) dX2_sidesWithAll_26 (by decide) (by decide) rfl ?_
        refine V_goto 4 dX2_sidesWithAll_29 (by decide) ?_
        first | rw [ct_t (p := (fun s => decide (M s &&& b = b))) (n := side) (decide_eq_true c20)] | rw [ct_f (p := (fun s => decide (M s &&& b = b))) (n := side) (decide_eq_false c20)]
        exact ih _ (by omega) (side + 1) (by omega) rfl
      · first | refine V_iinc2_n 1 dX2_sidesWithAll_23 (by decide) (by decide) rfl ?_ | refine V_iinc2 (nI 1) dX2_sidesWithAll_23 (by decide) (by decide) rfl ?_
        first | refine V_iinc3_n 1 dX2_sidesWithAll_26 (by decide) (by decide) rfl ?_ | refine V_iinc3 (nI 1) dX2_sidesWithAll_26 (by decide) (by decide) rfl ?_
        refine V_goto 4 dX2_sidesWithAll_29 (by decide) ?_
        first | rw [ct_t (p := (fun s => decide (M s &&& b = b))) (n := side) (decide_eq_true c20)] | rw [ct_f (p := (fun s => decide (M s &&& b = b))) (n := side) (decide_eq_false c20)]
        exact ih _ (by omega) (side + 1) (by omega) rfl
set_option maxRecDepth 4000 in
theorem m_X2_sidesWithAll (G : GE) (h : Mem) (M : Nat → Nat) (hM : hasM M h) (b : Nat) (hb : b < 4096) : Ct idsA G yX2_sidesWithAll cX2_sidesWithAll 4 (some .int) (rmD 1) [.ref (ad G 4), .int (nI b)] h (Qi fun r h' => h' = h ∧ r = nI (fb_ct (fun s => decide (M s &&& b = b)) 200)) := by
  refine Ct.of [some (.ref (ad G 4)), some (.int (nI b)), none, none] (by decide) (Nat.le_of_ble_eq_true rfl) (lvE_ok 2 rfl) ?_
  refine V_iconst (nI 0) dX2_sidesWithAll_0 (by decide) ?_
  refine V_istore2 dX2_sidesWithAll_1 (by decide) rfl ?_
  refine V_iconst (nI 0) dX2_sidesWithAll_2 (by decide) ?_
  refine V_istore3 dX2_sidesWithAll_3 (by decide) rfl ?_
  exact l_X2_sidesWithAll G h M hM b hb 0 (by decide)
set_option maxRecDepth 4000 in
theorem l_X2_sidesWithOthers (G : GE) (h : Mem) (M : Nat → Nat) (hM : hasM M h) (l : Nat) (hl : l < 12) (hbit : h (40 + l) 0 = nI (2 ^ l)) (side : Nat) (hs : side ≤ 200) : V idsA G RX2 cX2_sidesWithOthers 4 (some .int) (rmD 1) 4 [some (.ref (ad G 4)), some (.ref (ad G (40 + l))), some (.int (nI (fb_ct (fun s => decide (¬ M s &&& 2 ^ l = 0 ∧ ¬ M s = 2 ^ l)) side))), some (.int (nI side))] [] h (Qi (fun r h' => h' = h ∧ r = nI (fb_ct (fun s => decide (¬ M s &&& 2 ^ l = 0 ∧ ¬ M s = 2 ^ l)) 200))) := by
  induction hn : 200 - side using Nat.strongRecOn generalizing side with
  | _ n ih =>
    subst hn
    refine V_iload3 dX2_sidesWithOthers_4 ?_
    refine V_sipush (nI 200) dX2_sidesWithOthers_5 (by decide) ?_
    first | refine V_icmp_ge_n 47 dX2_sidesWithOthers_8 (by decide) (by omega) (by omega) (fun c8 => ?_) (fun c8 => ?_) | refine V_icmp_ge 47 dX2_sidesWithOthers_8 (by decide) (fun c8 => ?_) (fun c8 => ?_)
    · refine V_iload2 dX2_sidesWithOthers_47 ?_
      refine V_ireti dX2_sidesWithOthers_48 ?_
      obtain rfl : side = 200 := by omega
      exact ⟨rfl, rfl⟩
    · refine V_aload0 dX2_sidesWithOthers_11 ?_
      refine gX2_19 dX2_sidesWithOthers_12 ?_
      refine V_iload3 dX2_sidesWithOthers_15 ?_
      refine V_iaload (by decide) aI_10 (by decide) rfl (by first | assumption | omega) dX2_sidesWithOthers_16 ?_
      rw [hM.1 side (by omega)]
      have hlt := hM.2 side
      have hpw : 2 ^ l < 4096 := Nat.pow_lt_pow_right (by decide) (show l < 12 from hl)
      have hal : M side &&& 2 ^ l < 4096 := and_lt12 hlt
      refine V_aload1 dX2_sidesWithOthers_17 ?_
      refine gX2_93 (by first | assumption | omega) dX2_sidesWithOthers_18 ?_
      rw [hbit]
      first | refine V_iand_n dX2_sidesWithOthers_21 ?_ | refine V_iand dX2_sidesWithOthers_21 ?_
      first | refine V_if_eq_z 41 dX2_sidesWithOthers_22 (by decide) (fun c22 => ?_) (fun c22 => ?_) | refine V_if_eq_n 41 dX2_sidesWithOthers_22 (by decide) (by omega) (fun c22 => ?_) (fun c22 => ?_) | refine V_if_eq 41 dX2_sidesWithOthers_22 (by decide) (fun c22 => ?_) (fun c22 => ?_)
      · first | refine V_iinc3_n 1 dX2_sidesWithOthers_41 (by decide) (by decide) rfl ?_ | refine V_iinc3 (nI 1) dX2_sidesWithOthers_41 (by decide) (by decide) rfl ?_
        refine V_goto 4 dX2_sidesWithOthers_44 (by decide) ?_
        first | rw [ct_t (p := (fun s => decide (¬ M s &&& 2 ^ l = 0 ∧ ¬ M s = 2 ^ l))) (n := side) (decide_eq_true ⟨c22, c35⟩)] | rw [ct_f (p := (fun s => decide (¬ M s &&& 2 ^ l = 0 ∧ ¬ M s = 2 ^ l))) (n := side) (decide_eq_false (fun z => z.2 c35))] | rw [ct_f (p := (fun s => decide (¬ M s &&& 2 ^ l = 0 ∧ ¬ M s = 2 ^ l))) (n := side) (decide_eq_false (fun z => z.1 c22))]
        exact ih _ (by omega) (side + 1) (by omega) rfl
      · refine V_aload0 dX2_sidesWithOthers_25 ?_
        refine gX2_19 dX2_sidesWithOthers_26 ?_
        refine V_iload3 dX2_sidesWithOthers_29 ?_
        refine V_iaload (by decide) aI_10 (by decide) rfl (by first | assumption | omega) dX2_sidesWithOthers_30 ?_
        rw [hM.1 side (by omega)]
        refine V_aload1 dX2_sidesWithOthers_31 ?_
        refine gX2_93 (by first | assumption | omega) dX2_sidesWithOthers_32 ?_
        rw [hbit]
        first | refine V_icmp_eq_n 41 dX2_sidesWithOthers_35 (by decide) (by omega) (by omega) (fun c35 => ?_) (fun c35 => ?_) | refine V_icmp_eq 41 dX2_sidesWithOthers_35 (by decide) (fun c35 => ?_) (fun c35 => ?_)
        · first | refine V_iinc3_n 1 dX2_sidesWithOthers_41 (by decide) (by decide) rfl ?_ | refine V_iinc3 (nI 1) dX2_sidesWithOthers_41 (by decide) (by decide) rfl ?_
          refine V_goto 4 dX2_sidesWithOthers_44 (by decide) ?_
          first | rw [ct_t (p := (fun s => decide (¬ M s &&& 2 ^ l = 0 ∧ ¬ M s = 2 ^ l))) (n := side) (decide_eq_true ⟨c22, c35⟩)] | rw [ct_f (p := (fun s => decide (¬ M s &&& 2 ^ l = 0 ∧ ¬ M s = 2 ^ l))) (n := side) (decide_eq_false (fun z => z.2 c35))] | rw [ct_f (p := (fun s => decide (¬ M s &&& 2 ^ l = 0 ∧ ¬ M s = 2 ^ l))) (n := side) (decide_eq_false (fun z => z.1 c22))]
          exact ih _ (by omega) (side + 1) (by omega) rfl
        · first | refine V_iinc2_n 1 dX2_sidesWithOthers_38 (by decide) (by decide) rfl ?_ | refine V_iinc2 (nI 1) dX2_sidesWithOthers_38 (by decide) (by decide) rfl ?_
          first | refine V_iinc3_n 1 dX2_sidesWithOthers_41 (by decide) (by decide) rfl ?_ | refine V_iinc3 (nI 1) dX2_sidesWithOthers_41 (by decide) (by decide) rfl ?_
          refine V_goto 4 dX2_sidesWithOthers_44 (by decide) ?_
          first | rw [ct_t (p := (fun s => decide (¬ M s &&& 2 ^ l = 0 ∧ ¬ M s = 2 ^ l))) (n := side) (decide_eq_true ⟨c22, c35⟩)] | rw [ct_f (p := (fun s => decide (¬ M s &&& 2 ^ l = 0 ∧ ¬ M s = 2 ^ l))) (n := side) (decide_eq_false (fun z => z.2 c35))] | rw [ct_f (p := (fun s => decide (¬ M s &&& 2 ^ l = 0 ∧ ¬ M s = 2 ^ l))) (n := side) (decide_eq_false (fun z => z.1 c22))]
          exact ih _ (by omega) (side + 1) (by omega) rfl
set_option maxRecDepth 4000 in
theorem m_X2_sidesWithOthers (G : GE) (h : Mem) (M : Nat → Nat) (hM : hasM M h) (l : Nat) (hl : l < 12) (hbit : h (40 + l) 0 = nI (2 ^ l)) : Ct idsA G yX2_sidesWithOthers cX2_sidesWithOthers 4 (some .int) (rmD 1) [.ref (ad G 4), .ref (ad G (40 + l))] h (Qi fun r h' => h' = h ∧ r = nI (fb_ct (fun s => decide (¬ M s &&& 2 ^ l = 0 ∧ ¬ M s = 2 ^ l)) 200)) := by
  refine Ct.of [some (.ref (ad G 4)), some (.ref (ad G (40 + l))), none, none] (by decide) (Nat.le_of_ble_eq_true rfl) (lvE_ok 2 rfl) ?_
  refine V_iconst (nI 0) dX2_sidesWithOthers_0 (by decide) ?_
  refine V_istore2 dX2_sidesWithOthers_1 (by decide) rfl ?_
  refine V_iconst (nI 0) dX2_sidesWithOthers_2 (by decide) ?_
  refine V_istore3 dX2_sidesWithOthers_3 (by decide) rfl ?_
  exact l_X2_sidesWithOthers G h M hM l hl hbit 0 (by decide)
def hasP (pr : Nat → Nat) (h : Mem) : Prop := ∀ j, j < 12 → h 12 j = nI (pr j)
theorem and_pow_bit {a l : Nat} : a &&& 2 ^ l = 0 ↔ a.testBit l = false := fb_bit_nat a l
theorem popc_pos {x l : Nat} (hl : l < 12) (h : ¬ x &&& 2 ^ l = 0) : 1 ≤ popc x := by
  have h1 : x.testBit l = true := by
    cases e : x.testBit l with
    | true => rfl
    | false => exact absurd (and_pow_bit.mpr e) h
  exact fb_ct_pos.mpr ⟨l, hl, h1⟩
set_option maxRecDepth 4000 in
theorem l_X2_costAmongOthers (G : GE) (h : Mem) (M : Nat → Nat) (hM : hasM M h) (pr : Nat → Nat) (hpr : hasP pr h) (l : Nat) (hl : l < 12) (hbit : h (40 + l) 0 = nI (2 ^ l)) (side : Nat) (hs : side ≤ 200) : V idsA G RX2 cX2_costAmongOthers 4 (some .int) (rmD 1) 4 [some (.ref (ad G 4)), some (.ref (ad G (40 + l))), some (.int (nI (fb_sm (fun s => if M s &&& 2 ^ l = 0 then 0 else pr (popc (M s) - 1)) side))), some (.int (nI side))] [] h (Qi (fun r h' => h' = h ∧ r = nI (fb_sm (fun s => if M s &&& 2 ^ l = 0 then 0 else pr (popc (M s) - 1)) 200))) := by
  induction hn : 200 - side using Nat.strongRecOn generalizing side with
  | _ n ih =>
    subst hn
    refine V_iload3 dX2_costAmongOthers_4 ?_
    refine V_sipush (nI 200) dX2_costAmongOthers_5 (by decide) ?_
    first | refine V_icmp_ge_n 50 dX2_costAmongOthers_8 (by decide) (by omega) (by omega) (fun c8 => ?_) (fun c8 => ?_) | refine V_icmp_ge 50 dX2_costAmongOthers_8 (by decide) (fun c8 => ?_) (fun c8 => ?_)
    · refine V_iload2 dX2_costAmongOthers_50 ?_
      refine V_ireti dX2_costAmongOthers_51 ?_
      obtain rfl : side = 200 := by omega
      exact ⟨rfl, rfl⟩
    · refine V_aload0 dX2_costAmongOthers_11 ?_
      refine gX2_19 dX2_costAmongOthers_12 ?_
      refine V_iload3 dX2_costAmongOthers_15 ?_
      refine V_iaload (by decide) aI_10 (by decide) rfl (by first | assumption | omega) dX2_costAmongOthers_16 ?_
      rw [hM.1 side (by omega)]
      have hlt := hM.2 side
      have hpw : 2 ^ l < 4096 := Nat.pow_lt_pow_right (by decide) (show l < 12 from hl)
      have hal : M side &&& 2 ^ l < 4096 := and_lt12 hlt
      refine V_aload1 dX2_costAmongOthers_17 ?_
      refine gX2_93 (by first | assumption | omega) dX2_costAmongOthers_18 ?_
      rw [hbit]
      first | refine V_iand_n dX2_costAmongOthers_21 ?_ | refine V_iand dX2_costAmongOthers_21 ?_
      first | refine V_if_eq_z 44 dX2_costAmongOthers_22 (by decide) (fun c22 => ?_) (fun c22 => ?_) | refine V_if_eq_n 44 dX2_costAmongOthers_22 (by decide) (by omega) (fun c22 => ?_) (fun c22 => ?_) | refine V_if_eq 44 dX2_costAmongOthers_22 (by decide) (fun c22 => ?_) (fun c22 => ?_)
      · first | refine V_iinc3_n 1 dX2_costAmongOthers_44 (by decide) (by decide) rfl ?_ | refine V_iinc3 (nI 1) dX2_costAmongOthers_44 (by decide) (by decide) rfl ?_
        refine V_goto 4 dX2_costAmongOthers_47 (by decide) ?_
        first | rw [show fb_sm (fun s => if M s &&& 2 ^ l = 0 then 0 else pr (popc (M s) - 1)) side + pr (popc (M side) - 1) = fb_sm (fun s => if M s &&& 2 ^ l = 0 then 0 else pr (popc (M s) - 1)) (side + 1) by rw [fb_sm_succ, if_neg c22]] | rw [show fb_sm (fun s => if M s &&& 2 ^ l = 0 then 0 else pr (popc (M s) - 1)) side = fb_sm (fun s => if M s &&& 2 ^ l = 0 then 0 else pr (popc (M s) - 1)) (side + 1) by rw [fb_sm_succ, if_pos c22]; rfl]
        exact ih _ (by omega) (side + 1) (by omega) rfl
      · refine V_iload2 dX2_costAmongOthers_25 ?_
        refine V_aload0 dX2_costAmongOthers_26 ?_
        refine gX2_25 dX2_costAmongOthers_27 ?_
        refine V_aload0 dX2_costAmongOthers_30 ?_
        refine gX2_19 dX2_costAmongOthers_31 ?_
        refine V_iload3 dX2_costAmongOthers_34 ?_
        refine V_iaload (by decide) aI_10 (by decide) rfl (by first | assumption | omega) dX2_costAmongOthers_35 ?_
        rw [hM.1 side (by omega)]
        have hpp := popc_pos hl c22
        have hpl := popc_le (M side)
        refine kX2_56 (m_J6_bitCount_0f7a4 _ _ _ (by first | assumption | omega | exact hM.2 _ | exact lfM_lt hM.2 _ _ | exact and_lt12 (lfM_lt hM.2 _ _))) (rOK_d (by decide) (by decide)) (Nat.le_of_ble_eq_true rfl) dX2_costAmongOthers_36 (fun r36 h36 hq36 => ?_)
        obtain ⟨rfl, rfl⟩ := hq36
        refine V_iconst (nI 1) dX2_costAmongOthers_39 (by decide) ?_
        first | refine V_isub_n dX2_costAmongOthers_40 (by omega) ?_ | refine V_isub dX2_costAmongOthers_40 ?_
        refine V_iaload (by decide) aI_12 (by decide) rfl (by first | assumption | omega) dX2_costAmongOthers_41 ?_
        rw [hpr _ (by omega)]
        first | refine V_iadd_n dX2_costAmongOthers_42 ?_ | refine V_iadd dX2_costAmongOthers_42 ?_
        refine V_istore2 dX2_costAmongOthers_43 (by decide) rfl ?_
        first | refine V_iinc3_n 1 dX2_costAmongOthers_44 (by decide) (by decide) rfl ?_ | refine V_iinc3 (nI 1) dX2_costAmongOthers_44 (by decide) (by decide) rfl ?_
        refine V_goto 4 dX2_costAmongOthers_47 (by decide) ?_
        first | rw [show fb_sm (fun s => if M s &&& 2 ^ l = 0 then 0 else pr (popc (M s) - 1)) side + pr (popc (M side) - 1) = fb_sm (fun s => if M s &&& 2 ^ l = 0 then 0 else pr (popc (M s) - 1)) (side + 1) by rw [fb_sm_succ, if_neg c22]] | rw [show fb_sm (fun s => if M s &&& 2 ^ l = 0 then 0 else pr (popc (M s) - 1)) side = fb_sm (fun s => if M s &&& 2 ^ l = 0 then 0 else pr (popc (M s) - 1)) (side + 1) by rw [fb_sm_succ, if_pos c22]; rfl]
        exact ih _ (by omega) (side + 1) (by omega) rfl
set_option maxRecDepth 4000 in
theorem m_X2_costAmongOthers (G : GE) (h : Mem) (M : Nat → Nat) (hM : hasM M h) (pr : Nat → Nat) (hpr : hasP pr h) (l : Nat) (hl : l < 12) (hbit : h (40 + l) 0 = nI (2 ^ l)) : Ct idsA G yX2_costAmongOthers cX2_costAmongOthers 4 (some .int) (rmD 1) [.ref (ad G 4), .ref (ad G (40 + l))] h (Qi fun r h' => h' = h ∧ r = nI (fb_sm (fun s => if M s &&& 2 ^ l = 0 then 0 else pr (popc (M s) - 1)) 200)) := by
  refine Ct.of [some (.ref (ad G 4)), some (.ref (ad G (40 + l))), none, none] (by decide) (Nat.le_of_ble_eq_true rfl) (lvE_ok 2 rfl) ?_
  refine V_iconst (nI 0) dX2_costAmongOthers_0 (by decide) ?_
  refine V_istore2 dX2_costAmongOthers_1 (by decide) rfl ?_
  refine V_iconst (nI 0) dX2_costAmongOthers_2 (by decide) ?_
  refine V_istore3 dX2_costAmongOthers_3 (by decide) rfl ?_
  exact l_X2_costAmongOthers G h M hM pr hpr l hl hbit 0 (by decide)
end
