section
-- ===== PART A: goes FIRST, ahead of the names: the tables' words, and 'selects' of the private methods out of them =====
/-- a private method of a class that the tables say can be made, by its rows of tables_1 -/
def lw_okq (q : MethodName × Nat) : Prop := (q.1.cls ≠ "java/lang/invoke/MethodHandle" ∧ q.1.cls ≠ "java/lang/invoke/VarHandle") ∧ Cond.instantiable q.1.cls q.2 ∈ tables_1 ∧ Cond.privateMethod q.1 ∈ tables_1 ∧ Cond.instanceMethod q.1 ∈ tables_1
theorem lw_p0 : lw_okq (⟨"RiverJustifier$Paragraph", "openWord", "(C)V"⟩, 6) := ⟨⟨by decide +kernel, by decide +kernel⟩, List.mem_of_getElem? (i := 72) (by decide +kernel), List.mem_of_getElem? (i := 447) (by decide +kernel), List.mem_of_getElem? (i := 448) (by decide +kernel)⟩
theorem lw_p1 : lw_okq (⟨"RiverJustifier$Paragraph", "lengthenWord", "(C)V"⟩, 6) := ⟨⟨by decide +kernel, by decide +kernel⟩, List.mem_of_getElem? (i := 72) (by decide +kernel), List.mem_of_getElem? (i := 456) (by decide +kernel), List.mem_of_getElem? (i := 457) (by decide +kernel)⟩
theorem lw_p2 : lw_okq (⟨"RiverJustifier", "restoreBest", "()I"⟩, 8) := ⟨⟨by decide +kernel, by decide +kernel⟩, List.mem_of_getElem? (i := 19) (by decide +kernel), List.mem_of_getElem? (i := 469) (by decide +kernel), List.mem_of_getElem? (i := 470) (by decide +kernel)⟩
theorem lw_p3 : lw_okq (⟨"RiverJustifier$Layout", "goOnFrom", "(I)V"⟩, 12) := ⟨⟨by decide +kernel, by decide +kernel⟩, List.mem_of_getElem? (i := 199) (by decide +kernel), List.mem_of_getElem? (i := 516) (by decide +kernel), List.mem_of_getElem? (i := 517) (by decide +kernel)⟩
theorem lw_p4 : lw_okq (⟨"RiverJustifier$Layout", "settle", "()V"⟩, 12) := ⟨⟨by decide +kernel, by decide +kernel⟩, List.mem_of_getElem? (i := 199) (by decide +kernel), List.mem_of_getElem? (i := 521) (by decide +kernel), List.mem_of_getElem? (i := 522) (by decide +kernel)⟩
theorem lw_p5 : lw_okq (⟨"RiverJustifier$Layout", "shareOut", "(II)V"⟩, 12) := ⟨⟨by decide +kernel, by decide +kernel⟩, List.mem_of_getElem? (i := 199) (by decide +kernel), List.mem_of_getElem? (i := 542) (by decide +kernel), List.mem_of_getElem? (i := 543) (by decide +kernel)⟩
theorem lw_p6 : lw_okq (⟨"RiverJustifier$Layout", "changeKind", "(IIIII)I"⟩, 12) := ⟨⟨by decide +kernel, by decide +kernel⟩, List.mem_of_getElem? (i := 199) (by decide +kernel), List.mem_of_getElem? (i := 549) (by decide +kernel), List.mem_of_getElem? (i := 550) (by decide +kernel)⟩
theorem lw_p7 : lw_okq (⟨"RiverJustifier$Layout", "placeWords", "(III)V"⟩, 12) := ⟨⟨by decide +kernel, by decide +kernel⟩, List.mem_of_getElem? (i := 199) (by decide +kernel), List.mem_of_getElem? (i := 553) (by decide +kernel), List.mem_of_getElem? (i := 554) (by decide +kernel)⟩
theorem lw_p8 : lw_okq (⟨"RiverJustifier$Rivers", "spaceAbove", "(LRiverJustifier$Layout;II)I"⟩, 8) := ⟨⟨by decide +kernel, by decide +kernel⟩, List.mem_of_getElem? (i := 205) (by decide +kernel), List.mem_of_getElem? (i := 566) (by decide +kernel), List.mem_of_getElem? (i := 567) (by decide +kernel)⟩
theorem lw_p9 : lw_okq (⟨"RiverJustifier$Rivers", "collectEnds", "(LRiverJustifier$Layout;I)V"⟩, 8) := ⟨⟨by decide +kernel, by decide +kernel⟩, List.mem_of_getElem? (i := 205) (by decide +kernel), List.mem_of_getElem? (i := 574) (by decide +kernel), List.mem_of_getElem? (i := 575) (by decide +kernel)⟩
theorem lw_p10 : lw_okq (⟨"RiverJustifier$Order", "takePiece", "(LRiverJustifier$Text;III)Z"⟩, 3) := ⟨⟨by decide +kernel, by decide +kernel⟩, List.mem_of_getElem? (i := 183) (by decide +kernel), List.mem_of_getElem? (i := 591) (by decide +kernel), List.mem_of_getElem? (i := 592) (by decide +kernel)⟩
theorem lw_p11 : lw_okq (⟨"RiverJustifier$Order", "wantedPieces", "()I"⟩, 3) := ⟨⟨by decide +kernel, by decide +kernel⟩, List.mem_of_getElem? (i := 183) (by decide +kernel), List.mem_of_getElem? (i := 627) (by decide +kernel), List.mem_of_getElem? (i := 628) (by decide +kernel)⟩
theorem lw_p12 : lw_okq (⟨"RiverJustifier$Order", "takeNumber", "(II)Z"⟩, 3) := ⟨⟨by decide +kernel, by decide +kernel⟩, List.mem_of_getElem? (i := 183) (by decide +kernel), List.mem_of_getElem? (i := 636) (by decide +kernel), List.mem_of_getElem? (i := 637) (by decide +kernel)⟩
theorem lw_p13 : lw_okq (⟨"RiverJustifier$Order", "leastNumber", "(I)I"⟩, 3) := ⟨⟨by decide +kernel, by decide +kernel⟩, List.mem_of_getElem? (i := 183) (by decide +kernel), List.mem_of_getElem? (i := 640) (by decide +kernel), List.mem_of_getElem? (i := 641) (by decide +kernel)⟩
theorem lw_p14 : lw_okq (⟨"RiverJustifier$Order", "greatestNumber", "()I"⟩, 3) := ⟨⟨by decide +kernel, by decide +kernel⟩, List.mem_of_getElem? (i := 183) (by decide +kernel), List.mem_of_getElem? (i := 645) (by decide +kernel), List.mem_of_getElem? (i := 646) (by decide +kernel)⟩
theorem lw_p15 : lw_okq (⟨"RiverJustifier", "calmingLine", "()I"⟩, 8) := ⟨⟨by decide +kernel, by decide +kernel⟩, List.mem_of_getElem? (i := 19) (by decide +kernel), List.mem_of_getElem? (i := 706) (by decide +kernel), List.mem_of_getElem? (i := 707) (by decide +kernel)⟩
def lw_privs_1 : List (MethodName × Nat) := [(⟨"RiverJustifier$Paragraph", "openWord", "(C)V"⟩, 6), (⟨"RiverJustifier$Paragraph", "lengthenWord", "(C)V"⟩, 6), (⟨"RiverJustifier", "restoreBest", "()I"⟩, 8), (⟨"RiverJustifier$Layout", "goOnFrom", "(I)V"⟩, 12), (⟨"RiverJustifier$Layout", "settle", "()V"⟩, 12), (⟨"RiverJustifier$Layout", "shareOut", "(II)V"⟩, 12), (⟨"RiverJustifier$Layout", "changeKind", "(IIIII)I"⟩, 12), (⟨"RiverJustifier$Layout", "placeWords", "(III)V"⟩, 12), (⟨"RiverJustifier$Rivers", "spaceAbove", "(LRiverJustifier$Layout;II)I"⟩, 8), (⟨"RiverJustifier$Rivers", "collectEnds", "(LRiverJustifier$Layout;I)V"⟩, 8), (⟨"RiverJustifier$Order", "takePiece", "(LRiverJustifier$Text;III)Z"⟩, 3), (⟨"RiverJustifier$Order", "wantedPieces", "()I"⟩, 3), (⟨"RiverJustifier$Order", "takeNumber", "(II)Z"⟩, 3), (⟨"RiverJustifier$Order", "leastNumber", "(I)I"⟩, 3), (⟨"RiverJustifier$Order", "greatestNumber", "()I"⟩, 3), (⟨"RiverJustifier", "calmingLine", "()I"⟩, 8)]
theorem lw_r1 : ∀ q ∈ lw_privs_1, lw_okq q := List.forall_mem_cons.mpr ⟨lw_p0, List.forall_mem_cons.mpr ⟨lw_p1, List.forall_mem_cons.mpr ⟨lw_p2, List.forall_mem_cons.mpr ⟨lw_p3, List.forall_mem_cons.mpr ⟨lw_p4, List.forall_mem_cons.mpr ⟨lw_p5, List.forall_mem_cons.mpr ⟨lw_p6, List.forall_mem_cons.mpr ⟨lw_p7, List.forall_mem_cons.mpr ⟨lw_p8, List.forall_mem_cons.mpr ⟨lw_p9, List.forall_mem_cons.mpr ⟨lw_p10, List.forall_mem_cons.mpr ⟨lw_p11, List.forall_mem_cons.mpr ⟨lw_p12, List.forall_mem_cons.mpr ⟨lw_p13, List.forall_mem_cons.mpr ⟨lw_p14, List.forall_mem_cons.mpr ⟨lw_p15, fun _ h => absurd h List.not_mem_nil⟩⟩⟩⟩⟩⟩⟩⟩⟩⟩⟩⟩⟩⟩⟩⟩
theorem lw_p16 : lw_okq (⟨"RiverJustifierModel", "layAnew", "()V"⟩, 24) := ⟨⟨by decide +kernel, by decide +kernel⟩, List.mem_of_getElem? (i := 773) (by decide +kernel), List.mem_of_getElem? (i := 779) (by decide +kernel), List.mem_of_getElem? (i := 780) (by decide +kernel)⟩
theorem lw_p17 : lw_okq (⟨"RiverJustifierModel", "findWays", "()V"⟩, 24) := ⟨⟨by decide +kernel, by decide +kernel⟩, List.mem_of_getElem? (i := 773) (by decide +kernel), List.mem_of_getElem? (i := 783) (by decide +kernel), List.mem_of_getElem? (i := 784) (by decide +kernel)⟩
theorem lw_p18 : lw_okq (⟨"RiverJustifierModel", "isPossible", "(II)Z"⟩, 24) := ⟨⟨by decide +kernel, by decide +kernel⟩, List.mem_of_getElem? (i := 773) (by decide +kernel), List.mem_of_getElem? (i := 787) (by decide +kernel), List.mem_of_getElem? (i := 788) (by decide +kernel)⟩
theorem lw_p19 : lw_okq (⟨"RiverJustifierModel", "difference", "(II)I"⟩, 24) := ⟨⟨by decide +kernel, by decide +kernel⟩, List.mem_of_getElem? (i := 773) (by decide +kernel), List.mem_of_getElem? (i := 791) (by decide +kernel), List.mem_of_getElem? (i := 792) (by decide +kernel)⟩
theorem lw_p20 : lw_okq (⟨"RiverJustifierModel", "natural", "(II)I"⟩, 24) := ⟨⟨by decide +kernel, by decide +kernel⟩, List.mem_of_getElem? (i := 773) (by decide +kernel), List.mem_of_getElem? (i := 795) (by decide +kernel), List.mem_of_getElem? (i := 796) (by decide +kernel)⟩
theorem lw_p21 : lw_okq (⟨"RiverJustifierModel", "spaces", "(III)I"⟩, 24) := ⟨⟨by decide +kernel, by decide +kernel⟩, List.mem_of_getElem? (i := 773) (by decide +kernel), List.mem_of_getElem? (i := 799) (by decide +kernel), List.mem_of_getElem? (i := 800) (by decide +kernel)⟩
theorem lw_p22 : lw_okq (⟨"RiverJustifierModel", "hangLeft", "(I)I"⟩, 24) := ⟨⟨by decide +kernel, by decide +kernel⟩, List.mem_of_getElem? (i := 773) (by decide +kernel), List.mem_of_getElem? (i := 803) (by decide +kernel), List.mem_of_getElem? (i := 804) (by decide +kernel)⟩
theorem lw_p23 : lw_okq (⟨"RiverJustifierModel", "hangRight", "(I)I"⟩, 24) := ⟨⟨by decide +kernel, by decide +kernel⟩, List.mem_of_getElem? (i := 773) (by decide +kernel), List.mem_of_getElem? (i := 807) (by decide +kernel), List.mem_of_getElem? (i := 808) (by decide +kernel)⟩
theorem lw_p24 : lw_okq (⟨"RiverJustifierModel", "isLast", "(I)Z"⟩, 24) := ⟨⟨by decide +kernel, by decide +kernel⟩, List.mem_of_getElem? (i := 773) (by decide +kernel), List.mem_of_getElem? (i := 811) (by decide +kernel), List.mem_of_getElem? (i := 812) (by decide +kernel)⟩
theorem lw_p25 : lw_okq (⟨"RiverJustifierModel", "demerits", "(II)I"⟩, 24) := ⟨⟨by decide +kernel, by decide +kernel⟩, List.mem_of_getElem? (i := 773) (by decide +kernel), List.mem_of_getElem? (i := 815) (by decide +kernel), List.mem_of_getElem? (i := 816) (by decide +kernel)⟩
theorem lw_p26 : lw_okq (⟨"RiverJustifierModel", "badness", "(II)I"⟩, 24) := ⟨⟨by decide +kernel, by decide +kernel⟩, List.mem_of_getElem? (i := 773) (by decide +kernel), List.mem_of_getElem? (i := 819) (by decide +kernel), List.mem_of_getElem? (i := 820) (by decide +kernel)⟩
theorem lw_p27 : lw_okq (⟨"RiverJustifierModel", "hasWay", "()Z"⟩, 24) := ⟨⟨by decide +kernel, by decide +kernel⟩, List.mem_of_getElem? (i := 773) (by decide +kernel), List.mem_of_getElem? (i := 823) (by decide +kernel), List.mem_of_getElem? (i := 824) (by decide +kernel)⟩
theorem lw_p28 : lw_okq (⟨"RiverJustifierModel", "goOn", "(II)V"⟩, 24) := ⟨⟨by decide +kernel, by decide +kernel⟩, List.mem_of_getElem? (i := 773) (by decide +kernel), List.mem_of_getElem? (i := 827) (by decide +kernel), List.mem_of_getElem? (i := 828) (by decide +kernel)⟩
theorem lw_p29 : lw_okq (⟨"RiverJustifierModel", "layOut", "()V"⟩, 24) := ⟨⟨by decide +kernel, by decide +kernel⟩, List.mem_of_getElem? (i := 773) (by decide +kernel), List.mem_of_getElem? (i := 831) (by decide +kernel), List.mem_of_getElem? (i := 832) (by decide +kernel)⟩
theorem lw_p30 : lw_okq (⟨"RiverJustifierModel", "layLine", "(I)V"⟩, 24) := ⟨⟨by decide +kernel, by decide +kernel⟩, List.mem_of_getElem? (i := 773) (by decide +kernel), List.mem_of_getElem? (i := 835) (by decide +kernel), List.mem_of_getElem? (i := 836) (by decide +kernel)⟩
theorem lw_p31 : lw_okq (⟨"RiverJustifierModel", "lastOf", "(I)I"⟩, 24) := ⟨⟨by decide +kernel, by decide +kernel⟩, List.mem_of_getElem? (i := 773) (by decide +kernel), List.mem_of_getElem? (i := 839) (by decide +kernel), List.mem_of_getElem? (i := 840) (by decide +kernel)⟩
def lw_privs_2 : List (MethodName × Nat) := [(⟨"RiverJustifierModel", "layAnew", "()V"⟩, 24), (⟨"RiverJustifierModel", "findWays", "()V"⟩, 24), (⟨"RiverJustifierModel", "isPossible", "(II)Z"⟩, 24), (⟨"RiverJustifierModel", "difference", "(II)I"⟩, 24), (⟨"RiverJustifierModel", "natural", "(II)I"⟩, 24), (⟨"RiverJustifierModel", "spaces", "(III)I"⟩, 24), (⟨"RiverJustifierModel", "hangLeft", "(I)I"⟩, 24), (⟨"RiverJustifierModel", "hangRight", "(I)I"⟩, 24), (⟨"RiverJustifierModel", "isLast", "(I)Z"⟩, 24), (⟨"RiverJustifierModel", "demerits", "(II)I"⟩, 24), (⟨"RiverJustifierModel", "badness", "(II)I"⟩, 24), (⟨"RiverJustifierModel", "hasWay", "()Z"⟩, 24), (⟨"RiverJustifierModel", "goOn", "(II)V"⟩, 24), (⟨"RiverJustifierModel", "layOut", "()V"⟩, 24), (⟨"RiverJustifierModel", "layLine", "(I)V"⟩, 24), (⟨"RiverJustifierModel", "lastOf", "(I)I"⟩, 24)]
theorem lw_r2 : ∀ q ∈ lw_privs_2, lw_okq q := List.forall_mem_cons.mpr ⟨lw_p16, List.forall_mem_cons.mpr ⟨lw_p17, List.forall_mem_cons.mpr ⟨lw_p18, List.forall_mem_cons.mpr ⟨lw_p19, List.forall_mem_cons.mpr ⟨lw_p20, List.forall_mem_cons.mpr ⟨lw_p21, List.forall_mem_cons.mpr ⟨lw_p22, List.forall_mem_cons.mpr ⟨lw_p23, List.forall_mem_cons.mpr ⟨lw_p24, List.forall_mem_cons.mpr ⟨lw_p25, List.forall_mem_cons.mpr ⟨lw_p26, List.forall_mem_cons.mpr ⟨lw_p27, List.forall_mem_cons.mpr ⟨lw_p28, List.forall_mem_cons.mpr ⟨lw_p29, List.forall_mem_cons.mpr ⟨lw_p30, List.forall_mem_cons.mpr ⟨lw_p31, fun _ h => absurd h List.not_mem_nil⟩⟩⟩⟩⟩⟩⟩⟩⟩⟩⟩⟩⟩⟩⟩⟩
theorem lw_p32 : lw_okq (⟨"RiverJustifierModel", "share", "(IIIII)I"⟩, 24) := ⟨⟨by decide +kernel, by decide +kernel⟩, List.mem_of_getElem? (i := 773) (by decide +kernel), List.mem_of_getElem? (i := 843) (by decide +kernel), List.mem_of_getElem? (i := 844) (by decide +kernel)⟩
theorem lw_p33 : lw_okq (⟨"RiverJustifierModel", "hasSpace", "(I)Z"⟩, 24) := ⟨⟨by decide +kernel, by decide +kernel⟩, List.mem_of_getElem? (i := 773) (by decide +kernel), List.mem_of_getElem? (i := 847) (by decide +kernel), List.mem_of_getElem? (i := 848) (by decide +kernel)⟩
theorem lw_p34 : lw_okq (⟨"RiverJustifierModel", "above", "(I)I"⟩, 24) := ⟨⟨by decide +kernel, by decide +kernel⟩, List.mem_of_getElem? (i := 773) (by decide +kernel), List.mem_of_getElem? (i := 851) (by decide +kernel), List.mem_of_getElem? (i := 852) (by decide +kernel)⟩
theorem lw_p35 : lw_okq (⟨"RiverJustifierModel", "areNear", "(II)Z"⟩, 24) := ⟨⟨by decide +kernel, by decide +kernel⟩, List.mem_of_getElem? (i := 773) (by decide +kernel), List.mem_of_getElem? (i := 855) (by decide +kernel), List.mem_of_getElem? (i := 856) (by decide +kernel)⟩
theorem lw_p36 : lw_okq (⟨"RiverJustifierModel", "middle", "(I)I"⟩, 24) := ⟨⟨by decide +kernel, by decide +kernel⟩, List.mem_of_getElem? (i := 773) (by decide +kernel), List.mem_of_getElem? (i := 859) (by decide +kernel), List.mem_of_getElem? (i := 860) (by decide +kernel)⟩
theorem lw_p37 : lw_okq (⟨"RiverJustifierModel", "spaceBegin", "(I)I"⟩, 24) := ⟨⟨by decide +kernel, by decide +kernel⟩, List.mem_of_getElem? (i := 773) (by decide +kernel), List.mem_of_getElem? (i := 863) (by decide +kernel), List.mem_of_getElem? (i := 864) (by decide +kernel)⟩
theorem lw_p38 : lw_okq (⟨"RiverJustifierModel", "addWord", "(II)V"⟩, 24) := ⟨⟨by decide +kernel, by decide +kernel⟩, List.mem_of_getElem? (i := 773) (by decide +kernel), List.mem_of_getElem? (i := 967) (by decide +kernel), List.mem_of_getElem? (i := 968) (by decide +kernel)⟩
theorem lw_p39 : lw_okq (⟨"RiverJustifierModel", "nextPiece", "(Z)V"⟩, 24) := ⟨⟨by decide +kernel, by decide +kernel⟩, List.mem_of_getElem? (i := 773) (by decide +kernel), List.mem_of_getElem? (i := 978) (by decide +kernel), List.mem_of_getElem? (i := 979) (by decide +kernel)⟩
theorem lw_p40 : lw_okq (⟨"RiverJustifierModel", "isPiece", "(CCCC)Z"⟩, 24) := ⟨⟨by decide +kernel, by decide +kernel⟩, List.mem_of_getElem? (i := 773) (by decide +kernel), List.mem_of_getElem? (i := 982) (by decide +kernel), List.mem_of_getElem? (i := 983) (by decide +kernel)⟩
theorem lw_p41 : lw_okq (⟨"RiverJustifierModel", "isLong", "(I)Z"⟩, 24) := ⟨⟨by decide +kernel, by decide +kernel⟩, List.mem_of_getElem? (i := 773) (by decide +kernel), List.mem_of_getElem? (i := 986) (by decide +kernel), List.mem_of_getElem? (i := 987) (by decide +kernel)⟩
theorem lw_p42 : lw_okq (⟨"RiverJustifierModel", "endsWith", "(CCC)Z"⟩, 24) := ⟨⟨by decide +kernel, by decide +kernel⟩, List.mem_of_getElem? (i := 773) (by decide +kernel), List.mem_of_getElem? (i := 990) (by decide +kernel), List.mem_of_getElem? (i := 991) (by decide +kernel)⟩
theorem lw_p43 : lw_okq (⟨"RiverJustifierModel", "kind", "()I"⟩, 24) := ⟨⟨by decide +kernel, by decide +kernel⟩, List.mem_of_getElem? (i := 773) (by decide +kernel), List.mem_of_getElem? (i := 994) (by decide +kernel), List.mem_of_getElem? (i := 995) (by decide +kernel)⟩
theorem lw_p44 : lw_okq (⟨"RiverJustifierModel", "number", "(II)I"⟩, 24) := ⟨⟨by decide +kernel, by decide +kernel⟩, List.mem_of_getElem? (i := 773) (by decide +kernel), List.mem_of_getElem? (i := 998) (by decide +kernel), List.mem_of_getElem? (i := 999) (by decide +kernel)⟩
theorem lw_p45 : lw_okq (⟨"RiverJustifierModel", "noLine", "(I)Z"⟩, 24) := ⟨⟨by decide +kernel, by decide +kernel⟩, List.mem_of_getElem? (i := 773) (by decide +kernel), List.mem_of_getElem? (i := 1030) (by decide +kernel), List.mem_of_getElem? (i := 1031) (by decide +kernel)⟩
theorem lw_p46 : lw_okq (⟨"RiverJustifierModel", "secondOf", "(I)I"⟩, 24) := ⟨⟨by decide +kernel, by decide +kernel⟩, List.mem_of_getElem? (i := 773) (by decide +kernel), List.mem_of_getElem? (i := 1034) (by decide +kernel), List.mem_of_getElem? (i := 1035) (by decide +kernel)⟩
theorem lw_p47 : lw_okq (⟨"RiverJustifierModel", "takesSecond", "(I)V"⟩, 24) := ⟨⟨by decide +kernel, by decide +kernel⟩, List.mem_of_getElem? (i := 773) (by decide +kernel), List.mem_of_getElem? (i := 1038) (by decide +kernel), List.mem_of_getElem? (i := 1039) (by decide +kernel)⟩
def lw_privs_3 : List (MethodName × Nat) := [(⟨"RiverJustifierModel", "share", "(IIIII)I"⟩, 24), (⟨"RiverJustifierModel", "hasSpace", "(I)Z"⟩, 24), (⟨"RiverJustifierModel", "above", "(I)I"⟩, 24), (⟨"RiverJustifierModel", "areNear", "(II)Z"⟩, 24), (⟨"RiverJustifierModel", "middle", "(I)I"⟩, 24), (⟨"RiverJustifierModel", "spaceBegin", "(I)I"⟩, 24), (⟨"RiverJustifierModel", "addWord", "(II)V"⟩, 24), (⟨"RiverJustifierModel", "nextPiece", "(Z)V"⟩, 24), (⟨"RiverJustifierModel", "isPiece", "(CCCC)Z"⟩, 24), (⟨"RiverJustifierModel", "isLong", "(I)Z"⟩, 24), (⟨"RiverJustifierModel", "endsWith", "(CCC)Z"⟩, 24), (⟨"RiverJustifierModel", "kind", "()I"⟩, 24), (⟨"RiverJustifierModel", "number", "(II)I"⟩, 24), (⟨"RiverJustifierModel", "noLine", "(I)Z"⟩, 24), (⟨"RiverJustifierModel", "secondOf", "(I)I"⟩, 24), (⟨"RiverJustifierModel", "takesSecond", "(I)V"⟩, 24)]
theorem lw_r3 : ∀ q ∈ lw_privs_3, lw_okq q := List.forall_mem_cons.mpr ⟨lw_p32, List.forall_mem_cons.mpr ⟨lw_p33, List.forall_mem_cons.mpr ⟨lw_p34, List.forall_mem_cons.mpr ⟨lw_p35, List.forall_mem_cons.mpr ⟨lw_p36, List.forall_mem_cons.mpr ⟨lw_p37, List.forall_mem_cons.mpr ⟨lw_p38, List.forall_mem_cons.mpr ⟨lw_p39, List.forall_mem_cons.mpr ⟨lw_p40, List.forall_mem_cons.mpr ⟨lw_p41, List.forall_mem_cons.mpr ⟨lw_p42, List.forall_mem_cons.mpr ⟨lw_p43, List.forall_mem_cons.mpr ⟨lw_p44, List.forall_mem_cons.mpr ⟨lw_p45, List.forall_mem_cons.mpr ⟨lw_p46, List.forall_mem_cons.mpr ⟨lw_p47, fun _ h => absurd h List.not_mem_nil⟩⟩⟩⟩⟩⟩⟩⟩⟩⟩⟩⟩⟩⟩⟩⟩
theorem lw_p48 : lw_okq (⟨"RiverJustifierModel", "breaker", "()I"⟩, 24) := ⟨⟨by decide +kernel, by decide +kernel⟩, List.mem_of_getElem? (i := 773) (by decide +kernel), List.mem_of_getElem? (i := 1046) (by decide +kernel), List.mem_of_getElem? (i := 1047) (by decide +kernel)⟩
theorem lw_p49 : lw_okq (⟨"RiverJustifierModel", "strengthWith", "(I)I"⟩, 24) := ⟨⟨by decide +kernel, by decide +kernel⟩, List.mem_of_getElem? (i := 773) (by decide +kernel), List.mem_of_getElem? (i := 1050) (by decide +kernel), List.mem_of_getElem? (i := 1051) (by decide +kernel)⟩
theorem lw_p50 : lw_okq (⟨"RiverJustifierModel", "strength", "()I"⟩, 24) := ⟨⟨by decide +kernel, by decide +kernel⟩, List.mem_of_getElem? (i := 773) (by decide +kernel), List.mem_of_getElem? (i := 1054) (by decide +kernel), List.mem_of_getElem? (i := 1055) (by decide +kernel)⟩
theorem lw_p51 : lw_okq (⟨"RiverJustifierModel", "ends", "(I)Z"⟩, 24) := ⟨⟨by decide +kernel, by decide +kernel⟩, List.mem_of_getElem? (i := 773) (by decide +kernel), List.mem_of_getElem? (i := 1058) (by decide +kernel), List.mem_of_getElem? (i := 1059) (by decide +kernel)⟩
theorem lw_p52 : lw_okq (⟨"RiverJustifierModel", "hasBelow", "(I)Z"⟩, 24) := ⟨⟨by decide +kernel, by decide +kernel⟩, List.mem_of_getElem? (i := 773) (by decide +kernel), List.mem_of_getElem? (i := 1062) (by decide +kernel), List.mem_of_getElem? (i := 1063) (by decide +kernel)⟩
theorem lw_p53 : lw_okq (⟨"RiverJustifierModel", "secondDemerits", "(I)I"⟩, 24) := ⟨⟨by decide +kernel, by decide +kernel⟩, List.mem_of_getElem? (i := 773) (by decide +kernel), List.mem_of_getElem? (i := 1066) (by decide +kernel), List.mem_of_getElem? (i := 1067) (by decide +kernel)⟩
theorem lw_p54 : lw_okq (⟨"RiverJustifierModel", "demeritsBefore", "(I)I"⟩, 24) := ⟨⟨by decide +kernel, by decide +kernel⟩, List.mem_of_getElem? (i := 773) (by decide +kernel), List.mem_of_getElem? (i := 1070) (by decide +kernel), List.mem_of_getElem? (i := 1071) (by decide +kernel)⟩
theorem lw_p55 : lw_okq (⟨"RiverJustifierModel", "endOf", "(I)I"⟩, 24) := ⟨⟨by decide +kernel, by decide +kernel⟩, List.mem_of_getElem? (i := 773) (by decide +kernel), List.mem_of_getElem? (i := 1078) (by decide +kernel), List.mem_of_getElem? (i := 1079) (by decide +kernel)⟩
theorem lw_p56 : lw_okq (⟨"RiverJustifierModel", "noWord", "(I)Z"⟩, 24) := ⟨⟨by decide +kernel, by decide +kernel⟩, List.mem_of_getElem? (i := 773) (by decide +kernel), List.mem_of_getElem? (i := 1090) (by decide +kernel), List.mem_of_getElem? (i := 1091) (by decide +kernel)⟩
theorem lw_p57 : lw_okq (⟨"RiverJustifierModel", "badnessOf", "(I)I"⟩, 24) := ⟨⟨by decide +kernel, by decide +kernel⟩, List.mem_of_getElem? (i := 773) (by decide +kernel), List.mem_of_getElem? (i := 1114) (by decide +kernel), List.mem_of_getElem? (i := 1115) (by decide +kernel)⟩
def lw_privs_4 : List (MethodName × Nat) := [(⟨"RiverJustifierModel", "breaker", "()I"⟩, 24), (⟨"RiverJustifierModel", "strengthWith", "(I)I"⟩, 24), (⟨"RiverJustifierModel", "strength", "()I"⟩, 24), (⟨"RiverJustifierModel", "ends", "(I)Z"⟩, 24), (⟨"RiverJustifierModel", "hasBelow", "(I)Z"⟩, 24), (⟨"RiverJustifierModel", "secondDemerits", "(I)I"⟩, 24), (⟨"RiverJustifierModel", "demeritsBefore", "(I)I"⟩, 24), (⟨"RiverJustifierModel", "endOf", "(I)I"⟩, 24), (⟨"RiverJustifierModel", "noWord", "(I)Z"⟩, 24), (⟨"RiverJustifierModel", "badnessOf", "(I)I"⟩, 24)]
theorem lw_r4 : ∀ q ∈ lw_privs_4, lw_okq q := List.forall_mem_cons.mpr ⟨lw_p48, List.forall_mem_cons.mpr ⟨lw_p49, List.forall_mem_cons.mpr ⟨lw_p50, List.forall_mem_cons.mpr ⟨lw_p51, List.forall_mem_cons.mpr ⟨lw_p52, List.forall_mem_cons.mpr ⟨lw_p53, List.forall_mem_cons.mpr ⟨lw_p54, List.forall_mem_cons.mpr ⟨lw_p55, List.forall_mem_cons.mpr ⟨lw_p56, List.forall_mem_cons.mpr ⟨lw_p57, fun _ h => absurd h List.not_mem_nil⟩⟩⟩⟩⟩⟩⟩⟩⟩⟩
def lw_privs : List (MethodName × Nat) := lw_privs_1 ++ (lw_privs_2 ++ (lw_privs_3 ++ (lw_privs_4)))
def lw_tbl : List Cond := k2_sels lw_privs ++ tables_1
theorem lw_privs_ok : ∀ q ∈ lw_privs, lw_okq q := by
  show ∀ q ∈ lw_privs_1 ++ (lw_privs_2 ++ (lw_privs_3 ++ (lw_privs_4))), lw_okq q
  exact List.forall_mem_append.mpr ⟨lw_r1, List.forall_mem_append.mpr ⟨lw_r2, List.forall_mem_append.mpr ⟨lw_r3, lw_r4⟩⟩⟩
end
section
/-! names: classes, fields, methods (printed by program) -/
def xtb : List Cond := lw_tbl.filter goodWord
theorem xt {w : Cond} (i : Nat) (h : tables_1[i]? = some w) (g : goodWord w = true) : w ∈ xtb := List.mem_filter.mpr ⟨List.mem_append_right _ (List.mem_of_getElem? h), g⟩
theorem xp {w : Cond} (i : Nat) (h : (k2_sels lw_privs)[i]? = some w) (g : goodWord w = true) : w ∈ xtb := List.mem_filter.mpr ⟨List.mem_append_left _ (List.mem_of_getElem? h), g⟩
theorem ab_good : ∀ w ∈ xtb, goodWord w = true := fun w h => (List.mem_filter.mp h).2
def RX0 : String := "RiverJustifier$BestWay"
def RX1 : String := "RiverJustifier$Layout"
def RX2 : String := "RiverJustifier$LineRules"
def RX3 : String := "RiverJustifier$Order"
def RX4 : String := "RiverJustifier$Paragraph"
def RX5 : String := "RiverJustifier$Rivers"
def RX6 : String := "RiverJustifier$Settings"
def RX7 : String := "RiverJustifier$Sign"
def RX8 : String := "RiverJustifier$Text"
def RX9 : String := "RiverJustifier"
def RX10 : String := "RiverJustifierModel"
def RJ0 : String := "java/lang/String"
def RJ1 : String := "java/lang/StringLatin1"
def RJ3 : String := "jdk/internal/util/Preconditions"
def RL : String := "RiverJustifierLaw"
def TX0 : u_T := fun k => match k with
  | 0 => ("RiverJustifier$BestWay", "paragraph", "LRiverJustifier$Paragraph;", true)
  | 1 => ("RiverJustifier$BestWay", "rules", "LRiverJustifier$LineRules;", true)
  | 2 => ("RiverJustifier$BestWay", "sums", "[I", true)
  | _ => ("RiverJustifier$BestWay", "lasts", "[I", true)
def tyX0 : Nat → FieldType := fun k => match k with
  | 0 => .object "RiverJustifier$Paragraph"
  | 1 => .object "RiverJustifier$LineRules"
  | 2 => .array .int
  | _ => .array .int
theorem nmX0 : ∀ a, a < 4 → ∀ b, b < 4 → a ≠ b → (TX0 a).2.1 ≠ (TX0 b).2.1 := by decide +kernel
theorem tyX0_ok : ∀ k, k < 4 → parseFieldDescriptor (TX0 k).2.2.1 = some (tyX0 k) := by decide +kernel
theorem inX0 : ∀ w ∈ u_ws RX0 TX0 4, w ∈ xtb := by
  intro w hw
  refine List.mem_filter.mpr ⟨List.mem_append_right _ ?_, ?_⟩
  · exact (by decide +kernel : ∀ w ∈ u_ws RX0 TX0 4, w ∈ tables_1) w hw
  · exact (by decide +kernel : ∀ w ∈ u_ws RX0 TX0 4, goodWord w = true) w hw
def TX1 : u_T := fun k => match k with
  | 0 => ("RiverJustifier$Layout", "paragraph", "LRiverJustifier$Paragraph;", true)
  | 1 => ("RiverJustifier$Layout", "settings", "LRiverJustifier$Settings;", true)
  | 2 => ("RiverJustifier$Layout", "rules", "LRiverJustifier$LineRules;", true)
  | 3 => ("RiverJustifier$Layout", "bestWay", "LRiverJustifier$BestWay;", true)
  | 4 => ("RiverJustifier$Layout", "lines", "I", false)
  | 5 => ("RiverJustifier$Layout", "demerits", "I", false)
  | 6 => ("RiverJustifier$Layout", "firstWords", "[I", true)
  | 7 => ("RiverJustifier$Layout", "lineOf", "[I", true)
  | 8 => ("RiverJustifier$Layout", "spaceLines", "[I", true)
  | 9 => ("RiverJustifier$Layout", "begins", "[I", true)
  | 10 => ("RiverJustifier$Layout", "spaceWidths", "[I", true)
  | _ => ("RiverJustifier$Layout", "rivers", "LRiverJustifier$Rivers;", true)
def tyX1 : Nat → FieldType := fun k => match k with
  | 0 => .object "RiverJustifier$Paragraph"
  | 1 => .object "RiverJustifier$Settings"
  | 2 => .object "RiverJustifier$LineRules"
  | 3 => .object "RiverJustifier$BestWay"
  | 4 => .int
  | 5 => .int
  | 6 => .array .int
  | 7 => .array .int
  | 8 => .array .int
  | 9 => .array .int
  | 10 => .array .int
  | _ => .object "RiverJustifier$Rivers"
theorem nmX1 : ∀ a, a < 12 → ∀ b, b < 12 → a ≠ b → (TX1 a).2.1 ≠ (TX1 b).2.1 := by decide +kernel
theorem tyX1_ok : ∀ k, k < 12 → parseFieldDescriptor (TX1 k).2.2.1 = some (tyX1 k) := by decide +kernel
theorem inX1 : ∀ w ∈ u_ws RX1 TX1 12, w ∈ xtb := by
  intro w hw
  refine List.mem_filter.mpr ⟨List.mem_append_right _ ?_, ?_⟩
  · exact (by decide +kernel : ∀ w ∈ u_ws RX1 TX1 12, w ∈ tables_1) w hw
  · exact (by decide +kernel : ∀ w ∈ u_ws RX1 TX1 12, goodWord w = true) w hw
def TX2 : u_T := fun k => match k with
  | 0 => ("RiverJustifier$LineRules", "paragraph", "LRiverJustifier$Paragraph;", true)
  | 1 => ("RiverJustifier$LineRules", "settings", "LRiverJustifier$Settings;", true)
  | 2 => ("RiverJustifier$LineRules", "wordSums", "[I", true)
  | 3 => ("RiverJustifier$LineRules", "naturalSums", "[I", true)
  | 4 => ("RiverJustifier$LineRules", "stretchSums", "[I", true)
  | 5 => ("RiverJustifier$LineRules", "shrinkSums", "[I", true)
  | 6 => ("RiverJustifier$LineRules", "leftHangs", "[I", true)
  | _ => ("RiverJustifier$LineRules", "rightHangs", "[I", true)
def tyX2 : Nat → FieldType := fun k => match k with
  | 0 => .object "RiverJustifier$Paragraph"
  | 1 => .object "RiverJustifier$Settings"
  | 2 => .array .int
  | 3 => .array .int
  | 4 => .array .int
  | 5 => .array .int
  | 6 => .array .int
  | _ => .array .int
theorem nmX2 : ∀ a, a < 8 → ∀ b, b < 8 → a ≠ b → (TX2 a).2.1 ≠ (TX2 b).2.1 := by decide +kernel
theorem tyX2_ok : ∀ k, k < 8 → parseFieldDescriptor (TX2 k).2.2.1 = some (tyX2 k) := by decide +kernel
theorem inX2 : ∀ w ∈ u_ws RX2 TX2 8, w ∈ xtb := by
  intro w hw
  refine List.mem_filter.mpr ⟨List.mem_append_right _ ?_, ?_⟩
  · exact (by decide +kernel : ∀ w ∈ u_ws RX2 TX2 8, w ∈ tables_1) w hw
  · exact (by decide +kernel : ∀ w ∈ u_ws RX2 TX2 8, goodWord w = true) w hw
def TX3 : u_T := fun k => match k with
  | 0 => ("RiverJustifier$Order", "numbers", "[I", true)
  | 1 => ("RiverJustifier$Order", "subject", "I", false)
  | _ => ("RiverJustifier$Order", "kind", "I", false)
def tyX3 : Nat → FieldType := fun k => match k with
  | 0 => .array .int
  | 1 => .int
  | _ => .int
theorem nmX3 : ∀ a, a < 3 → ∀ b, b < 3 → a ≠ b → (TX3 a).2.1 ≠ (TX3 b).2.1 := by decide +kernel
theorem tyX3_ok : ∀ k, k < 3 → parseFieldDescriptor (TX3 k).2.2.1 = some (tyX3 k) := by decide +kernel
theorem inX3 : ∀ w ∈ u_ws RX3 TX3 3, w ∈ xtb := by
  intro w hw
  refine List.mem_filter.mpr ⟨List.mem_append_right _ ?_, ?_⟩
  · exact (by decide +kernel : ∀ w ∈ u_ws RX3 TX3 3, w ∈ tables_1) w hw
  · exact (by decide +kernel : ∀ w ∈ u_ws RX3 TX3 3, goodWord w = true) w hw
def TX4 : u_T := fun k => match k with
  | 0 => ("RiverJustifier$Paragraph", "words", "I", false)
  | 1 => ("RiverJustifier$Paragraph", "widths", "[I", true)
  | 2 => ("RiverJustifier$Paragraph", "sizes", "[I", true)
  | 3 => ("RiverJustifier$Paragraph", "kinds", "[I", true)
  | 4 => ("RiverJustifier$Paragraph", "leftMarks", "[I", true)
  | _ => ("RiverJustifier$Paragraph", "rightMarks", "[I", true)
def tyX4 : Nat → FieldType := fun k => match k with
  | 0 => .int
  | 1 => .array .int
  | 2 => .array .int
  | 3 => .array .int
  | 4 => .array .int
  | _ => .array .int
theorem nmX4 : ∀ a, a < 6 → ∀ b, b < 6 → a ≠ b → (TX4 a).2.1 ≠ (TX4 b).2.1 := by decide +kernel
theorem tyX4_ok : ∀ k, k < 6 → parseFieldDescriptor (TX4 k).2.2.1 = some (tyX4 k) := by decide +kernel
theorem inX4 : ∀ w ∈ u_ws RX4 TX4 6, w ∈ xtb := by
  intro w hw
  refine List.mem_filter.mpr ⟨List.mem_append_right _ ?_, ?_⟩
  · exact (by decide +kernel : ∀ w ∈ u_ws RX4 TX4 6, w ∈ tables_1) w hw
  · exact (by decide +kernel : ∀ w ∈ u_ws RX4 TX4 6, goodWord w = true) w hw
def TX5 : u_T := fun k => match k with
  | 0 => ("RiverJustifier$Rivers", "amount", "I", false)
  | 1 => ("RiverJustifier$Rivers", "strength", "I", false)
  | 2 => ("RiverJustifier$Rivers", "greatestLength", "I", false)
  | 3 => ("RiverJustifier$Rivers", "lengths", "[I", true)
  | 4 => ("RiverJustifier$Rivers", "middles", "[I", true)
  | 5 => ("RiverJustifier$Rivers", "aboves", "[I", true)
  | 6 => ("RiverJustifier$Rivers", "goesOn", "[Z", true)
  | _ => ("RiverJustifier$Rivers", "ends", "[I", true)
def tyX5 : Nat → FieldType := fun k => match k with
  | 0 => .int
  | 1 => .int
  | 2 => .int
  | 3 => .array .int
  | 4 => .array .int
  | 5 => .array .int
  | 6 => .array .boolean
  | _ => .array .int
theorem nmX5 : ∀ a, a < 8 → ∀ b, b < 8 → a ≠ b → (TX5 a).2.1 ≠ (TX5 b).2.1 := by decide +kernel
theorem tyX5_ok : ∀ k, k < 8 → parseFieldDescriptor (TX5 k).2.2.1 = some (tyX5 k) := by decide +kernel
theorem inX5 : ∀ w ∈ u_ws RX5 TX5 8, w ∈ xtb := by
  intro w hw
  refine List.mem_filter.mpr ⟨List.mem_append_right _ ?_, ?_⟩
  · exact (by decide +kernel : ∀ w ∈ u_ws RX5 TX5 8, w ∈ tables_1) w hw
  · exact (by decide +kernel : ∀ w ∈ u_ws RX5 TX5 8, goodWord w = true) w hw
def TX6 : u_T := fun k => match k with
  | 0 => ("RiverJustifier$Settings", "measure", "I", false)
  | 1 => ("RiverJustifier$Settings", "hang", "I", false)
  | 2 => ("RiverJustifier$Settings", "tolerance", "I", false)
  | 3 => ("RiverJustifier$Settings", "least", "[I", true)
  | 4 => ("RiverJustifier$Settings", "natural", "[I", true)
  | _ => ("RiverJustifier$Settings", "greatest", "[I", true)
def tyX6 : Nat → FieldType := fun k => match k with
  | 0 => .int
  | 1 => .int
  | 2 => .int
  | 3 => .array .int
  | 4 => .array .int
  | _ => .array .int
theorem nmX6 : ∀ a, a < 6 → ∀ b, b < 6 → a ≠ b → (TX6 a).2.1 ≠ (TX6 b).2.1 := by decide +kernel
theorem tyX6_ok : ∀ k, k < 6 → parseFieldDescriptor (TX6 k).2.2.1 = some (tyX6 k) := by decide +kernel
theorem inX6 : ∀ w ∈ u_ws RX6 TX6 6, w ∈ xtb := by
  intro w hw
  refine List.mem_filter.mpr ⟨List.mem_append_right _ ?_, ?_⟩
  · exact (by decide +kernel : ∀ w ∈ u_ws RX6 TX6 6, w ∈ tables_1) w hw
  · exact (by decide +kernel : ∀ w ∈ u_ws RX6 TX6 6, goodWord w = true) w hw
def TX8 : u_T := fun k => match k with
  | 0 => ("RiverJustifier$Text", "signs", "[C", true)
  | _ => ("RiverJustifier$Text", "length", "I", false)
def tyX8 : Nat → FieldType := fun k => match k with
  | 0 => .array .char
  | _ => .int
theorem nmX8 : ∀ a, a < 2 → ∀ b, b < 2 → a ≠ b → (TX8 a).2.1 ≠ (TX8 b).2.1 := by decide +kernel
theorem tyX8_ok : ∀ k, k < 2 → parseFieldDescriptor (TX8 k).2.2.1 = some (tyX8 k) := by decide +kernel
theorem inX8 : ∀ w ∈ u_ws RX8 TX8 2, w ∈ xtb := by
  intro w hw
  refine List.mem_filter.mpr ⟨List.mem_append_right _ ?_, ?_⟩
  · exact (by decide +kernel : ∀ w ∈ u_ws RX8 TX8 2, w ∈ tables_1) w hw
  · exact (by decide +kernel : ∀ w ∈ u_ws RX8 TX8 2, goodWord w = true) w hw
def TX9 : u_T := fun k => match k with
  | 0 => ("RiverJustifier", "text", "LRiverJustifier$Text;", true)
  | 1 => ("RiverJustifier", "order", "LRiverJustifier$Order;", true)
  | 2 => ("RiverJustifier", "settings", "LRiverJustifier$Settings;", true)
  | 3 => ("RiverJustifier", "paragraph", "LRiverJustifier$Paragraph;", true)
  | 4 => ("RiverJustifier", "rules", "LRiverJustifier$LineRules;", true)
  | 5 => ("RiverJustifier", "bestWay", "LRiverJustifier$BestWay;", true)
  | 6 => ("RiverJustifier", "layout", "LRiverJustifier$Layout;", true)
  | _ => ("RiverJustifier", "trial", "LRiverJustifier$Layout;", true)
def tyX9 : Nat → FieldType := fun k => match k with
  | 0 => .object "RiverJustifier$Text"
  | 1 => .object "RiverJustifier$Order"
  | 2 => .object "RiverJustifier$Settings"
  | 3 => .object "RiverJustifier$Paragraph"
  | 4 => .object "RiverJustifier$LineRules"
  | 5 => .object "RiverJustifier$BestWay"
  | 6 => .object "RiverJustifier$Layout"
  | _ => .object "RiverJustifier$Layout"
theorem nmX9 : ∀ a, a < 8 → ∀ b, b < 8 → a ≠ b → (TX9 a).2.1 ≠ (TX9 b).2.1 := by decide +kernel
theorem tyX9_ok : ∀ k, k < 8 → parseFieldDescriptor (TX9 k).2.2.1 = some (tyX9 k) := by decide +kernel
theorem inX9 : ∀ w ∈ u_ws RX9 TX9 8, w ∈ xtb := by
  intro w hw
  refine List.mem_filter.mpr ⟨List.mem_append_right _ ?_, ?_⟩
  · exact (by decide +kernel : ∀ w ∈ u_ws RX9 TX9 8, w ∈ tables_1) w hw
  · exact (by decide +kernel : ∀ w ∈ u_ws RX9 TX9 8, goodWord w = true) w hw
def TX10 : u_T := fun k => match k with
  | 0 => ("RiverJustifierModel", "measure", "I", false)
  | 1 => ("RiverJustifierModel", "hang", "I", false)
  | 2 => ("RiverJustifierModel", "tolerance", "I", false)
  | 3 => ("RiverJustifierModel", "spaceOf", "[I", true)
  | 4 => ("RiverJustifierModel", "words", "I", false)
  | 5 => ("RiverJustifierModel", "wideOf", "[I", true)
  | 6 => ("RiverJustifierModel", "longOf", "[I", true)
  | 7 => ("RiverJustifierModel", "kindOf", "[I", true)
  | 8 => ("RiverJustifierModel", "leftOf", "[I", true)
  | 9 => ("RiverJustifierModel", "rightOf", "[I", true)
  | 10 => ("RiverJustifierModel", "typed", "I", false)
  | 11 => ("RiverJustifierModel", "text", "[C", true)
  | 12 => ("RiverJustifierModel", "pieceFrom", "I", false)
  | 13 => ("RiverJustifierModel", "pieceTo", "I", false)
  | 14 => ("RiverJustifierModel", "fault", "I", false)
  | 15 => ("RiverJustifierModel", "leastFrom", "[I", true)
  | 16 => ("RiverJustifierModel", "endFrom", "[I", true)
  | 17 => ("RiverJustifierModel", "lines", "I", false)
  | 18 => ("RiverJustifierModel", "firstOf", "[I", true)
  | 19 => ("RiverJustifierModel", "beginOf", "[I", true)
  | 20 => ("RiverJustifierModel", "spaceWide", "[I", true)
  | 21 => ("RiverJustifierModel", "spaceLong", "[I", true)
  | 22 => ("RiverJustifierModel", "lineOf", "[I", true)
  | _ => ("RiverJustifierModel", "keptFirst", "[I", true)
def tyX10 : Nat → FieldType := fun k => match k with
  | 0 => .int
  | 1 => .int
  | 2 => .int
  | 3 => .array .int
  | 4 => .int
  | 5 => .array .int
  | 6 => .array .int
  | 7 => .array .int
  | 8 => .array .int
  | 9 => .array .int
  | 10 => .int
  | 11 => .array .char
  | 12 => .int
  | 13 => .int
  | 14 => .int
  | 15 => .array .int
  | 16 => .array .int
  | 17 => .int
  | 18 => .array .int
  | 19 => .array .int
  | 20 => .array .int
  | 21 => .array .int
  | 22 => .array .int
  | _ => .array .int
theorem nmX10 : ∀ a, a < 24 → ∀ b, b < 24 → a ≠ b → (TX10 a).2.1 ≠ (TX10 b).2.1 := by decide +kernel
theorem tyX10_ok : ∀ k, k < 24 → parseFieldDescriptor (TX10 k).2.2.1 = some (tyX10 k) := by decide +kernel
theorem inX10 : ∀ w ∈ u_ws RX10 TX10 24, w ∈ xtb := by
  intro w hw
  refine List.mem_filter.mpr ⟨List.mem_append_right _ ?_, ?_⟩
  · exact (by decide +kernel : ∀ w ∈ u_ws RX10 TX10 24, w ∈ tables_1) w hw
  · exact (by decide +kernel : ∀ w ∈ u_ws RX10 TX10 24, goodWord w = true) w hw
abbrev xcl : List vw_C := [(RX0, TX0, 4), (RX1, TX1, 12), (RX2, TX2, 8), (RX3, TX3, 3), (RX4, TX4, 6), (RX5, TX5, 8), (RX6, TX6, 6), (RX8, TX8, 2), (RX9, TX9, 8), (RX10, TX10, 24)]
theorem xcl_ok {ci : Nat} {C : String} {T : u_T} {N : Nat} (h : xcl[ci]? = some (C, T, N)) : (∀ w ∈ u_ws C T N, w ∈ xtb) ∧ ∃ ty0 : Nat → FieldType, (∀ k, k < N → parseFieldDescriptor (T k).2.2.1 = some (ty0 k)) ∧ ∀ a, a < N → ∀ b, b < N → a ≠ b → (T a).2.1 ≠ (T b).2.1 := by
  match ci, h with
  | 0, h => cases h; exact ⟨inX0, tyX0, tyX0_ok, nmX0⟩
  | 1, h => cases h; exact ⟨inX1, tyX1, tyX1_ok, nmX1⟩
  | 2, h => cases h; exact ⟨inX2, tyX2, tyX2_ok, nmX2⟩
  | 3, h => cases h; exact ⟨inX3, tyX3, tyX3_ok, nmX3⟩
  | 4, h => cases h; exact ⟨inX4, tyX4, tyX4_ok, nmX4⟩
  | 5, h => cases h; exact ⟨inX5, tyX5, tyX5_ok, nmX5⟩
  | 6, h => cases h; exact ⟨inX6, tyX6, tyX6_ok, nmX6⟩
  | 7, h => cases h; exact ⟨inX8, tyX8, tyX8_ok, nmX8⟩
  | 8, h => cases h; exact ⟨inX9, tyX9, tyX9_ok, nmX9⟩
  | 9, h => cases h; exact ⟨inX10, tyX10, tyX10_ok, nmX10⟩
  | k + 10, h => simp [xcl] at h
def xsK : List (String × Nat × String) := [("RiverJustifier$Sign", 28, "fijlrt"), ("RiverJustifier$Sign", 30, "mw"), ("RiverJustifier$Sign", 32, "MW"), ("RiverJustifier$Sign", 20, ".,;:!'"), ("RiverJustifier$Sign", 26, "?-\"()"), ("RiverJustifier$Sign", 38, "'\"("), ("RiverJustifier$Sign", 34, ".!?"), ("RiverJustifier$Sign", 36, ",;:"), ("RiverJustifier$Sign", 40, ".,;:!?-'\""), ("RiverJustifier$Order", 79, "measure"), ("RiverJustifier$Order", 84, "hang"), ("RiverJustifier$Order", 85, "river"), ("RiverJustifier$Order", 87, "space"), ("RiverJustifier$Order", 89, "word"), ("RiverJustifier$Order", 91, "clause"), ("RiverJustifier$Order", 93, "sentence")]
def xsL : List Nat := [6, 2, 2, 6, 5, 3, 3, 3, 9, 7, 4, 5, 5, 4, 6, 8]
def xsB : List (List Int32) := [[102, 105, 106, 108, 114, 116], [109, 119], [77, 87], [46, 44, 59, 58, 33, 39], [63, 45, 34, 40, 41], [39, 34, 40], [46, 33, 63], [44, 59, 58], [46, 44, 59, 58, 33, 63, 45, 39, 34], [109, 101, 97, 115, 117, 114, 101], [104, 97, 110, 103], [114, 105, 118, 101, 114], [115, 112, 97, 99, 101], [119, 111, 114, 100], [99, 108, 97, 117, 115, 101], [115, 101, 110, 116, 101, 110, 99, 101]]
theorem xs_small : ∀ i, i < 16 → xsL.getD i 0 < 2147483648 := by decide +kernel
def xsN : List (String × Nat × MethodName × String) := [("RiverJustifier$LineRules", 52, ⟨"RiverJustifier", "at", "([II)I"⟩, "RiverJustifier"), ("RiverJustifier$BestWay", 36, ⟨"RiverJustifier", "at", "([II)I"⟩, "RiverJustifier"), ("RiverJustifier$Layout", 61, ⟨"RiverJustifier", "at", "([II)I"⟩, "RiverJustifier"), ("RiverJustifier$Rivers", 38, ⟨"RiverJustifier", "at", "([II)I"⟩, "RiverJustifier"), ("RiverJustifier$Order", 75, ⟨"RiverJustifier", "at", "([II)I"⟩, "RiverJustifier"), ("RiverJustifier$Settings", 29, ⟨"RiverJustifier", "isKind", "(I)Z"⟩, "RiverJustifier")]
theorem xw_mmax : Cond.static Lib.Math.max.name ∈ xtb ∧ Cond.initialized "java/lang/Math" ∈ xtb ∧ Cond.code Lib.Math.max.name Lib.Math.max.code 2 (some .int) ∈ xtb := ⟨xt 375 (by decide +kernel) (by decide +kernel), xt 14 (by decide +kernel) (by decide +kernel), xt 376 (by decide +kernel) (by decide +kernel)⟩
theorem xw_mmin : Cond.static Lib.Math.min.name ∈ xtb ∧ Cond.initialized "java/lang/Math" ∈ xtb ∧ Cond.code Lib.Math.min.name Lib.Math.min.code 2 (some .int) ∈ xtb := ⟨xt 378 (by decide +kernel) (by decide +kernel), xt 14 (by decide +kernel) (by decide +kernel), xt 379 (by decide +kernel) (by decide +kernel)⟩
theorem xw_mabs : Cond.static Lib.Math.abs.name ∈ xtb ∧ Cond.initialized "java/lang/Math" ∈ xtb ∧ Cond.code Lib.Math.abs.name Lib.Math.abs.code 1 (some .int) ∈ xtb := ⟨xt 505 (by decide +kernel) (by decide +kernel), xt 14 (by decide +kernel) (by decide +kernel), xt 506 (by decide +kernel) (by decide +kernel)⟩
theorem xw_arr : True ∧ Cond.arrayClass .int ∈ xtb ∧ Cond.arrayClass .char ∈ xtb ∧ Cond.arrayClass .boolean ∈ xtb := ⟨trivial, xt 70 (by decide +kernel) (by decide +kernel), xt 181 (by decide +kernel) (by decide +kernel), xt 239 (by decide +kernel) (by decide +kernel)⟩
theorem xw_obj : Cond.instanceMethod Lib.objectInit ∈ xtb ∧ Cond.code Lib.objectInit ⟨#[0xb1]⟩ 1 none ∈ xtb := ⟨xt 24 (by decide +kernel) (by decide +kernel), xt 25 (by decide +kernel) (by decide +kernel)⟩
abbrev cX0_init : ByteArray := prog_2_method_1_code
def yX0_init : MethodName := ⟨RX0, "<init>", "(LRiverJustifier$Paragraph;LRiverJustifier$LineRules;)V"⟩
abbrev cX0_exists : ByteArray := prog_2_method_2_code
def yX0_exists : MethodName := ⟨RX0, "exists", "()Z"⟩
abbrev cX0_find : ByteArray := prog_2_method_3_code
def yX0_find : MethodName := ⟨RX0, "find", "()V"⟩
abbrev cX0_sumWith : ByteArray := prog_2_method_4_code
def yX0_sumWith : MethodName := ⟨RX0, "sumWith", "(II)I"⟩
abbrev cX1_init : ByteArray := prog_3_method_1_code
def yX1_init : MethodName := ⟨RX1, "<init>", "(LRiverJustifier$Paragraph;LRiverJustifier$Settings;LRiverJustifier$LineRules;LRiverJustifier$BestWay;)V"⟩
abbrev cX1_hasLine : ByteArray := prog_3_method_2_code
def yX1_hasLine : MethodName := ⟨RX1, "hasLine", "(I)Z"⟩
abbrev cX1_firstWord : ByteArray := prog_3_method_3_code
def yX1_firstWord : MethodName := ⟨RX1, "firstWord", "(I)I"⟩
abbrev cX1_lastWord : ByteArray := prog_3_method_4_code
def yX1_lastWord : MethodName := ⟨RX1, "lastWord", "(I)I"⟩
abbrev cX1_endOf : ByteArray := prog_3_method_5_code
def yX1_endOf : MethodName := ⟨RX1, "endOf", "(I)I"⟩
abbrev cX1_demeritsBefore : ByteArray := prog_3_method_6_code
def yX1_demeritsBefore : MethodName := ⟨RX1, "demeritsBefore", "(I)I"⟩
abbrev cX1_linesWorseThan : ByteArray := prog_3_method_7_code
def yX1_linesWorseThan : MethodName := ⟨RX1, "linesWorseThan", "(I)I"⟩
abbrev cX1_secondLast : ByteArray := prog_3_method_8_code
def yX1_secondLast : MethodName := ⟨RX1, "secondLast", "(I)I"⟩
abbrev cX1_becomeBest : ByteArray := prog_3_method_9_code
def yX1_becomeBest : MethodName := ⟨RX1, "becomeBest", "()V"⟩
abbrev cX1_copyBreaks : ByteArray := prog_3_method_10_code
def yX1_copyBreaks : MethodName := ⟨RX1, "copyBreaks", "(LRiverJustifier$Layout;)V"⟩
abbrev cX1_endLineWith : ByteArray := prog_3_method_11_code
def yX1_endLineWith : MethodName := ⟨RX1, "endLineWith", "(II)V"⟩
abbrev cX1_goOnFrom : ByteArray := prog_3_method_12_code
def yX1_goOnFrom : MethodName := ⟨RX1, "goOnFrom", "(I)V"⟩
abbrev cX1_settle : ByteArray := prog_3_method_13_code
def yX1_settle : MethodName := ⟨RX1, "settle", "()V"⟩
abbrev cX1_shareOut : ByteArray := prog_3_method_14_code
def yX1_shareOut : MethodName := ⟨RX1, "shareOut", "(II)V"⟩
abbrev cX1_changeKind : ByteArray := prog_3_method_15_code
def yX1_changeKind : MethodName := ⟨RX1, "changeKind", "(IIIII)I"⟩
abbrev cX1_placeWords : ByteArray := prog_3_method_16_code
def yX1_placeWords : MethodName := ⟨RX1, "placeWords", "(III)V"⟩
abbrev cX2_init : ByteArray := prog_4_method_1_code
def yX2_init : MethodName := ⟨RX2, "<init>", "(LRiverJustifier$Paragraph;LRiverJustifier$Settings;)V"⟩
abbrev cX2_prepare : ByteArray := prog_4_method_2_code
def yX2_prepare : MethodName := ⟨RX2, "prepare", "()V"⟩
abbrev cX2_isEnd : ByteArray := prog_4_method_3_code
def yX2_isEnd : MethodName := ⟨RX2, "isEnd", "(I)Z"⟩
abbrev cX2_naturalWidth : ByteArray := prog_4_method_4_code
def yX2_naturalWidth : MethodName := ⟨RX2, "naturalWidth", "(II)I"⟩
abbrev cX2_badness : ByteArray := prog_4_method_5_code
def yX2_badness : MethodName := ⟨RX2, "badness", "(II)I"⟩
abbrev cX2_demerits : ByteArray := prog_4_method_6_code
def yX2_demerits : MethodName := ⟨RX2, "demerits", "(II)I"⟩
abbrev cX3_init : ByteArray := prog_5_method_1_code
def yX3_init : MethodName := ⟨RX3, "<init>", "()V"⟩
abbrev cX3_parse : ByteArray := prog_5_method_2_code
def yX3_parse : MethodName := ⟨RX3, "parse", "(LRiverJustifier$Text;)I"⟩
abbrev cX3_applyTo : ByteArray := prog_5_method_3_code
def yX3_applyTo : MethodName := ⟨RX3, "applyTo", "(LRiverJustifier$Settings;)V"⟩
abbrev cX3_wantedPieces : ByteArray := prog_5_method_4_code
def yX3_wantedPieces : MethodName := ⟨RX3, "wantedPieces", "()I"⟩
abbrev cX3_takePiece : ByteArray := prog_5_method_5_code
def yX3_takePiece : MethodName := ⟨RX3, "takePiece", "(LRiverJustifier$Text;III)Z"⟩
abbrev cX3_takeNumber : ByteArray := prog_5_method_6_code
def yX3_takeNumber : MethodName := ⟨RX3, "takeNumber", "(II)Z"⟩
abbrev cX3_leastNumber : ByteArray := prog_5_method_7_code
def yX3_leastNumber : MethodName := ⟨RX3, "leastNumber", "(I)I"⟩
abbrev cX3_greatestNumber : ByteArray := prog_5_method_8_code
def yX3_greatestNumber : MethodName := ⟨RX3, "greatestNumber", "()I"⟩
abbrev cX3_subjectAt : ByteArray := prog_5_method_9_code
def yX3_subjectAt : MethodName := ⟨RX3, "subjectAt", "(LRiverJustifier$Text;II)I"⟩
abbrev cX3_kindAt : ByteArray := prog_5_method_10_code
def yX3_kindAt : MethodName := ⟨RX3, "kindAt", "(LRiverJustifier$Text;II)I"⟩
abbrev cX4_init : ByteArray := prog_6_method_1_code
def yX4_init : MethodName := ⟨RX4, "<init>", "()V"⟩
abbrev cX4_hasWord : ByteArray := prog_6_method_2_code
def yX4_hasWord : MethodName := ⟨RX4, "hasWord", "(I)Z"⟩
abbrev cX4_take : ByteArray := prog_6_method_3_code
def yX4_take : MethodName := ⟨RX4, "take", "(LRiverJustifier$Text;)V"⟩
abbrev cX4_openWord : ByteArray := prog_6_method_4_code
def yX4_openWord : MethodName := ⟨RX4, "openWord", "(C)V"⟩
abbrev cX4_lengthenWord : ByteArray := prog_6_method_5_code
def yX4_lengthenWord : MethodName := ⟨RX4, "lengthenWord", "(C)V"⟩
abbrev cX5_init : ByteArray := prog_7_method_1_code
def yX5_init : MethodName := ⟨RX5, "<init>", "()V"⟩
abbrev cX5_spaceOf : ByteArray := prog_7_method_2_code
def yX5_spaceOf : MethodName := ⟨RX5, "spaceOf", "(II)I"⟩
abbrev cX5_find : ByteArray := prog_7_method_3_code
def yX5_find : MethodName := ⟨RX5, "find", "(LRiverJustifier$Layout;II)V"⟩
abbrev cX5_spaceAbove : ByteArray := prog_7_method_4_code
def yX5_spaceAbove : MethodName := ⟨RX5, "spaceAbove", "(LRiverJustifier$Layout;II)I"⟩
abbrev cX5_collectEnds : ByteArray := prog_7_method_5_code
def yX5_collectEnds : MethodName := ⟨RX5, "collectEnds", "(LRiverJustifier$Layout;I)V"⟩
abbrev cX6_init : ByteArray := prog_8_method_1_code
def yX6_init : MethodName := ⟨RX6, "<init>", "()V"⟩
abbrev cX6_putWidths : ByteArray := prog_8_method_2_code
def yX6_putWidths : MethodName := ⟨RX6, "putWidths", "(IIII)V"⟩
abbrev cX7_widthOf : ByteArray := prog_9_method_2_code
def yX7_widthOf : MethodName := ⟨RX7, "widthOf", "(C)I"⟩
abbrev cX7_smallLetterWidth : ByteArray := prog_9_method_3_code
def yX7_smallLetterWidth : MethodName := ⟨RX7, "smallLetterWidth", "(C)I"⟩
abbrev cX7_capitalWidth : ByteArray := prog_9_method_4_code
def yX7_capitalWidth : MethodName := ⟨RX7, "capitalWidth", "(C)I"⟩
abbrev cX7_kindBehind : ByteArray := prog_9_method_5_code
def yX7_kindBehind : MethodName := ⟨RX7, "kindBehind", "(C)I"⟩
abbrev cX7_hangsLeft : ByteArray := prog_9_method_6_code
def yX7_hangsLeft : MethodName := ⟨RX7, "hangsLeft", "(C)Z"⟩
abbrev cX7_hangsRight : ByteArray := prog_9_method_7_code
def yX7_hangsRight : MethodName := ⟨RX7, "hangsRight", "(C)Z"⟩
abbrev cX7_isDigit : ByteArray := prog_9_method_8_code
def yX7_isDigit : MethodName := ⟨RX7, "isDigit", "(C)Z"⟩
abbrev cX7_isOneOf : ByteArray := prog_9_method_9_code
def yX7_isOneOf : MethodName := ⟨RX7, "isOneOf", "(CLjava/lang/String;)Z"⟩
abbrev cX8_init : ByteArray := prog_10_method_1_code
def yX8_init : MethodName := ⟨RX8, "<init>", "()V"⟩
abbrev cX8_append : ByteArray := prog_10_method_2_code
def yX8_append : MethodName := ⟨RX8, "append", "(C)I"⟩
abbrev cX8_empty : ByteArray := prog_10_method_3_code
def yX8_empty : MethodName := ⟨RX8, "empty", "()I"⟩
abbrev cX8_paragraphFault : ByteArray := prog_10_method_4_code
def yX8_paragraphFault : MethodName := ⟨RX8, "paragraphFault", "()I"⟩
abbrev cX8_endOfPiece : ByteArray := prog_10_method_5_code
def yX8_endOfPiece : MethodName := ⟨RX8, "endOfPiece", "(I)I"⟩
abbrev cX8_isName : ByteArray := prog_10_method_6_code
def yX8_isName : MethodName := ⟨RX8, "isName", "(IILjava/lang/String;)Z"⟩
abbrev cX8_numberAt : ByteArray := prog_10_method_7_code
def yX8_numberAt : MethodName := ⟨RX8, "numberAt", "(II)I"⟩
abbrev cX9_init : ByteArray := prog_1_method_1_code
def yX9_init : MethodName := ⟨RX9, "<init>", "()V"⟩
abbrev cX9_type : ByteArray := prog_1_method_2_code
def yX9_type : MethodName := ⟨RX9, "type", "(C)I"⟩
abbrev cX9_clearText : ByteArray := prog_1_method_3_code
def yX9_clearText : MethodName := ⟨RX9, "clearText", "()I"⟩
abbrev cX9_readParagraph : ByteArray := prog_1_method_4_code
def yX9_readParagraph : MethodName := ⟨RX9, "readParagraph", "()I"⟩
abbrev cX9_command : ByteArray := prog_1_method_5_code
def yX9_command : MethodName := ⟨RX9, "command", "()I"⟩
abbrev cX9_setMeasure : ByteArray := prog_1_method_6_code
def yX9_setMeasure : MethodName := ⟨RX9, "setMeasure", "(I)I"⟩
abbrev cX9_setHang : ByteArray := prog_1_method_7_code
def yX9_setHang : MethodName := ⟨RX9, "setHang", "(I)I"⟩
abbrev cX9_setTolerance : ByteArray := prog_1_method_8_code
def yX9_setTolerance : MethodName := ⟨RX9, "setTolerance", "(I)I"⟩
abbrev cX9_setSpace : ByteArray := prog_1_method_9_code
def yX9_setSpace : MethodName := ⟨RX9, "setSpace", "(IIII)I"⟩
abbrev cX9_layBest : ByteArray := prog_1_method_10_code
def yX9_layBest : MethodName := ⟨RX9, "layBest", "()I"⟩
abbrev cX9_takeSecond : ByteArray := prog_1_method_11_code
def yX9_takeSecond : MethodName := ⟨RX9, "takeSecond", "(I)I"⟩
abbrev cX9_breakRivers : ByteArray := prog_1_method_12_code
def yX9_breakRivers : MethodName := ⟨RX9, "breakRivers", "()I"⟩
abbrev cX9_count : ByteArray := prog_1_method_13_code
def yX9_count : MethodName := ⟨RX9, "count", "(I)I"⟩
abbrev cX9_spaceWidth : ByteArray := prog_1_method_14_code
def yX9_spaceWidth : MethodName := ⟨RX9, "spaceWidth", "(II)I"⟩
abbrev cX9_word : ByteArray := prog_1_method_15_code
def yX9_word : MethodName := ⟨RX9, "word", "(II)I"⟩
abbrev cX9_line : ByteArray := prog_1_method_16_code
def yX9_line : MethodName := ⟨RX9, "line", "(II)I"⟩
abbrev cX9_space : ByteArray := prog_1_method_17_code
def yX9_space : MethodName := ⟨RX9, "space", "(III)I"⟩
abbrev cX9_begin : ByteArray := prog_1_method_18_code
def yX9_begin : MethodName := ⟨RX9, "begin", "(I)I"⟩
abbrev cX9_second : ByteArray := prog_1_method_19_code
def yX9_second : MethodName := ⟨RX9, "second", "(II)I"⟩
abbrev cX9_worst : ByteArray := prog_1_method_20_code
def yX9_worst : MethodName := ⟨RX9, "worst", "(I)I"⟩
abbrev cX9_river : ByteArray := prog_1_method_21_code
def yX9_river : MethodName := ⟨RX9, "river", "(II)I"⟩
abbrev cX9_at : ByteArray := prog_1_method_22_code
def yX9_at : MethodName := ⟨RX9, "at", "([II)I"⟩
abbrev cX9_isKind : ByteArray := prog_1_method_23_code
def yX9_isKind : MethodName := ⟨RX9, "isKind", "(I)Z"⟩
abbrev cX9_restoreBest : ByteArray := prog_1_method_24_code
def yX9_restoreBest : MethodName := ⟨RX9, "restoreBest", "()I"⟩
abbrev cX9_calmingLine : ByteArray := prog_1_method_25_code
def yX9_calmingLine : MethodName := ⟨RX9, "calmingLine", "()I"⟩
abbrev cX10_init : ByteArray := prog_12_method_1_code
def yX10_init : MethodName := ⟨RX10, "<init>", "()V"⟩
abbrev cX10_in : ByteArray := prog_12_method_2_code
def yX10_in : MethodName := ⟨RX10, "in", "(III)Z"⟩
abbrev cX10_widthOf : ByteArray := prog_12_method_3_code
def yX10_widthOf : MethodName := ⟨RX10, "widthOf", "(C)I"⟩
abbrev cX10_isSentence : ByteArray := prog_12_method_4_code
def yX10_isSentence : MethodName := ⟨RX10, "isSentence", "(C)Z"⟩
abbrev cX10_isClause : ByteArray := prog_12_method_5_code
def yX10_isClause : MethodName := ⟨RX10, "isClause", "(C)Z"⟩
abbrev cX10_isMark : ByteArray := prog_12_method_6_code
def yX10_isMark : MethodName := ⟨RX10, "isMark", "(C)Z"⟩
abbrev cX10_isAllowed : ByteArray := prog_12_method_7_code
def yX10_isAllowed : MethodName := ⟨RX10, "isAllowed", "(C)Z"⟩
abbrev cX10_type : ByteArray := prog_12_method_8_code
def yX10_type : MethodName := ⟨RX10, "type", "(C)I"⟩
abbrev cX10_clearText : ByteArray := prog_12_method_9_code
def yX10_clearText : MethodName := ⟨RX10, "clearText", "()I"⟩
abbrev cX10_addWord : ByteArray := prog_12_method_10_code
def yX10_addWord : MethodName := ⟨RX10, "addWord", "(II)V"⟩
abbrev cX10_readParagraph : ByteArray := prog_12_method_11_code
def yX10_readParagraph : MethodName := ⟨RX10, "readParagraph", "()I"⟩
abbrev cX10_nextPiece : ByteArray := prog_12_method_12_code
def yX10_nextPiece : MethodName := ⟨RX10, "nextPiece", "(Z)V"⟩
abbrev cX10_isPiece : ByteArray := prog_12_method_13_code
def yX10_isPiece : MethodName := ⟨RX10, "isPiece", "(CCCC)Z"⟩
abbrev cX10_endsWith : ByteArray := prog_12_method_14_code
def yX10_endsWith : MethodName := ⟨RX10, "endsWith", "(CCC)Z"⟩
abbrev cX10_isLong : ByteArray := prog_12_method_15_code
def yX10_isLong : MethodName := ⟨RX10, "isLong", "(I)Z"⟩
abbrev cX10_number : ByteArray := prog_12_method_16_code
def yX10_number : MethodName := ⟨RX10, "number", "(II)I"⟩
abbrev cX10_kind : ByteArray := prog_12_method_17_code
def yX10_kind : MethodName := ⟨RX10, "kind", "()I"⟩
abbrev cX10_command : ByteArray := prog_12_method_18_code
def yX10_command : MethodName := ⟨RX10, "command", "()I"⟩
abbrev cX10_setMeasure : ByteArray := prog_12_method_19_code
def yX10_setMeasure : MethodName := ⟨RX10, "setMeasure", "(I)I"⟩
abbrev cX10_setHang : ByteArray := prog_12_method_20_code
def yX10_setHang : MethodName := ⟨RX10, "setHang", "(I)I"⟩
abbrev cX10_setTolerance : ByteArray := prog_12_method_21_code
def yX10_setTolerance : MethodName := ⟨RX10, "setTolerance", "(I)I"⟩
abbrev cX10_setSpace : ByteArray := prog_12_method_22_code
def yX10_setSpace : MethodName := ⟨RX10, "setSpace", "(IIII)I"⟩
abbrev cX10_hangLeft : ByteArray := prog_12_method_23_code
def yX10_hangLeft : MethodName := ⟨RX10, "hangLeft", "(I)I"⟩
abbrev cX10_hangRight : ByteArray := prog_12_method_24_code
def yX10_hangRight : MethodName := ⟨RX10, "hangRight", "(I)I"⟩
abbrev cX10_spaces : ByteArray := prog_12_method_25_code
def yX10_spaces : MethodName := ⟨RX10, "spaces", "(III)I"⟩
abbrev cX10_natural : ByteArray := prog_12_method_26_code
def yX10_natural : MethodName := ⟨RX10, "natural", "(II)I"⟩
abbrev cX10_difference : ByteArray := prog_12_method_27_code
def yX10_difference : MethodName := ⟨RX10, "difference", "(II)I"⟩
abbrev cX10_isLast : ByteArray := prog_12_method_28_code
def yX10_isLast : MethodName := ⟨RX10, "isLast", "(I)Z"⟩
abbrev cX10_isPossible : ByteArray := prog_12_method_29_code
def yX10_isPossible : MethodName := ⟨RX10, "isPossible", "(II)Z"⟩
abbrev cX10_badness : ByteArray := prog_12_method_30_code
def yX10_badness : MethodName := ⟨RX10, "badness", "(II)I"⟩
abbrev cX10_demerits : ByteArray := prog_12_method_31_code
def yX10_demerits : MethodName := ⟨RX10, "demerits", "(II)I"⟩
abbrev cX10_findWays : ByteArray := prog_12_method_32_code
def yX10_findWays : MethodName := ⟨RX10, "findWays", "()V"⟩
abbrev cX10_goOn : ByteArray := prog_12_method_33_code
def yX10_goOn : MethodName := ⟨RX10, "goOn", "(II)V"⟩
abbrev cX10_hasWay : ByteArray := prog_12_method_34_code
def yX10_hasWay : MethodName := ⟨RX10, "hasWay", "()Z"⟩
abbrev cX10_layAnew : ByteArray := prog_12_method_35_code
def yX10_layAnew : MethodName := ⟨RX10, "layAnew", "()V"⟩
abbrev cX10_layBest : ByteArray := prog_12_method_36_code
def yX10_layBest : MethodName := ⟨RX10, "layBest", "()I"⟩
abbrev cX10_lastOf : ByteArray := prog_12_method_37_code
def yX10_lastOf : MethodName := ⟨RX10, "lastOf", "(I)I"⟩
abbrev cX10_demeritsBefore : ByteArray := prog_12_method_38_code
def yX10_demeritsBefore : MethodName := ⟨RX10, "demeritsBefore", "(I)I"⟩
abbrev cX10_secondOf : ByteArray := prog_12_method_39_code
def yX10_secondOf : MethodName := ⟨RX10, "secondOf", "(I)I"⟩
abbrev cX10_secondDemerits : ByteArray := prog_12_method_40_code
def yX10_secondDemerits : MethodName := ⟨RX10, "secondDemerits", "(I)I"⟩
abbrev cX10_noLine : ByteArray := prog_12_method_41_code
def yX10_noLine : MethodName := ⟨RX10, "noLine", "(I)Z"⟩
abbrev cX10_takesSecond : ByteArray := prog_12_method_42_code
def yX10_takesSecond : MethodName := ⟨RX10, "takesSecond", "(I)V"⟩
abbrev cX10_takeSecond : ByteArray := prog_12_method_43_code
def yX10_takeSecond : MethodName := ⟨RX10, "takeSecond", "(I)I"⟩
abbrev cX10_share : ByteArray := prog_12_method_44_code
def yX10_share : MethodName := ⟨RX10, "share", "(IIIII)I"⟩
abbrev cX10_layLine : ByteArray := prog_12_method_45_code
def yX10_layLine : MethodName := ⟨RX10, "layLine", "(I)V"⟩
abbrev cX10_spaceBegin : ByteArray := prog_12_method_46_code
def yX10_spaceBegin : MethodName := ⟨RX10, "spaceBegin", "(I)I"⟩
abbrev cX10_middle : ByteArray := prog_12_method_47_code
def yX10_middle : MethodName := ⟨RX10, "middle", "(I)I"⟩
abbrev cX10_hasSpace : ByteArray := prog_12_method_48_code
def yX10_hasSpace : MethodName := ⟨RX10, "hasSpace", "(I)Z"⟩
abbrev cX10_areNear : ByteArray := prog_12_method_49_code
def yX10_areNear : MethodName := ⟨RX10, "areNear", "(II)Z"⟩
abbrev cX10_above : ByteArray := prog_12_method_50_code
def yX10_above : MethodName := ⟨RX10, "above", "(I)I"⟩
abbrev cX10_hasBelow : ByteArray := prog_12_method_51_code
def yX10_hasBelow : MethodName := ⟨RX10, "hasBelow", "(I)Z"⟩
abbrev cX10_layOut : ByteArray := prog_12_method_52_code
def yX10_layOut : MethodName := ⟨RX10, "layOut", "()V"⟩
abbrev cX10_ends : ByteArray := prog_12_method_53_code
def yX10_ends : MethodName := ⟨RX10, "ends", "(I)Z"⟩
abbrev cX10_endOf : ByteArray := prog_12_method_54_code
def yX10_endOf : MethodName := ⟨RX10, "endOf", "(I)I"⟩
abbrev cX10_strength : ByteArray := prog_12_method_55_code
def yX10_strength : MethodName := ⟨RX10, "strength", "()I"⟩
abbrev cX10_strengthWith : ByteArray := prog_12_method_56_code
def yX10_strengthWith : MethodName := ⟨RX10, "strengthWith", "(I)I"⟩
abbrev cX10_breaker : ByteArray := prog_12_method_57_code
def yX10_breaker : MethodName := ⟨RX10, "breaker", "()I"⟩
abbrev cX10_breakRivers : ByteArray := prog_12_method_58_code
def yX10_breakRivers : MethodName := ⟨RX10, "breakRivers", "()I"⟩
abbrev cX10_count : ByteArray := prog_12_method_59_code
def yX10_count : MethodName := ⟨RX10, "count", "(I)I"⟩
abbrev cX10_spaceWidth : ByteArray := prog_12_method_60_code
def yX10_spaceWidth : MethodName := ⟨RX10, "spaceWidth", "(II)I"⟩
abbrev cX10_noWord : ByteArray := prog_12_method_61_code
def yX10_noWord : MethodName := ⟨RX10, "noWord", "(I)Z"⟩
abbrev cX10_word : ByteArray := prog_12_method_62_code
def yX10_word : MethodName := ⟨RX10, "word", "(II)I"⟩
abbrev cX10_line : ByteArray := prog_12_method_63_code
def yX10_line : MethodName := ⟨RX10, "line", "(II)I"⟩
abbrev cX10_space : ByteArray := prog_12_method_64_code
def yX10_space : MethodName := ⟨RX10, "space", "(III)I"⟩
abbrev cX10_begin : ByteArray := prog_12_method_65_code
def yX10_begin : MethodName := ⟨RX10, "begin", "(I)I"⟩
abbrev cX10_second : ByteArray := prog_12_method_66_code
def yX10_second : MethodName := ⟨RX10, "second", "(II)I"⟩
abbrev cX10_badnessOf : ByteArray := prog_12_method_67_code
def yX10_badnessOf : MethodName := ⟨RX10, "badnessOf", "(I)I"⟩
abbrev cX10_worst : ByteArray := prog_12_method_68_code
def yX10_worst : MethodName := ⟨RX10, "worst", "(I)I"⟩
abbrev cX10_river : ByteArray := prog_12_method_69_code
def yX10_river : MethodName := ⟨RX10, "river", "(II)I"⟩
abbrev cJ0_length_8abf5 : ByteArray := prog_15_method_54_code
def yJ0_length_8abf5 : MethodName := ⟨RJ0, "length", "()I"⟩
abbrev cJ0_charAt_5068e : ByteArray := prog_15_method_56_code
def yJ0_charAt_5068e : MethodName := ⟨RJ0, "charAt", "(I)C"⟩
abbrev cJ0_indexOf_0f7a4 : ByteArray := prog_15_method_79_code
def yJ0_indexOf_0f7a4 : MethodName := ⟨RJ0, "indexOf", "(I)I"⟩
abbrev cJ0_indexOf_7cf53 : ByteArray := prog_15_method_80_code
def yJ0_indexOf_7cf53 : MethodName := ⟨RJ0, "indexOf", "(II)I"⟩
abbrev cJ0_coder_7d493 : ByteArray := prog_15_method_152_code
def yJ0_coder_7d493 : MethodName := ⟨RJ0, "coder", "()B"⟩
abbrev cJ0_isLatin1_aae02 : ByteArray := prog_15_method_154_code
def yJ0_isLatin1_aae02 : MethodName := ⟨RJ0, "isLatin1", "()Z"⟩
abbrev cJ0_checkIndex_df160 : ByteArray := prog_15_method_155_code
def yJ0_checkIndex_df160 : MethodName := ⟨RJ0, "checkIndex", "(II)V"⟩
abbrev cJ0_checkBoundsBeginEnd_23922 : ByteArray := prog_15_method_158_code
def yJ0_checkBoundsBeginEnd_23922 : MethodName := ⟨RJ0, "checkBoundsBeginEnd", "(III)V"⟩
abbrev cJ1_charAt_3b067 : ByteArray := prog_16_method_2_code
def yJ1_charAt_3b067 : MethodName := ⟨RJ1, "charAt", "([BI)C"⟩
abbrev cJ1_canEncode_9a6ad : ByteArray := prog_16_method_4_code
def yJ1_canEncode_9a6ad : MethodName := ⟨RJ1, "canEncode", "(I)Z"⟩
abbrev cJ1_indexOf_4cfef : ByteArray := prog_16_method_22_code
def yJ1_indexOf_4cfef : MethodName := ⟨RJ1, "indexOf", "([BIII)I"⟩
abbrev cJ1_indexOfChar_4cfef : ByteArray := prog_16_method_23_code
def yJ1_indexOfChar_4cfef : MethodName := ⟨RJ1, "indexOfChar", "([BIII)I"⟩
abbrev cJ3_checkIndex_8e157 : ByteArray := prog_18_method_11_code
def yJ3_checkIndex_8e157 : MethodName := ⟨RJ3, "checkIndex", "(IILjava/util/function/BiFunction;)I"⟩
abbrev cJ3_checkFromToIndex_8c36e : ByteArray := prog_18_method_12_code
def yJ3_checkFromToIndex_8c36e : MethodName := ⟨RJ3, "checkFromToIndex", "(IIILjava/util/function/BiFunction;)I"⟩
abbrev cL_law : ByteArray := code
end
section
/-! THE ENGINE: a small machine over whole numbers (ints as Int, cells by their places), sound for the kit's W; a method is walked in it -/
abbrev ab_V : Type := Int ⊕ Option Nat
abbrev ab_E : Type := (Nat × Nat × (Int → Int)) ⊕ (Nat × List ab_V)
abbrev ab_L : Type := List (Option ab_V)
def ab_i (z : Int) : Int32 := Int32.ofInt z
def ab_r (z : Int) : Prop := -2147483648 ≤ z ∧ z ≤ 2147483647
def ab_v (A : Nat → Nat) (v : ab_V) : Value := match v with
  | .inl z => .int (ab_i z)
  | .inr none => .null
  | .inr (some k) => .ref (A k)
def ab_e (A : Nat → Nat) (cA : Nat → ClassId) (e : ab_E) : va_E := match e with
  | .inl (t, n, f) => .inl (cA t, n, .inl (fun j => ab_i (f (j : Int))))
  | .inr (ci, fs) => .inr (ci, fs.map (ab_v A))
def ab_w (A : Nat → Nat) (cA : Nat → ClassId) : Nat → List ab_E → va_W
  | _, [] => []
  | k, e :: r => (A k, ab_e A cA e) :: ab_w A cA (k + 1) r
def ab_l (A : Nat → Nat) : Nat → ab_L → List (Nat × Value)
  | _, [] => []
  | k, none :: r => ab_l A (k + 1) r
  | k, some v :: r => (k, ab_v A v) :: ab_l A (k + 1) r
/-- an int array's function with one place changed -/
def ab_u (f : Int → Int) (k v : Int) : Int → Int := fun j => if j = k then v else f j
theorem ab_toInt {z : Int} (h : ab_r z) : (ab_i z).toInt = z := Int32.toInt_ofInt_of_le (by have := h.1; omega) (by have := h.2; omega)
theorem ab_of (x : Int32) : ab_i x.toInt = x := Int32.ofInt_toInt x
theorem ab_rng (x : Int32) : ab_r x.toInt := by
  have h1 := Int32.toInt_lt x
  have h2 := Int32.le_toInt x
  exact ⟨by omega, by omega⟩
theorem ab_lt {x y : Int} (hx : ab_r x) (hy : ab_r y) : ab_i x < ab_i y ↔ x < y := by rw [Int32.lt_iff_toInt_lt, ab_toInt hx, ab_toInt hy]
theorem ab_le {x y : Int} (hx : ab_r x) (hy : ab_r y) : ab_i x ≤ ab_i y ↔ x ≤ y := by rw [Int32.le_iff_toInt_le, ab_toInt hx, ab_toInt hy]
theorem ab_eq {x y : Int} (hx : ab_r x) (hy : ab_r y) : ab_i x = ab_i y ↔ x = y := by
  refine ⟨fun h => ?_, fun h => by rw [h]⟩
  have := congrArg Int32.toInt h
  rwa [ab_toInt hx, ab_toInt hy] at this
theorem ab_add (x y : Int) : ab_i x + ab_i y = ab_i (x + y) := (Int32.ofInt_add x y).symm
theorem ab_sub (x y : Int) : ab_i x - ab_i y = ab_i (x - y) := (Int32.ofInt_sub x y).symm
theorem ab_mul (x y : Int) : ab_i x * ab_i y = ab_i (x * y) := (Int32.ofInt_mul x y).symm
theorem ab_neg (x : Int) : - ab_i x = ab_i (-x) := (Int32.ofInt_neg x).symm
theorem ab_div {x y : Int} (hx : ab_r x) (hy : ab_r y) : ab_i x / ab_i y = ab_i (x.tdiv y) := by
  have m1 : Int32.minValue.toInt = -2147483648 := by decide
  have m2 : Int32.maxValue.toInt = 2147483647 := by decide
  exact (Int32.ofInt_tdiv (by rw [m1]; exact hx.1) (by rw [m2]; exact hx.2) (by rw [m1]; exact hy.1) (by rw [m2]; exact hy.2)).symm
theorem ab_0 : ab_i 0 = 0 := by decide
theorem ab_r0 : ab_r 0 := by unfold ab_r; omega
theorem ab_clamp {z : Int} (h : ab_r z) : (ab_i z).toNatClampNeg = z.toNat := by
  show (ab_i z).toInt.toNat = z.toNat
  rw [ab_toInt h]
theorem ab_vin {z : Int} {n : Nat} (hn : n < 2147483648) (h0 : 0 ≤ z) (h1 : z < n) : vp_in (ab_i z) n := by
  have hr : ab_r z := ⟨by omega, by omega⟩
  refine vp_in_iff.mpr ?_
  rw [ab_toInt hr]
  exact ⟨h0, h1⟩
theorem ab_cat (A : Nat → Nat) (v : ab_V) : (ab_v A v).category = 1 := by
  rcases v with z | (_ | k) <;> rfl
theorem ab_w_get (A : Nat → Nat) (cA : Nat → ClassId) : ∀ (h : List ab_E) (k j : Nat), (ab_w A cA k h)[j]? = (h[j]?).map (fun e => (A (k + j), ab_e A cA e))
  | [], k, j => by simp [ab_w]
  | e :: r, k, 0 => by simp [ab_w]
  | e :: r, k, j + 1 => by
    rw [ab_w, List.getElem?_cons_succ, List.getElem?_cons_succ, ab_w_get A cA r (k + 1) j, show k + 1 + j = k + (j + 1) by omega]
theorem ab_w_at {A : Nat → Nat} {cA : Nat → ClassId} {h : List ab_E} {j : Nat} {e : ab_E} (he : h[j]? = some e) : (ab_w A cA 0 h)[j]? = some (A j, ab_e A cA e) := by
  rw [ab_w_get, he, Nat.zero_add]
  rfl
theorem ab_w_set (A : Nat → Nat) (cA : Nat → ClassId) (e : ab_E) : ∀ (h : List ab_E) (k j : Nat), (ab_w A cA k h).set j (A (k + j), ab_e A cA e) = ab_w A cA k (h.set j e)
  | [], k, j => by simp [ab_w]
  | x :: r, k, 0 => by simp [ab_w]
  | x :: r, k, j + 1 => by
    rw [ab_w, List.set_cons_succ, List.set_cons_succ, ab_w, show k + (j + 1) = k + 1 + j by omega, ab_w_set A cA e r (k + 1) j]
theorem ab_w_put (A : Nat → Nat) (cA : Nat → ClassId) (e : ab_E) (h : List ab_E) (j : Nat) : (ab_w A cA 0 h).set j (A j, ab_e A cA e) = ab_w A cA 0 (h.set j e) := by
  have := ab_w_set A cA e h 0 j
  rwa [Nat.zero_add] at this
theorem ab_w_app (A : Nat → Nat) (cA : Nat → ClassId) (e : ab_E) : ∀ (h : List ab_E) (k : Nat), ab_w A cA k (h ++ [e]) = ab_w A cA k h ++ [(A (k + h.length), ab_e A cA e)]
  | [], k => rfl
  | x :: r, k => by
    rw [List.cons_append, ab_w, ab_w, ab_w_app A cA e r (k + 1), List.cons_append, List.length_cons, show k + 1 + r.length = k + (r.length + 1) by omega]
theorem ab_l_mem (A : Nat → Nat) : ∀ (L : ab_L) (k : Nat) (q : Nat × Value), q ∈ ab_l A k L ↔ ∃ (i : Nat) (v : ab_V), L[i]? = some (some v) ∧ q = (k + i, ab_v A v)
  | [], k, q => by simp [ab_l]
  | none :: r, k, q => by
    rw [ab_l, ab_l_mem A r (k + 1) q]
    constructor
    · rintro ⟨i, v, h1, h2⟩
      exact ⟨i + 1, v, by rw [List.getElem?_cons_succ]; exact h1, by rw [h2]; congr 1; omega⟩
    · rintro ⟨i, v, h1, h2⟩
      cases i with
      | zero => simp at h1
      | succ i => exact ⟨i, v, by rwa [List.getElem?_cons_succ] at h1, by rw [h2]; congr 1; omega⟩
  | some w :: r, k, q => by
    rw [ab_l, List.mem_cons, ab_l_mem A r (k + 1) q]
    constructor
    · rintro (h | ⟨i, v, h1, h2⟩)
      · exact ⟨0, w, rfl, by rw [h]; rfl⟩
      · exact ⟨i + 1, v, by rw [List.getElem?_cons_succ]; exact h1, by rw [h2]; congr 1; omega⟩
    · rintro ⟨i, v, h1, h2⟩
      cases i with
      | zero => simp at h1; exact Or.inl (by rw [h2, h1]; rfl)
      | succ i => exact Or.inr ⟨i, v, by rwa [List.getElem?_cons_succ] at h1, by rw [h2]; congr 1; omega⟩
theorem ab_lmono {ls : Array Slot} {n : Nat} {l l' : List (Nat × Value)} (h : lv_has ls n l) (hm : ∀ q ∈ l', q ∈ l) : lv_has ls n l' := ⟨h.1, h.2.1, fun q hq => h.2.2 q (hm q hq)⟩
theorem ab_load {A : Nat → Nat} {ls : Array Slot} {n i : Nat} {L : ab_L} {v : ab_V} (h : lv_has ls n (ab_l A 0 L)) (hi : L[i]? = some (some v)) : ls[i]? = some (.val (ab_v A v)) :=
  h.2.2 (i, ab_v A v) ((ab_l_mem A L 0 _).mpr ⟨i, v, hi, by rw [Nat.zero_add]⟩)
theorem ab_store {A : Nat → Nat} {ls : Array Slot} {n i : Nat} {L : ab_L} {v : ab_V} (h : lv_has ls n ((i, ab_v A v) :: (ab_l A 0 L).filter (fun q => !(q.1 == i) && !(q.1 + 1 == i && q.2.category == 2)))) : lv_has ls n (ab_l A 0 (L.set i (some v))) := by
  refine ab_lmono h fun q hq => ?_
  obtain ⟨j, w, h1, h2⟩ := (ab_l_mem A _ 0 q).mp hq
  rw [Nat.zero_add] at h2
  by_cases hj : j = i
  · subst hj
    have hl : j < L.length := by
      have := (List.getElem?_eq_some_iff.mp h1).1
      rwa [List.length_set] at this
    rw [List.getElem?_set_self hl] at h1
    cases h1
    rw [h2]
    exact List.mem_cons_self
  · rw [List.getElem?_set_ne (Ne.symm hj)] at h1
    refine List.mem_cons_of_mem _ (List.mem_filter.mpr ⟨(ab_l_mem A L 0 q).mpr ⟨j, w, h1, by rw [Nat.zero_add]; exact h2⟩, ?_⟩)
    rw [h2]
    have c1 := ab_cat A w
    simp [hj, c1]
/-- locals that are forgotten -/
theorem ab_lsub {A : Nat → Nat} {ls : Array Slot} {n : Nat} {L L' : ab_L} (h : lv_has ls n (ab_l A 0 L)) (hs : ∀ (i : Nat) (v : ab_V), L'[i]? = some (some v) → L[i]? = some (some v)) : lv_has ls n (ab_l A 0 L') :=
  ab_lmono h fun q hq => by
    obtain ⟨i, v, h1, h2⟩ := (ab_l_mem A L' 0 q).mp hq
    exact (ab_l_mem A L 0 q).mpr ⟨i, v, hs i v h1, h2⟩
/-- fewer: by places -/
def ab_less : ab_L → ab_L → Prop
  | [], [] => True
  | none :: r, _ :: r' => ab_less r r'
  | some v :: r, w :: r' => w = some v ∧ ab_less r r'
  | _, _ => False
theorem ab_less_at : ∀ (L' L : ab_L), ab_less L' L → L'.length = L.length ∧ ∀ (i : Nat) (v : ab_V), L'[i]? = some (some v) → L[i]? = some (some v)
  | [], [], _ => ⟨rfl, fun _ _ h => by simp at h⟩
  | none :: r, w :: r', h => by
    obtain ⟨h1, h2⟩ := ab_less_at r r' h
    refine ⟨by simp [h1], fun i v hi => ?_⟩
    cases i with
    | zero => simp at hi
    | succ i => rw [List.getElem?_cons_succ] at hi ⊢; exact h2 i v hi
  | some x :: r, w :: r', h => by
    obtain ⟨h1, h2⟩ := ab_less_at r r' h.2
    refine ⟨by simp [h1], fun i v hi => ?_⟩
    cases i with
    | zero => simp at hi; simp [h.1, hi]
    | succ i => rw [List.getElem?_cons_succ] at hi ⊢; exact h2 i v hi
  | [], _ :: _, h => h.elim
  | none :: _, [], h => h.elim
  | some _ :: _, [], h => h.elim
/-- a value, a world whose places lie under n (or are constants, from 1000 on) -/
def ab_ok (n : Nat) (v : ab_V) : Bool := match v with
  | .inr (some k) => decide (k < n) || decide (1000 ≤ k)
  | _ => true
def ab_eok (n : Nat) (e : ab_E) : Bool := match e with
  | .inr (_, fs) => fs.all (ab_ok n)
  | _ => true
def ab_lok (n : Nat) (L : ab_L) : Bool := L.all (fun x => match x with | some v => ab_ok n v | none => true)
theorem ab_v_ext {A A' : Nat → Nat} {n : Nat} (h : ∀ k, k < n ∨ 1000 ≤ k → A' k = A k) {v : ab_V} (hv : ab_ok n v = true) : ab_v A' v = ab_v A v := by
  rcases v with z | (_ | k)
  · rfl
  · rfl
  · simp only [ab_ok, Bool.or_eq_true, decide_eq_true_eq] at hv
    show Value.ref (A' k) = Value.ref (A k)
    rw [h k hv]
theorem ab_vs_ext {A A' : Nat → Nat} {n : Nat} (h : ∀ k, k < n ∨ 1000 ≤ k → A' k = A k) {st : List ab_V} (hv : st.all (ab_ok n) = true) : st.map (ab_v A') = st.map (ab_v A) :=
  List.map_congr_left fun v hm => ab_v_ext h (List.all_eq_true.mp hv v hm)
theorem ab_e_ext {A A' : Nat → Nat} {n : Nat} {cA : Nat → ClassId} (h : ∀ k, k < n ∨ 1000 ≤ k → A' k = A k) {e : ab_E} (he : ab_eok n e = true) : ab_e A' cA e = ab_e A cA e := by
  rcases e with ⟨t, m, f⟩ | ⟨ci, fs⟩
  · rfl
  · show Sum.inr (ci, fs.map (ab_v A')) = Sum.inr (ci, fs.map (ab_v A))
    rw [ab_vs_ext h he]
theorem ab_w_ext {A A' : Nat → Nat} {n : Nat} {cA : Nat → ClassId} (h : ∀ k, k < n ∨ 1000 ≤ k → A' k = A k) : ∀ (hp : List ab_E) (k : Nat), hp.all (ab_eok n) = true → k + hp.length ≤ n → ab_w A' cA k hp = ab_w A cA k hp
  | [], _, _, _ => rfl
  | e :: r, k, he, hk => by
    rw [List.all_cons, Bool.and_eq_true] at he
    rw [List.length_cons] at hk
    rw [ab_w, ab_w, ab_e_ext h he.1, h k (Or.inl (by omega)), ab_w_ext h r (k + 1) he.2 (by omega)]
theorem ab_l_ext {A A' : Nat → Nat} {n : Nat} (h : ∀ k, k < n ∨ 1000 ≤ k → A' k = A k) : ∀ (L : ab_L) (k : Nat), ab_lok n L = true → ab_l A' k L = ab_l A k L
  | [], _, _ => rfl
  | none :: r, k, he => by
    rw [ab_l, ab_l]
    exact ab_l_ext h r (k + 1) (by simpa [ab_lok] using he)
  | some v :: r, k, he => by
    have h1 : ab_ok n v = true ∧ ab_lok n r = true := by simpa [ab_lok] using he
    rw [ab_l, ab_l, ab_v_ext h h1.1, ab_l_ext h r (k + 1) h1.2]
def ab_fit (d : Option FieldType) (v : ab_V) : Prop := match d, v with
  | some .int, .inl _ => True
  | some (.object _), .inr _ => True
  | some (.array _), .inr _ => True
  | _, _ => False
theorem ab_fit_ok (A : Nat → Nat) {d : Option FieldType} {v : ab_V} (h : ab_fit d v) : ∃ ty, d = some ty ∧ narrow ty (ab_v A v) = ab_v A v ∧ fits ty (ab_v A v) = true := by
  cases d with
  | none => exact h.elim
  | some ty =>
    refine ⟨ty, rfl, ?_⟩
    rcases v with z | (_ | k) <;> cases ty <;> first | exact h.elim | exact ⟨rfl, rfl⟩
theorem ab_toN {z : Int} (h0 : 0 ≤ z) (h : z < 2147483648) : ab_i z = nI z.toNat := by
  show Int32.ofInt z = Int32.ofNat z.toNat
  rw [← Int32.ofInt_eq_ofNat, Int.toNat_of_nonneg h0]
theorem ab_nar_char {z : Int} (h : 0 ≤ z ∧ z < 65536) : vp_nar .char (ab_i z) = ab_i z := by
  rw [ab_toN h.1 (by omega)]
  have := (pk_charN (q := z.toNat) (by omega)).1
  show (match narrow .char (.int (nI z.toNat)) with | .int y => y | _ => 0) = _
  rw [this]
theorem ab_nrc {z : Int} (h : 0 ≤ z ∧ z < 65536) : narrow .char (.int (ab_i z)) = .int (ab_i z) := by
  rw [ab_toN h.1 (by omega)]
  exact (pk_charN (q := z.toNat) (by omega)).1
theorem ab_nar_boolean {z : Int} (h : z = 0 ∨ z = 1) : vp_nar .boolean (ab_i z) = ab_i z := by
  rcases h with rfl | rfl <;> decide +kernel
theorem ab_nrz {z : Int} (h : z = 0 ∨ z = 1) : narrow .boolean (.int (ab_i z)) = .int (ab_i z) := by
  rcases h with rfl | rfl <;> decide +kernel
theorem ab_b8 {z : Int} (h : -128 ≤ z ∧ z < 128) : (ab_i z).toInt8.toInt32 = ab_i z := by
  have k : ∀ n : Nat, n < 256 → (ab_i ((n : Int) - 128)).toInt8.toInt32 = ab_i ((n : Int) - 128) := by decide +kernel
  have := k (z + 128).toNat (by omega)
  rwa [show (((z + 128).toNat : Nat) : Int) - 128 = z by omega] at this
theorem ab_nrb {z : Int} (h : -128 ≤ z ∧ z < 128) : narrow .byte (.int (ab_i z)) = .int (ab_i z) := by
  have k : ∀ n : Nat, n < 256 → narrow .byte (.int (ab_i ((n : Int) - 128))) = .int (ab_i ((n : Int) - 128)) := by decide +kernel
  have := k (z + 128).toNat (by omega)
  rwa [show (((z + 128).toNat : Nat) : Int) - 128 = z by omega] at this
theorem ab_c16 (z : Int) : ((ab_i z).toUInt32 % 65536).toInt32 = ab_i (z % 65536) := by
  rw [pk_char, ab_toN (z := z % 65536) (by omega) (by omega)]
  congr 1
  have h1 : (ab_i z).toBitVec.toNat = (z % 4294967296).toNat := by
    show (BitVec.ofInt 32 z).toNat = _
    rw [BitVec.toNat_ofInt]
    rfl
  rw [h1]
  omega
theorem ab_sum (A : Nat → Nat) (st : List ab_V) : ((st.map (ab_v A)).map fun v => v.category).sum = st.length := by
  induction st with
  | nil => rfl
  | cons v r ih => rw [List.map_cons, List.map_cons, List.sum_cons, ih, ab_cat, List.length_cons]; omega
theorem ab_mmax {x y : Int} (hx : ab_r x) (hy : ab_r y) : (if ab_i x < ab_i y then ab_i y else ab_i x) = ab_i (max x y) := by
  by_cases h : x < y
  · rw [if_pos ((ab_lt hx hy).mpr h), show max x y = y by omega]
  · rw [if_neg (fun z => h ((ab_lt hx hy).mp z)), show max x y = x by omega]
theorem ab_mmin {x y : Int} (hx : ab_r x) (hy : ab_r y) : (if ab_i y < ab_i x then ab_i y else ab_i x) = ab_i (min x y) := by
  by_cases h : y < x
  · rw [if_pos ((ab_lt hy hx).mpr h), show min x y = y by omega]
  · rw [if_neg (fun z => h ((ab_lt hy hx).mp z)), show min x y = x by omega]
theorem ab_mabs {x : Int} (hx : ab_r x) : (if 0 ≤ ab_i x then ab_i x else 0 - ab_i x) = ab_i (if 0 ≤ x then x else -x) := by
  by_cases h : 0 ≤ x
  · rw [if_pos (by rw [← ab_0]; exact (ab_le ab_r0 hx).mpr h), if_pos h]
  · rw [if_neg (fun z => h ((ab_le ab_r0 hx).mp (by rw [ab_0]; exact z))), if_neg h, ← ab_neg]
    exact Int32.zero_sub _
theorem ab_sl_len (A : Nat → Nat) (as : List ab_V) : (lg_sl (as.map (ab_v A))).length = as.length := by
  induction as with
  | nil => rfl
  | cons v r ih =>
    unfold lg_sl at ih ⊢
    rw [List.map_cons, List.flatMap_cons, if_neg (by rw [ab_cat]; decide), List.length_append, ih, List.length_cons, List.length_cons, List.length_nil]
    omega
theorem ab_args (A : Nat → Nat) : ∀ (as : List ab_V) (k i : Nat) (v : ab_V), as[i]? = some v → (k + i, ab_v A v) ∈ lv_args k (as.map (ab_v A))
  | [], _, _, _, h => by simp at h
  | w :: r, k, 0, v, h => by
    simp at h
    subst h
    rw [List.map_cons, lv_args]
    exact List.mem_cons_self
  | w :: r, k, i + 1, v, h => by
    rw [List.getElem?_cons_succ] at h
    rw [List.map_cons, lv_args, if_neg (by rw [ab_cat]; decide)]
    have := ab_args A r (k + 1) i v h
    rw [show k + (i + 1) = k + 1 + i by omega]
    exact List.mem_cons_of_mem _ this
def ab_ty (cA : Nat → ClassId) : List (ClassId × FieldType) := [(cA 0, .int), (cA 1, .char), (cA 2, .boolean)]
def ab_X (A : Nat → Nat) (Af : Nat → Prop) (U : State) (H : Heap) : Prop :=
  vk_S 16 xsL xsB (fun i => A (1000 + i)) (fun i => A (2000 + i)) Af U H ∧ va_Z "java/lang/String" "COMPACT_STRINGS" "Z" (.int 1) Af U H ∧
  (va_Z "jdk/internal/util/Preconditions" "SIOOBE_FORMATTER" "Ljava/util/function/BiFunction;" .null Af U H ∨ va_Z "jdk/internal/util/Preconditions" "SIOOBE_FORMATTER" "Ljava/util/function/BiFunction;" (.ref (A 3001)) Af U H) ∧
  (∀ (i : Nat) (e : String × Nat × String), xsK[i]? = some e → vk_R e.1 e.2.1 e.2.2 (A (1000 + i)) U) ∧ ∀ q ∈ xsN, va_Nw (.methodLinkNest q.1 q.2.1 q.2.2.1 q.2.2.2) U
theorem ab_X.same {A : Nat → Nat} {Af : Nat → Prop} {u U : State} {H : Heap} (hv : U.vm = u.vm) (hvm : u.vm.Alike U.vm) (h : ab_X A Af u H) : ab_X A Af U H :=
  ⟨h.1.moved hvm, h.2.1.moved hvm, h.2.2.1.imp (va_Z.moved hvm) (va_Z.moved hvm), fun i e he => (h.2.2.2.1 i e he).same hv, fun q hq => va_tabs rfl hv.symm (h.2.2.2.2 q hq)⟩
theorem ab_X.narrow {A : Nat → Nat} {Af B : Nat → Prop} {U : State} {H : Heap} (hB : ∀ q, B q → Af q) (h : ab_X A Af U H) : ab_X A B U H :=
  ⟨h.1.narrow hB, h.2.1.narrow hB, h.2.2.1.imp (fun z => z.narrow hB) (fun z => z.narrow hB), h.2.2.2⟩
theorem ab_X.warm {A : Nat → Nat} {Af : Nat → Prop} {s U : State} {H H1 : Heap} (hW : s.WarmedH U.vm) (hq : ∀ a : Nat, a < H.size → ¬ Af a → H1[a]? = H[a]?) (h : ab_X A Af s H) : ab_X A Af U H1 :=
  ⟨(h.1.moved hW.alike).kept hq, (h.2.1.moved hW.alike).kept hq, h.2.2.1.imp (fun z => (z.moved hW.alike).kept hq) (fun z => (z.moved hW.alike).kept hq), fun i e he => (h.2.2.2.1 i e he).warm hW, fun q hq => (h.2.2.2.2 q hq).warmM hW⟩
def ab_Ag (al : Bool) (A0 : Nat → Nat) (n0 : Nat) (A : Nat → Nat) : Prop := if al = true then ∀ k, k < n0 ∨ 1000 ≤ k → A k = A0 k else A = A0
def ab_Pc (D : va_G) (cA : Nat → ClassId) (A : Nat → Nat) (sz : Nat) (as : List ab_V) (h : List ab_E) : Array Value → State → Prop :=
  va_Pc (as.map (ab_v A)) (fun U => U.heap.size = sz ∧ va_P D xcl (ab_w A cA 0 h) U.heap ∧ va_K D xcl (ab_ty cA) U ∧ va_D (fun _ => True) (ab_w A cA 0 h) ∧ ab_X A (va_A (ab_w A cA 0 h) sz) U U.heap)
def ab_Qc (post : Option ab_V → List ab_E → Prop) (D : va_G) (cA : Nat → ClassId) (Ag : (Nat → Nat) → Prop) (Af : Nat → Prop) : Array Value → State → Outcome → State → Prop := fun _ st oc t =>
  (∃ (r : Option ab_V) (u : List ab_E) (A' : Nat → Nat), oc = .returned (r.map (ab_v A')) ∧ post r u ∧ Ag A' ∧ va_P D xcl (ab_w A' cA 0 u) t.heap ∧ va_K D xcl (ab_ty cA) t ∧ va_D Af (ab_w A' cA 0 u)) ∧ va_F Af st t
/-- a method's contract: from these arguments and this heap it returns with an answer and a heap of 'post' -/
def ab_Mt (y : MethodName) (cc : ByteArray) (nL : Nat) (ret : Option FieldType) (rm : Room) (al : Bool) (mc ms : Nat) (as : List ab_V) (h : List ab_E) (post : Option ab_V → List ab_E → Prop) : Prop :=
  ∀ (l : Launch) (D : va_G) (cA : Nat → ClassId) (A : Nat → Nat) (sz : Nat), Met l y (.code y cc nL ret :: xtb) rm (ab_Pc D cA A sz as h) (ab_Qc post D cA (ab_Ag al A h.length) (va_A (ab_w A cA 0 h) sz)) mc ms (va_A (ab_w A cA 0 h) sz)
def ab_rt (ret : Option FieldType) (r : Option ab_V) : Prop := match ret, r with
  | none, none => True
  | some .int, some (.inl _) => True
  | some .boolean, some (.inl z) => z = 0 ∨ z = 1
  | some .char, some (.inl z) => 0 ≤ z ∧ z < 65536
  | some .byte, some (.inl z) => -128 ≤ z ∧ z < 128
  | _, _ => False
def ab_ri (r : Option ab_V) : Instr := match r with
  | none => .return_
  | some _ => .ireturn
abbrev ab_J : Type := Nat → ab_L → List ab_V → List ab_E → Nat → Nat → Prop
/-- the judgement -/
def ab_W (p : Program) (l : Launch) (e : Env) (R : Room) (s : State) (m : MethodId) (args : Array Value) (below : List Frame) (meth : Method) (c : Code) (D : va_G) (cA : Nat → ClassId) (nL : Nat) (Ag : (Nat → Nat) → Prop) (Af : Nat → Prop) (Q : State → Prop) : ab_J := fun pc L st h kc ks =>
  ∀ (A : Nat → Nat) (H : Heap) (locs : List Loc) (ls : Array Slot), Ag A → L.length = nL → va_P D xcl (ab_w A cA 0 h) H → va_D Af (ab_w A cA 0 h) → va_S Af s.heap H locs → lv_has ls nL (ab_l A 0 L) → W p l e R s m args below meth c H locs kc ks Q (F0 m pc ls (st.map (ab_v A)))
/-- V is the judgement of a method (bytes cc, of class own) in some state of the machine -/
def ab_Cl (cc : ByteArray) (own : String) (nL : Nat) (R : Room) (al : Bool) (n0 : Nat) (ini : Bool) (sc : Option (Nat × (Int → Int))) (ret : Option FieldType) (post : Option ab_V → List ab_E → Prop) (mc ms : Nat) (V : ab_J) : Prop :=
  ∃ (p : Program) (l : Launch) (e : Env) (s : State) (m : MethodId) (args : Array Value) (below : List Frame) (meth : Method) (c : Code) (D : va_G) (cA : Nat → ClassId) (A0 : Nat → Nat) (Af : Nat → Prop) (Q : State → Prop),
    (p.tables.exec = Jvm.exec ∧ c.code = cc ∧ c.maxLocals = nL ∧ s.vm.findClass own = some m.cls ∧ (∀ w ∈ xtb, w.before args s = true) ∧ va_K D xcl (ab_ty cA) s ∧ (∀ q, s.heap.size ≤ q → Af q) ∧ (∀ A, ab_Ag al A0 n0 A → ab_X A Af s s.heap) ∧ (ini = true → meth.name = "<init>") ∧
      (∀ (L : Nat) (f : Int → Int), sc = some (L, f) → ∀ A, ab_Ag al A0 n0 A → va_X (A 3000) L (fun j => ab_i (f (j : Int))) s s.heap ∧ A 3000 < s.heap.size ∧ ¬ Af (A 3000)) ∧
      (∀ (A : Nat → Nat) (H : Heap) (locs : List Loc) (ls : Array Slot) (pc : Nat) (r : Option ab_V) (u : List ab_E), ab_Ag al A0 n0 A → va_P D xcl (ab_w A cA 0 u) H → va_D Af (ab_w A cA 0 u) → va_S Af s.heap H locs → post r u → ab_rt ret r → decode cc pc = .ok (ab_ri r, 1) → W p l e R s m args below meth c H locs mc ms Q (F0 m pc ls (r.toList.map (ab_v A))))) ∧
    V = ab_W p l e R s m args below meth c D cA nL (ab_Ag al A0 n0) Af Q
section ABR
variable {cc : ByteArray} {own : String} {nL : Nat} {R : Room} {al : Bool} {n0 : Nat} {ini : Bool} {sc : Option (Nat × (Int → Int))} {ret : Option FieldType} {post : Option ab_V → List ab_E → Prop} {mc ms : Nat} {V : ab_J} {pc : Nat} {L : ab_L} {st : List ab_V} {h : List ab_E} {kc ks : Nat}
theorem rb_iconst (hV : ab_Cl cc own nL R al n0 ini sc ret post mc ms V) {n : Int} (hd : decode cc pc = .ok (.iconst n, 1)) (k : V (pc + 1) L (.inl n :: st) h kc ks) : V pc L st h kc ks := by
  obtain ⟨p, l, e, s, m, args, below, meth, c, D, cA, A0, Af, Q, ⟨hx, hb, hml, hown, hts, hK, hAf, hX, hini, hsc, hret⟩, rfl⟩ := hV
  intro A H locs ls hag hL hP hD hS hl
  exact lv_iconst hx hb hd rfl (k A H locs ls hag hL hP hD hS hl)
theorem rb_bipush (hV : ab_Cl cc own nL R al n0 ini sc ret post mc ms V) {n : Int} (hd : decode cc pc = .ok (.bipush n, 2)) (hn : (Int8.ofInt n).toInt32 = ab_i n) (k : V (pc + 2) L (.inl n :: st) h kc ks) : V pc L st h kc ks := by
  obtain ⟨p, l, e, s, m, args, below, meth, c, D, cA, A0, Af, Q, ⟨hx, hb, hml, hown, hts, hK, hAf, hX, hini, hsc, hret⟩, rfl⟩ := hV
  intro A H locs ls hag hL hP hD hS hl
  exact lv_bipush hx hb hd hn (k A H locs ls hag hL hP hD hS hl)
theorem rb_sipush (hV : ab_Cl cc own nL R al n0 ini sc ret post mc ms V) {n : Int} (hd : decode cc pc = .ok (.sipush n, 3)) (hn : (Int16.ofInt n).toInt32 = ab_i n) (k : V (pc + 3) L (.inl n :: st) h kc ks) : V pc L st h kc ks := by
  obtain ⟨p, l, e, s, m, args, below, meth, c, D, cA, A0, Af, Q, ⟨hx, hb, hml, hown, hts, hK, hAf, hX, hini, hsc, hret⟩, rfl⟩ := hV
  intro A H locs ls hag hL hP hD hS hl
  exact lv_sipush hx hb hd hn (k A H locs ls hag hL hP hD hS hl)
theorem rb_iload_n (hV : ab_Cl cc own nL R al n0 ini sc ret post mc ms V) {j : Fin 4} {i : Nat} {z : Int} (hd : decode cc pc = .ok (.iload_n j, 1)) (hj : (j : Nat) = i) (hi : L[i]? = some (some (.inl z))) (k : V (pc + 1) L (.inl z :: st) h kc ks) : V pc L st h kc ks := by
  obtain ⟨p, l, e, s, m, args, below, meth, c, D, cA, A0, Af, Q, ⟨hx, hb, hml, hown, hts, hK, hAf, hX, hini, hsc, hret⟩, rfl⟩ := hV
  intro A H locs ls hag hL hP hD hS hl
  exact lv_iload_n hx hb hd hj (ab_load hl hi) (k A H locs ls hag hL hP hD hS hl)
theorem rb_iload (hV : ab_Cl cc own nL R al n0 ini sc ret post mc ms V) {i : Nat} {z : Int} (hd : decode cc pc = .ok (.iload i, 2)) (hi : L[i]? = some (some (.inl z))) (k : V (pc + 2) L (.inl z :: st) h kc ks) : V pc L st h kc ks := by
  obtain ⟨p, l, e, s, m, args, below, meth, c, D, cA, A0, Af, Q, ⟨hx, hb, hml, hown, hts, hK, hAf, hX, hini, hsc, hret⟩, rfl⟩ := hV
  intro A H locs ls hag hL hP hD hS hl
  exact lv_iload hx hb hd (ab_load hl hi) (k A H locs ls hag hL hP hD hS hl)
theorem rb_aload_n (hV : ab_Cl cc own nL R al n0 ini sc ret post mc ms V) {j : Fin 4} {i : Nat} {z : Nat} (hd : decode cc pc = .ok (.aload_n j, 1)) (hj : (j : Nat) = i) (hi : L[i]? = some (some (.inr (some z)))) (k : V (pc + 1) L (.inr (some z) :: st) h kc ks) : V pc L st h kc ks := by
  obtain ⟨p, l, e, s, m, args, below, meth, c, D, cA, A0, Af, Q, ⟨hx, hb, hml, hown, hts, hK, hAf, hX, hini, hsc, hret⟩, rfl⟩ := hV
  intro A H locs ls hag hL hP hD hS hl
  exact lv_aload_n hx hb hd hj (ab_load hl hi) (k A H locs ls hag hL hP hD hS hl)
theorem rb_aload (hV : ab_Cl cc own nL R al n0 ini sc ret post mc ms V) {i : Nat} {z : Nat} (hd : decode cc pc = .ok (.aload i, 2)) (hi : L[i]? = some (some (.inr (some z)))) (k : V (pc + 2) L (.inr (some z) :: st) h kc ks) : V pc L st h kc ks := by
  obtain ⟨p, l, e, s, m, args, below, meth, c, D, cA, A0, Af, Q, ⟨hx, hb, hml, hown, hts, hK, hAf, hX, hini, hsc, hret⟩, rfl⟩ := hV
  intro A H locs ls hag hL hP hD hS hl
  exact lv_aload hx hb hd (ab_load hl hi) (k A H locs ls hag hL hP hD hS hl)
theorem rb_istore_n (hV : ab_Cl cc own nL R al n0 ini sc ret post mc ms V) {j : Fin 4} {i : Nat} {z : Int} {L2 : ab_L} (hd : decode cc pc = .ok (.istore_n j, 1)) (hj : (j : Nat) = i) (hi : i < L.length) (hL2 : L.set i (some (.inl z)) = L2) (k : V (pc + 1) L2 st h kc ks) : V pc L (.inl z :: st) h kc ks := by
  obtain ⟨p, l, e, s, m, args, below, meth, c, D, cA, A0, Af, Q, ⟨hx, hb, hml, hown, hts, hK, hAf, hX, hini, hsc, hret⟩, rfl⟩ := hV
  intro A H locs ls hag hL hP hD hS hl
  subst hL2
  refine lv_istore_n hx hb hd hj hl (by omega) rfl (fun ls' hl' => ?_)
  exact k A H locs ls' hag (by rw [List.length_set]; exact hL) hP hD hS (ab_store (v := .inl z) hl')
theorem rb_istore (hV : ab_Cl cc own nL R al n0 ini sc ret post mc ms V) {i : Nat} {z : Int} {L2 : ab_L} (hd : decode cc pc = .ok (.istore i, 2)) (hi : i < L.length) (hL2 : L.set i (some (.inl z)) = L2) (k : V (pc + 2) L2 st h kc ks) : V pc L (.inl z :: st) h kc ks := by
  obtain ⟨p, l, e, s, m, args, below, meth, c, D, cA, A0, Af, Q, ⟨hx, hb, hml, hown, hts, hK, hAf, hX, hini, hsc, hret⟩, rfl⟩ := hV
  intro A H locs ls hag hL hP hD hS hl
  subst hL2
  refine lv_istore hx hb hd hl (by omega) rfl (fun ls' hl' => ?_)
  exact k A H locs ls' hag (by rw [List.length_set]; exact hL) hP hD hS (ab_store (v := .inl z) hl')
theorem rb_astore_n (hV : ab_Cl cc own nL R al n0 ini sc ret post mc ms V) {j : Fin 4} {i : Nat} {z : Nat} {L2 : ab_L} (hd : decode cc pc = .ok (.astore_n j, 1)) (hj : (j : Nat) = i) (hi : i < L.length) (hL2 : L.set i (some (.inr (some z))) = L2) (k : V (pc + 1) L2 st h kc ks) : V pc L (.inr (some z) :: st) h kc ks := by
  obtain ⟨p, l, e, s, m, args, below, meth, c, D, cA, A0, Af, Q, ⟨hx, hb, hml, hown, hts, hK, hAf, hX, hini, hsc, hret⟩, rfl⟩ := hV
  intro A H locs ls hag hL hP hD hS hl
  subst hL2
  refine lv_astore_n hx hb hd hj hl (by omega) rfl (fun ls' hl' => ?_)
  exact k A H locs ls' hag (by rw [List.length_set]; exact hL) hP hD hS (ab_store (v := .inr (some z)) hl')
theorem rb_astore (hV : ab_Cl cc own nL R al n0 ini sc ret post mc ms V) {i : Nat} {z : Nat} {L2 : ab_L} (hd : decode cc pc = .ok (.astore i, 2)) (hi : i < L.length) (hL2 : L.set i (some (.inr (some z))) = L2) (k : V (pc + 2) L2 st h kc ks) : V pc L (.inr (some z) :: st) h kc ks := by
  obtain ⟨p, l, e, s, m, args, below, meth, c, D, cA, A0, Af, Q, ⟨hx, hb, hml, hown, hts, hK, hAf, hX, hini, hsc, hret⟩, rfl⟩ := hV
  intro A H locs ls hag hL hP hD hS hl
  subst hL2
  refine lv_astore hx hb hd hl (by omega) rfl (fun ls' hl' => ?_)
  exact k A H locs ls' hag (by rw [List.length_set]; exact hL) hP hD hS (ab_store (v := .inr (some z)) hl')
theorem rb_iinc (hV : ab_Cl cc own nL R al n0 ini sc ret post mc ms V) {i : Nat} {n z z2 : Int} {L2 : ab_L} (hd : decode cc pc = .ok (.iinc i n, 3)) (hi : L[i]? = some (some (.inl z))) (hz : z + n = z2) (hL2 : L.set i (some (.inl z2)) = L2) (k : V (pc + 3) L2 st h kc ks) : V pc L st h kc ks := by
  obtain ⟨p, l, e, s, m, args, below, meth, c, D, cA, A0, Af, Q, ⟨hx, hb, hml, hown, hts, hK, hAf, hX, hini, hsc, hret⟩, rfl⟩ := hV
  intro A H locs ls hag hL hP hD hS hl
  subst hL2
  have hm : (i, ab_v A (.inl z)) ∈ ab_l A 0 L := (ab_l_mem A L 0 _).mpr ⟨i, .inl z, hi, by rw [Nat.zero_add]⟩
  obtain ⟨q, hq⟩ := List.getElem?_of_mem hm
  have hi2 : i < nL := by rw [← hL]; exact (List.getElem?_eq_some_iff.mp hi).1
  refine lv_iinc (v := ab_i z2) hx hb hd hl hq (by rw [← hz]; exact ab_add z n) hi2 rfl (fun ls' hl' => ?_)
  exact k A H locs ls' hag (by rw [List.length_set]; exact hL) hP hD hS (ab_store (v := .inl z2) hl')
theorem rb_iadd (hV : ab_Cl cc own nL R al n0 ini sc ret post mc ms V) {x y : Int} (hd : decode cc pc = .ok (.iadd, 1)) (k : V (pc + 1) L (.inl (x + y) :: st) h kc ks) : V pc L (.inl y :: .inl x :: st) h kc ks := by
  obtain ⟨p, l, e, s, m, args, below, meth, c, D, cA, A0, Af, Q, ⟨hx, hb, hml, hown, hts, hK, hAf, hX, hini, hsc, hret⟩, rfl⟩ := hV
  intro A H locs ls hag hL hP hD hS hl
  have k1 := k A H locs ls hag hL hP hD hS hl
  refine lv_iadd hx hb hd ?_
  rw [ab_add]
  exact k1
theorem rb_isub (hV : ab_Cl cc own nL R al n0 ini sc ret post mc ms V) {x y : Int} (hd : decode cc pc = .ok (.isub, 1)) (k : V (pc + 1) L (.inl (x - y) :: st) h kc ks) : V pc L (.inl y :: .inl x :: st) h kc ks := by
  obtain ⟨p, l, e, s, m, args, below, meth, c, D, cA, A0, Af, Q, ⟨hx, hb, hml, hown, hts, hK, hAf, hX, hini, hsc, hret⟩, rfl⟩ := hV
  intro A H locs ls hag hL hP hD hS hl
  have k1 := k A H locs ls hag hL hP hD hS hl
  refine lv_isub hx hb hd ?_
  rw [ab_sub]
  exact k1
theorem rb_imul (hV : ab_Cl cc own nL R al n0 ini sc ret post mc ms V) {x y : Int} (hd : decode cc pc = .ok (.imul, 1)) (k : V (pc + 1) L (.inl (x * y) :: st) h kc ks) : V pc L (.inl y :: .inl x :: st) h kc ks := by
  obtain ⟨p, l, e, s, m, args, below, meth, c, D, cA, A0, Af, Q, ⟨hx, hb, hml, hown, hts, hK, hAf, hX, hini, hsc, hret⟩, rfl⟩ := hV
  intro A H locs ls hag hL hP hD hS hl
  have k1 := k A H locs ls hag hL hP hD hS hl
  refine lv_imul hx hb hd ?_
  rw [ab_mul]
  exact k1
theorem rb_idiv (hV : ab_Cl cc own nL R al n0 ini sc ret post mc ms V) {x y : Int} (hd : decode cc pc = .ok (.idiv, 1)) (hr : ab_r x ∧ ab_r y) (hy : y ≠ 0) (k : V (pc + 1) L (.inl (x.tdiv y) :: st) h kc ks) : V pc L (.inl y :: .inl x :: st) h kc ks := by
  obtain ⟨p, l, e, s, m, args, below, meth, c, D, cA, A0, Af, Q, ⟨hx, hb, hml, hown, hts, hK, hAf, hX, hini, hsc, hret⟩, rfl⟩ := hV
  intro A H locs ls hag hL hP hD hS hl
  have k1 := k A H locs ls hag hL hP hD hS hl
  refine lv_idiv hx hb hd (fun z => hy ((ab_eq hr.2 ab_r0).mp (by rw [z, ab_0]))) ?_
  rw [ab_div hr.1 hr.2]
  exact k1
theorem rb_ineg (hV : ab_Cl cc own nL R al n0 ini sc ret post mc ms V) {x : Int} (hd : decode cc pc = .ok (.ineg, 1)) (k : V (pc + 1) L (.inl (-x) :: st) h kc ks) : V pc L (.inl x :: st) h kc ks := by
  obtain ⟨p, l, e, s, m, args, below, meth, c, D, cA, A0, Af, Q, ⟨hx, hb, hml, hown, hts, hK, hAf, hX, hini, hsc, hret⟩, rfl⟩ := hV
  intro A H locs ls hag hL hP hD hS hl
  have k1 := k A H locs ls hag hL hP hD hS hl
  refine lv_ineg hx hb hd ?_
  rw [ab_neg]
  exact k1
theorem rb_pop (hV : ab_Cl cc own nL R al n0 ini sc ret post mc ms V) {v : ab_V} (hd : decode cc pc = .ok (.pop, 1)) (k : V (pc + 1) L st h kc ks) : V pc L (v :: st) h kc ks := by
  obtain ⟨p, l, e, s, m, args, below, meth, c, D, cA, A0, Af, Q, ⟨hx, hb, hml, hown, hts, hK, hAf, hX, hini, hsc, hret⟩, rfl⟩ := hV
  intro A H locs ls hag hL hP hD hS hl
  exact lv_pop hx hb hd (ab_cat A v) (k A H locs ls hag hL hP hD hS hl)
theorem rb_dup (hV : ab_Cl cc own nL R al n0 ini sc ret post mc ms V) {v : ab_V} (hd : decode cc pc = .ok (.dup, 1)) (k : V (pc + 1) L (v :: v :: st) h kc ks) : V pc L (v :: st) h kc ks := by
  obtain ⟨p, l, e, s, m, args, below, meth, c, D, cA, A0, Af, Q, ⟨hx, hb, hml, hown, hts, hK, hAf, hX, hini, hsc, hret⟩, rfl⟩ := hV
  intro A H locs ls hag hL hP hD hS hl
  exact lv_dup hx hb hd (ab_cat A v) (k A H locs ls hag hL hP hD hS hl)
theorem rb_dup2 (hV : ab_Cl cc own nL R al n0 ini sc ret post mc ms V) {v w : ab_V} (hd : decode cc pc = .ok (.dup2, 1)) (k : V (pc + 1) L (v :: w :: v :: w :: st) h kc ks) : V pc L (v :: w :: st) h kc ks := by
  obtain ⟨p, l, e, s, m, args, below, meth, c, D, cA, A0, Af, Q, ⟨hx, hb, hml, hown, hts, hK, hAf, hX, hini, hsc, hret⟩, rfl⟩ := hV
  intro A H locs ls hag hL hP hD hS hl
  exact lv_dup2_11 hx hb hd (ab_cat A v) (ab_cat A w) (k A H locs ls hag hL hP hD hS hl)
theorem rb_goto (hV : ab_Cl cc own nL R al n0 ini sc ret post mc ms V) {off : Int} {tgt : Nat} (hd : decode cc pc = .ok (.goto off, 3)) (ht : (pc : Int) + off = (tgt : Int)) (k : V tgt L st h kc ks) : V pc L st h kc ks := by
  obtain ⟨p, l, e, s, m, args, below, meth, c, D, cA, A0, Af, Q, ⟨hx, hb, hml, hown, hts, hK, hAf, hX, hini, hsc, hret⟩, rfl⟩ := hV
  intro A H locs ls hag hL hP hD hS hl
  exact lv_goto hx hb hd ht (k A H locs ls hag hL hP hD hS hl)
theorem rb_icmp_eq (hV : ab_Cl cc own nL R al n0 ini sc ret post mc ms V) {x y : Int} {off : Int} {tgt : Nat} (hd : decode cc pc = .ok (.if_icmp .eq off, 3)) (ht : (pc : Int) + off = (tgt : Int)) (hr : ab_r x ∧ ab_r y) (kt : x = y → V tgt L st h kc ks) (kf : ¬ x = y → V (pc + 3) L st h kc ks) : V pc L (.inl y :: .inl x :: st) h kc ks := by
  obtain ⟨p, l, e, s, m, args, below, meth, c, D, cA, A0, Af, Q, ⟨hx, hb, hml, hown, hts, hK, hAf, hX, hini, hsc, hret⟩, rfl⟩ := hV
  intro A H locs ls hag hL hP hD hS hl
  exact lv_icmp_eq hx hb hd ht (fun z => kt ((ab_eq hr.1 hr.2).mp z) A H locs ls hag hL hP hD hS hl) (fun z => kf (fun q => z ((ab_eq hr.1 hr.2).mpr q)) A H locs ls hag hL hP hD hS hl)
theorem rb_icmp_ne (hV : ab_Cl cc own nL R al n0 ini sc ret post mc ms V) {x y : Int} {off : Int} {tgt : Nat} (hd : decode cc pc = .ok (.if_icmp .ne off, 3)) (ht : (pc : Int) + off = (tgt : Int)) (hr : ab_r x ∧ ab_r y) (kt : ¬ x = y → V tgt L st h kc ks) (kf : x = y → V (pc + 3) L st h kc ks) : V pc L (.inl y :: .inl x :: st) h kc ks := by
  obtain ⟨p, l, e, s, m, args, below, meth, c, D, cA, A0, Af, Q, ⟨hx, hb, hml, hown, hts, hK, hAf, hX, hini, hsc, hret⟩, rfl⟩ := hV
  intro A H locs ls hag hL hP hD hS hl
  exact lv_icmp_ne hx hb hd ht (fun z => kt (fun q => z ((ab_eq hr.1 hr.2).mpr q)) A H locs ls hag hL hP hD hS hl) (fun z => kf ((ab_eq hr.1 hr.2).mp z) A H locs ls hag hL hP hD hS hl)
theorem rb_icmp_lt (hV : ab_Cl cc own nL R al n0 ini sc ret post mc ms V) {x y : Int} {off : Int} {tgt : Nat} (hd : decode cc pc = .ok (.if_icmp .lt off, 3)) (ht : (pc : Int) + off = (tgt : Int)) (hr : ab_r x ∧ ab_r y) (kt : x < y → V tgt L st h kc ks) (kf : ¬ x < y → V (pc + 3) L st h kc ks) : V pc L (.inl y :: .inl x :: st) h kc ks := by
  obtain ⟨p, l, e, s, m, args, below, meth, c, D, cA, A0, Af, Q, ⟨hx, hb, hml, hown, hts, hK, hAf, hX, hini, hsc, hret⟩, rfl⟩ := hV
  intro A H locs ls hag hL hP hD hS hl
  exact lv_icmp_lt hx hb hd ht (fun z => kt ((ab_lt hr.1 hr.2).mp z) A H locs ls hag hL hP hD hS hl) (fun z => kf (fun q => z ((ab_lt hr.1 hr.2).mpr q)) A H locs ls hag hL hP hD hS hl)
theorem rb_icmp_ge (hV : ab_Cl cc own nL R al n0 ini sc ret post mc ms V) {x y : Int} {off : Int} {tgt : Nat} (hd : decode cc pc = .ok (.if_icmp .ge off, 3)) (ht : (pc : Int) + off = (tgt : Int)) (hr : ab_r x ∧ ab_r y) (kt : y ≤ x → V tgt L st h kc ks) (kf : ¬ y ≤ x → V (pc + 3) L st h kc ks) : V pc L (.inl y :: .inl x :: st) h kc ks := by
  obtain ⟨p, l, e, s, m, args, below, meth, c, D, cA, A0, Af, Q, ⟨hx, hb, hml, hown, hts, hK, hAf, hX, hini, hsc, hret⟩, rfl⟩ := hV
  intro A H locs ls hag hL hP hD hS hl
  exact lv_icmp_ge hx hb hd ht (fun z => kt ((ab_le hr.2 hr.1).mp z) A H locs ls hag hL hP hD hS hl) (fun z => kf (fun q => z ((ab_le hr.2 hr.1).mpr q)) A H locs ls hag hL hP hD hS hl)
theorem rb_icmp_gt (hV : ab_Cl cc own nL R al n0 ini sc ret post mc ms V) {x y : Int} {off : Int} {tgt : Nat} (hd : decode cc pc = .ok (.if_icmp .gt off, 3)) (ht : (pc : Int) + off = (tgt : Int)) (hr : ab_r x ∧ ab_r y) (kt : y < x → V tgt L st h kc ks) (kf : ¬ y < x → V (pc + 3) L st h kc ks) : V pc L (.inl y :: .inl x :: st) h kc ks := by
  obtain ⟨p, l, e, s, m, args, below, meth, c, D, cA, A0, Af, Q, ⟨hx, hb, hml, hown, hts, hK, hAf, hX, hini, hsc, hret⟩, rfl⟩ := hV
  intro A H locs ls hag hL hP hD hS hl
  exact lv_icmp_gt hx hb hd ht (fun z => kt ((ab_lt hr.2 hr.1).mp z) A H locs ls hag hL hP hD hS hl) (fun z => kf (fun q => z ((ab_lt hr.2 hr.1).mpr q)) A H locs ls hag hL hP hD hS hl)
theorem rb_icmp_le (hV : ab_Cl cc own nL R al n0 ini sc ret post mc ms V) {x y : Int} {off : Int} {tgt : Nat} (hd : decode cc pc = .ok (.if_icmp .le off, 3)) (ht : (pc : Int) + off = (tgt : Int)) (hr : ab_r x ∧ ab_r y) (kt : x ≤ y → V tgt L st h kc ks) (kf : ¬ x ≤ y → V (pc + 3) L st h kc ks) : V pc L (.inl y :: .inl x :: st) h kc ks := by
  obtain ⟨p, l, e, s, m, args, below, meth, c, D, cA, A0, Af, Q, ⟨hx, hb, hml, hown, hts, hK, hAf, hX, hini, hsc, hret⟩, rfl⟩ := hV
  intro A H locs ls hag hL hP hD hS hl
  exact lv_icmp_le hx hb hd ht (fun z => kt ((ab_le hr.1 hr.2).mp z) A H locs ls hag hL hP hD hS hl) (fun z => kf (fun q => z ((ab_le hr.1 hr.2).mpr q)) A H locs ls hag hL hP hD hS hl)
theorem rb_if_eq (hV : ab_Cl cc own nL R al n0 ini sc ret post mc ms V) {x : Int} {off : Int} {tgt : Nat} (hd : decode cc pc = .ok (.ifCond .eq off, 3)) (ht : (pc : Int) + off = (tgt : Int)) (hr : ab_r x) (kt : x = 0 → V tgt L st h kc ks) (kf : ¬ x = 0 → V (pc + 3) L st h kc ks) : V pc L (.inl x :: st) h kc ks := by
  obtain ⟨p, l, e, s, m, args, below, meth, c, D, cA, A0, Af, Q, ⟨hx, hb, hml, hown, hts, hK, hAf, hX, hini, hsc, hret⟩, rfl⟩ := hV
  intro A H locs ls hag hL hP hD hS hl
  exact lv_if_eq hx hb hd ht (fun z => kt ((ab_eq hr ab_r0).mp z) A H locs ls hag hL hP hD hS hl) (fun z => kf (fun q => z ((ab_eq hr ab_r0).mpr q)) A H locs ls hag hL hP hD hS hl)
theorem rb_if_ne (hV : ab_Cl cc own nL R al n0 ini sc ret post mc ms V) {x : Int} {off : Int} {tgt : Nat} (hd : decode cc pc = .ok (.ifCond .ne off, 3)) (ht : (pc : Int) + off = (tgt : Int)) (hr : ab_r x) (kt : ¬ x = 0 → V tgt L st h kc ks) (kf : x = 0 → V (pc + 3) L st h kc ks) : V pc L (.inl x :: st) h kc ks := by
  obtain ⟨p, l, e, s, m, args, below, meth, c, D, cA, A0, Af, Q, ⟨hx, hb, hml, hown, hts, hK, hAf, hX, hini, hsc, hret⟩, rfl⟩ := hV
  intro A H locs ls hag hL hP hD hS hl
  exact lv_if_ne hx hb hd ht (fun z => kt (fun q => z ((ab_eq hr ab_r0).mpr q)) A H locs ls hag hL hP hD hS hl) (fun z => kf ((ab_eq hr ab_r0).mp z) A H locs ls hag hL hP hD hS hl)
theorem rb_if_lt (hV : ab_Cl cc own nL R al n0 ini sc ret post mc ms V) {x : Int} {off : Int} {tgt : Nat} (hd : decode cc pc = .ok (.ifCond .lt off, 3)) (ht : (pc : Int) + off = (tgt : Int)) (hr : ab_r x) (kt : x < 0 → V tgt L st h kc ks) (kf : ¬ x < 0 → V (pc + 3) L st h kc ks) : V pc L (.inl x :: st) h kc ks := by
  obtain ⟨p, l, e, s, m, args, below, meth, c, D, cA, A0, Af, Q, ⟨hx, hb, hml, hown, hts, hK, hAf, hX, hini, hsc, hret⟩, rfl⟩ := hV
  intro A H locs ls hag hL hP hD hS hl
  exact lv_if_lt hx hb hd ht (fun z => kt ((ab_lt hr ab_r0).mp z) A H locs ls hag hL hP hD hS hl) (fun z => kf (fun q => z ((ab_lt hr ab_r0).mpr q)) A H locs ls hag hL hP hD hS hl)
theorem rb_if_ge (hV : ab_Cl cc own nL R al n0 ini sc ret post mc ms V) {x : Int} {off : Int} {tgt : Nat} (hd : decode cc pc = .ok (.ifCond .ge off, 3)) (ht : (pc : Int) + off = (tgt : Int)) (hr : ab_r x) (kt : 0 ≤ x → V tgt L st h kc ks) (kf : ¬ 0 ≤ x → V (pc + 3) L st h kc ks) : V pc L (.inl x :: st) h kc ks := by
  obtain ⟨p, l, e, s, m, args, below, meth, c, D, cA, A0, Af, Q, ⟨hx, hb, hml, hown, hts, hK, hAf, hX, hini, hsc, hret⟩, rfl⟩ := hV
  intro A H locs ls hag hL hP hD hS hl
  exact lv_if_ge hx hb hd ht (fun z => kt ((ab_le ab_r0 hr).mp z) A H locs ls hag hL hP hD hS hl) (fun z => kf (fun q => z ((ab_le ab_r0 hr).mpr q)) A H locs ls hag hL hP hD hS hl)
theorem rb_if_gt (hV : ab_Cl cc own nL R al n0 ini sc ret post mc ms V) {x : Int} {off : Int} {tgt : Nat} (hd : decode cc pc = .ok (.ifCond .gt off, 3)) (ht : (pc : Int) + off = (tgt : Int)) (hr : ab_r x) (kt : 0 < x → V tgt L st h kc ks) (kf : ¬ 0 < x → V (pc + 3) L st h kc ks) : V pc L (.inl x :: st) h kc ks := by
  obtain ⟨p, l, e, s, m, args, below, meth, c, D, cA, A0, Af, Q, ⟨hx, hb, hml, hown, hts, hK, hAf, hX, hini, hsc, hret⟩, rfl⟩ := hV
  intro A H locs ls hag hL hP hD hS hl
  exact lv_if_gt hx hb hd ht (fun z => kt ((ab_lt ab_r0 hr).mp z) A H locs ls hag hL hP hD hS hl) (fun z => kf (fun q => z ((ab_lt ab_r0 hr).mpr q)) A H locs ls hag hL hP hD hS hl)
theorem rb_if_le (hV : ab_Cl cc own nL R al n0 ini sc ret post mc ms V) {x : Int} {off : Int} {tgt : Nat} (hd : decode cc pc = .ok (.ifCond .le off, 3)) (ht : (pc : Int) + off = (tgt : Int)) (hr : ab_r x) (kt : x ≤ 0 → V tgt L st h kc ks) (kf : ¬ x ≤ 0 → V (pc + 3) L st h kc ks) : V pc L (.inl x :: st) h kc ks := by
  obtain ⟨p, l, e, s, m, args, below, meth, c, D, cA, A0, Af, Q, ⟨hx, hb, hml, hown, hts, hK, hAf, hX, hini, hsc, hret⟩, rfl⟩ := hV
  intro A H locs ls hag hL hP hD hS hl
  exact lv_if_le hx hb hd ht (fun z => kt ((ab_le hr ab_r0).mp z) A H locs ls hag hL hP hD hS hl) (fun z => kf (fun q => z ((ab_le hr ab_r0).mpr q)) A H locs ls hag hL hP hD hS hl)
theorem rb_tabIn (hV : ab_Cl cc own nL R al n0 ini sc ret post mc ms V) {dflt lo hi : Int} {offs : Array Int} {len : Nat} {x : Int} {off : Int} {tgt : Nat} (hd : decode cc pc = .ok (.tableswitch dflt lo hi offs, len)) (hr : ab_r x) (h1 : lo ≤ x) (h2 : x ≤ hi) (ho : offs[(x - lo).toNat]? = some off) (ht : (pc : Int) + off = (tgt : Int)) (k : V tgt L st h kc ks) : V pc L (.inl x :: st) h kc ks := by
  obtain ⟨p, l, e, s, m, args, below, meth, c, D, cA, A0, Af, Q, ⟨hx, hb, hml, hown, hts, hK, hAf, hX, hini, hsc, hret⟩, rfl⟩ := hV
  intro A H locs ls hag hL hP hD hS hl
  have hz := ab_toInt hr
  exact lv_tableIn hx hb hd (by rw [hz]; omega) (by rw [hz]; omega) (by rw [hz]; exact ho) ht (k A H locs ls hag hL hP hD hS hl)
theorem rb_tabOut (hV : ab_Cl cc own nL R al n0 ini sc ret post mc ms V) {dflt lo hi : Int} {offs : Array Int} {len : Nat} {x : Int} {tgt : Nat} (hd : decode cc pc = .ok (.tableswitch dflt lo hi offs, len)) (hr : ab_r x) (h1 : x < lo ∨ hi < x) (ht : (pc : Int) + dflt = (tgt : Int)) (k : V tgt L st h kc ks) : V pc L (.inl x :: st) h kc ks := by
  obtain ⟨p, l, e, s, m, args, below, meth, c, D, cA, A0, Af, Q, ⟨hx, hb, hml, hown, hts, hK, hAf, hX, hini, hsc, hret⟩, rfl⟩ := hV
  intro A H locs ls hag hL hP hD hS hl
  have hz := ab_toInt hr
  exact lv_tableOut hx hb hd (by rw [hz]; exact h1) ht (k A H locs ls hag hL hP hD hS hl)
/-- a field's place in its class's table, by the constant pool's entry -/
def ab_F (own : String) (idx ci k : Nat) : Prop := ∃ (C : String) (T : u_T) (N : Nat), xcl[ci]? = some (C, T, N) ∧ k < N ∧ Cond.fieldLink own idx (T k).1 (T k).2.1 (T k).2.2.1 ∈ xtb
theorem rb_get (hV : ab_Cl cc own nL R al n0 ini sc ret post mc ms V) {idx ci j q : Nat} {fs : List ab_V} {v : ab_V} (hd : decode cc pc = .ok (.getfield idx, 3)) (hf : ab_F own idx ci j) (hq : h[q]? = some (.inr (ci, fs))) (hv : fs[j]? = some v) (k : V (pc + 3) L (v :: st) h kc ks) : V pc L (.inr (some q) :: st) h kc ks := by
  obtain ⟨p, l, e, s, m, args, below, meth, c, D, cA, A0, Af, Q, ⟨hx, hb, hml, hown, hts, hK, hAf, hX, hini, hsc, hret⟩, rfl⟩ := hV
  intro A H locs ls hag hL hP hD hS hl
  obtain ⟨C, T, N, h1, h2, h3⟩ := hf
  refine va_get (C := C) (T := T) (N := N) (ci := ci) hx hb hts (xcl_ok h1).1 hown hK hP q (ab_w_at hq) h1 j h2 (hts _ h3) (fun _ z => z) (v := ab_v A v) ?_ hd (k A H locs ls hag hL hP hD hS hl)
  rw [List.getElem?_map, hv]
  rfl
theorem rb_put (hV : ab_Cl cc own nL R al n0 ini sc ret post mc ms V) {idx ci j q : Nat} {fs : List ab_V} {v : ab_V} {h2 : List ab_E} {C : String} {T : u_T} {N : Nat} (hd : decode cc pc = .ok (.putfield idx, 3)) (hc : xcl[ci]? = some (C, T, N)) (hj : j < N) (hlk : Cond.fieldLink own idx (T j).1 (T j).2.1 (T j).2.2.1 ∈ xtb) (hfin : (T j).2.2.2 = false) (hq : h[q]? = some (.inr (ci, fs))) (hl2 : j < fs.length) (hty : ab_fit (parseFieldDescriptor (T j).2.2.1) v) (hh : h.set q (.inr (ci, fs.set j v)) = h2) (k : V (pc + 3) L st h2 kc ks) : V pc L (v :: .inr (some q) :: st) h kc ks := by
  obtain ⟨p, l, e, s, m, args, below, meth, c, D, cA, A0, Af, Q, ⟨hx, hb, hml, hown, hts, hK, hAf, hX, hini, hsc, hret⟩, rfl⟩ := hV
  intro A H locs ls hag hL hP hD hS hl
  subst hh
  obtain ⟨ty, t1, t2, t3⟩ := ab_fit_ok A hty
  obtain ⟨ty0, hn1, hn2⟩ := (xcl_ok hc).2
  refine va_put (C := C) (T := T) (N := N) (ci := ci) hx hb hts (xcl_ok hc).1 ty0 hn1 hn2 hown hK hP hD hS q (ab_w_at hq) hc j hj (hts _ hlk) (fun _ z => z) hfin (ty := ty) (v := ab_v A v) t1 t2 t3 (by rw [List.length_map]; exact hl2) hd (fun H1 locs1 P1 D1 S1 => ?_)
  have e1 : (ab_w A cA 0 h).set q (A q, .inr (ci, (fs.map (ab_v A)).set j (ab_v A v))) = ab_w A cA 0 (h.set q (.inr (ci, fs.set j v))) := by
    rw [← ab_w_put, ← List.map_set]
    rfl
  rw [e1] at P1 D1
  exact k A H1 locs1 ls hag hL P1 D1 S1 hl
theorem rb_putF (hV : ab_Cl cc own nL R al n0 ini sc ret post mc ms V) {idx ci j q : Nat} {fs : List ab_V} {v : ab_V} {h2 : List ab_E} {C : String} {T : u_T} {N : Nat} (hd : decode cc pc = .ok (.putfield idx, 3)) (hc : xcl[ci]? = some (C, T, N)) (hj : j < N) (hlk : Cond.fieldLink own idx (T j).1 (T j).2.1 (T j).2.2.1 ∈ xtb) (hfin : (T j).2.2.2 = true) (hi : ini = true) (hdc : (T j).1 = own) (hq : h[q]? = some (.inr (ci, fs))) (hl2 : j < fs.length) (hty : ab_fit (parseFieldDescriptor (T j).2.2.1) v) (hh : h.set q (.inr (ci, fs.set j v)) = h2) (k : V (pc + 3) L st h2 kc ks) : V pc L (v :: .inr (some q) :: st) h kc ks := by
  obtain ⟨p, l, e, s, m, args, below, meth, c, D, cA, A0, Af, Q, ⟨hx, hb, hml, hown, hts, hK, hAf, hX, hini, hsc, hret⟩, rfl⟩ := hV
  intro A H locs ls hag hL hP hD hS hl
  subst hh
  obtain ⟨ty, t1, t2, t3⟩ := ab_fit_ok A hty
  obtain ⟨ty0, hn1, hn2⟩ := (xcl_ok hc).2
  refine va_putF (C := C) (T := T) (N := N) (ci := ci) hx hb hts (xcl_ok hc).1 ty0 hn1 hn2 hown hK hP hD hS q (ab_w_at hq) hc j hj (hts _ hlk) (fun _ z => z) hfin (hini hi) hdc (ty := ty) (v := ab_v A v) t1 t2 t3 (by rw [List.length_map]; exact hl2) hd (fun H1 locs1 P1 D1 S1 => ?_)
  have e1 : (ab_w A cA 0 h).set q (A q, .inr (ci, (fs.map (ab_v A)).set j (ab_v A v))) = ab_w A cA 0 (h.set q (.inr (ci, fs.set j v))) := by
    rw [← ab_w_put, ← List.map_set]
    rfl
  rw [e1] at P1 D1
  exact k A H1 locs1 ls hag hL P1 D1 S1 hl
theorem ab_upd (f : Int → Int) (z v : Int) (hz : 0 ≤ z) : (fun j : Nat => ab_i (ab_u f z v (j : Int))) = upd (fun j : Nat => ab_i (f (j : Int))) z.toNat (ab_i v) := by
  funext j
  unfold ab_u upd
  by_cases hj : j = z.toNat
  · rw [if_pos hj, if_pos (show (j : Int) = z by omega)]
  · rw [if_neg hj, if_neg (show ¬ (j : Int) = z by omega)]
theorem rb_iald (hV : ab_Cl cc own nL R al n0 ini sc ret post mc ms V) {q n : Nat} {f : Int → Int} {z : Int} (hd : decode cc pc = .ok (.iaload, 1)) (hq : h[q]? = some (.inl (0, n, f))) (hn : n < 2147483648) (hz : 0 ≤ z ∧ z < n) (k : V (pc + 1) L (.inl (f z) :: st) h kc ks) : V pc L (.inl z :: .inr (some q) :: st) h kc ks := by
  obtain ⟨p, l, e, s, m, args, below, meth, c, D, cA, A0, Af, Q, ⟨hx, hb, hml, hown, hts, hK, hAf, hX, hini, hsc, hret⟩, rfl⟩ := hV
  intro A H locs ls hag hL hP hD hS hl
  have k1 := k A H locs ls hag hL hP hD hS hl
  have hr : ab_r z := ⟨by omega, by omega⟩
  refine va_iald hx hb hK hP q 0 (ab_w_at hq) rfl (ab_vin hn hz.1 hz.2) hd ?_
  rw [ab_clamp hr, show ((z.toNat : Nat) : Int) = z by omega]
  exact k1
theorem rb_cald (hV : ab_Cl cc own nL R al n0 ini sc ret post mc ms V) {q n : Nat} {f : Int → Int} {z : Int} (hd : decode cc pc = .ok (.caload, 1)) (hq : h[q]? = some (.inl (1, n, f))) (hn : n < 2147483648) (hz : 0 ≤ z ∧ z < n) (k : V (pc + 1) L (.inl (f z) :: st) h kc ks) : V pc L (.inl z :: .inr (some q) :: st) h kc ks := by
  obtain ⟨p, l, e, s, m, args, below, meth, c, D, cA, A0, Af, Q, ⟨hx, hb, hml, hown, hts, hK, hAf, hX, hini, hsc, hret⟩, rfl⟩ := hV
  intro A H locs ls hag hL hP hD hS hl
  have k1 := k A H locs ls hag hL hP hD hS hl
  have hr : ab_r z := ⟨by omega, by omega⟩
  refine va_cald hx hb hK hP q 1 (ab_w_at hq) rfl (ab_vin hn hz.1 hz.2) hd ?_
  rw [ab_clamp hr, show ((z.toNat : Nat) : Int) = z by omega]
  exact k1
theorem rb_zald (hV : ab_Cl cc own nL R al n0 ini sc ret post mc ms V) {q n : Nat} {f : Int → Int} {z : Int} (hd : decode cc pc = .ok (.baload, 1)) (hq : h[q]? = some (.inl (2, n, f))) (hn : n < 2147483648) (hz : 0 ≤ z ∧ z < n) (k : V (pc + 1) L (.inl (f z) :: st) h kc ks) : V pc L (.inl z :: .inr (some q) :: st) h kc ks := by
  obtain ⟨p, l, e, s, m, args, below, meth, c, D, cA, A0, Af, Q, ⟨hx, hb, hml, hown, hts, hK, hAf, hX, hini, hsc, hret⟩, rfl⟩ := hV
  intro A H locs ls hag hL hP hD hS hl
  have k1 := k A H locs ls hag hL hP hD hS hl
  have hr : ab_r z := ⟨by omega, by omega⟩
  refine va_zald hx hb hK hP q 2 (ab_w_at hq) rfl (ab_vin hn hz.1 hz.2) hd ?_
  rw [ab_clamp hr, show ((z.toNat : Nat) : Int) = z by omega]
  exact k1
theorem rb_iast (hV : ab_Cl cc own nL R al n0 ini sc ret post mc ms V) {q n : Nat} {f f2 : Int → Int} {z v : Int} {h2 : List ab_E} (hd : decode cc pc = .ok (.iastore, 1)) (hq : h[q]? = some (.inl (0, n, f))) (hn : n < 2147483648) (hz : 0 ≤ z ∧ z < n) (hf : ab_u f z v = f2) (hh : h.set q (.inl (0, n, f2)) = h2) (k : V (pc + 1) L st h2 kc ks) : V pc L (.inl v :: .inl z :: .inr (some q) :: st) h kc ks := by
  obtain ⟨p, l, e, s, m, args, below, meth, c, D, cA, A0, Af, Q, ⟨hx, hb, hml, hown, hts, hK, hAf, hX, hini, hsc, hret⟩, rfl⟩ := hV
  intro A H locs ls hag hL hP hD hS hl
  subst hh
  subst hf
  have hr : ab_r z := ⟨by omega, by omega⟩
  refine va_iast hx hb hK hP hD hS q 0 (ab_w_at hq) rfl (ab_vin hn hz.1 hz.2) hd (fun H1 locs1 P1 D1 S1 => ?_)
  rw [ab_clamp hr, ← ab_upd f z v hz.1] at P1 D1
  have e1 : (ab_w A cA 0 h).set q (A q, .inl (cA 0, n, .inl (fun j : Nat => ab_i (ab_u f z v (j : Int))))) = ab_w A cA 0 (h.set q (.inl (0, n, ab_u f z v))) := by
    rw [← ab_w_put]
    rfl
  have P2 := e1 ▸ P1
  have D2 := e1 ▸ D1
  exact k A H1 locs1 ls hag hL P2 D2 S1 hl
theorem rb_cast (hV : ab_Cl cc own nL R al n0 ini sc ret post mc ms V) {q n : Nat} {f f2 : Int → Int} {z v : Int} {h2 : List ab_E} (hd : decode cc pc = .ok (.castore, 1)) (hq : h[q]? = some (.inl (1, n, f))) (hn : n < 2147483648) (hz : 0 ≤ z ∧ z < n) (hc : 0 ≤ v ∧ v < 65536) (hf : ab_u f z v = f2) (hh : h.set q (.inl (1, n, f2)) = h2) (k : V (pc + 1) L st h2 kc ks) : V pc L (.inl v :: .inl z :: .inr (some q) :: st) h kc ks := by
  obtain ⟨p, l, e, s, m, args, below, meth, c, D, cA, A0, Af, Q, ⟨hx, hb, hml, hown, hts, hK, hAf, hX, hini, hsc, hret⟩, rfl⟩ := hV
  intro A H locs ls hag hL hP hD hS hl
  subst hh
  subst hf
  have hr : ab_r z := ⟨by omega, by omega⟩
  refine va_cast hx hb hK hP hD hS q 1 (ab_w_at hq) rfl (ab_vin hn hz.1 hz.2) hd (fun H1 locs1 P1 D1 S1 => ?_)
  rw [ab_nar_char hc] at P1 D1
  rw [ab_clamp hr, ← ab_upd f z v hz.1] at P1 D1
  have e1 : (ab_w A cA 0 h).set q (A q, .inl (cA 1, n, .inl (fun j : Nat => ab_i (ab_u f z v (j : Int))))) = ab_w A cA 0 (h.set q (.inl (1, n, ab_u f z v))) := by
    rw [← ab_w_put]
    rfl
  have P2 := e1 ▸ P1
  have D2 := e1 ▸ D1
  exact k A H1 locs1 ls hag hL P2 D2 S1 hl
theorem rb_zast (hV : ab_Cl cc own nL R al n0 ini sc ret post mc ms V) {q n : Nat} {f f2 : Int → Int} {z v : Int} {h2 : List ab_E} (hd : decode cc pc = .ok (.bastore, 1)) (hq : h[q]? = some (.inl (2, n, f))) (hn : n < 2147483648) (hz : 0 ≤ z ∧ z < n) (hc : v = 0 ∨ v = 1) (hf : ab_u f z v = f2) (hh : h.set q (.inl (2, n, f2)) = h2) (k : V (pc + 1) L st h2 kc ks) : V pc L (.inl v :: .inl z :: .inr (some q) :: st) h kc ks := by
  obtain ⟨p, l, e, s, m, args, below, meth, c, D, cA, A0, Af, Q, ⟨hx, hb, hml, hown, hts, hK, hAf, hX, hini, hsc, hret⟩, rfl⟩ := hV
  intro A H locs ls hag hL hP hD hS hl
  subst hh
  subst hf
  have hr : ab_r z := ⟨by omega, by omega⟩
  refine va_zast hx hb hK hP hD hS q 2 (ab_w_at hq) rfl (ab_vin hn hz.1 hz.2) hd (fun H1 locs1 P1 D1 S1 => ?_)
  rw [ab_nar_boolean hc] at P1 D1
  rw [ab_clamp hr, ← ab_upd f z v hz.1] at P1 D1
  have e1 : (ab_w A cA 0 h).set q (A q, .inl (cA 2, n, .inl (fun j : Nat => ab_i (ab_u f z v (j : Int))))) = ab_w A cA 0 (h.set q (.inl (2, n, ab_u f z v))) := by
    rw [← ab_w_put]
    rfl
  have P2 := e1 ▸ P1
  have D2 := e1 ▸ D1
  exact k A H1 locs1 ls hag hL P2 D2 S1 hl
theorem rb_alen (hV : ab_Cl cc own nL R al n0 ini sc ret post mc ms V) {q t n : Nat} {f : Int → Int} (hd : decode cc pc = .ok (.arraylength, 1)) (hq : h[q]? = some (.inl (t, n, f))) (ht : t < 3) (k : V (pc + 1) L (.inl (n : Int) :: st) h kc ks) : V pc L (.inr (some q) :: st) h kc ks := by
  obtain ⟨p, l, e, s, m, args, below, meth, c, D, cA, A0, Af, Q, ⟨hx, hb, hml, hown, hts, hK, hAf, hX, hini, hsc, hret⟩, rfl⟩ := hV
  intro A H locs ls hag hL hP hD hS hl
  have k1 := k A H locs ls hag hL hP hD hS hl
  obtain ⟨ty, hty⟩ : ∃ ty, (ab_ty cA)[t]? = some (cA t, ty) := by
    match t, ht with
    | 0, _ => exact ⟨_, rfl⟩
    | 1, _ => exact ⟨_, rfl⟩
    | 2, _ => exact ⟨_, rfl⟩
  exact va_alen hx hb hK hP q t (ab_w_at hq) hty (v := ab_i (n : Int)) rfl hd k1
theorem rb_sld (hV : ab_Cl cc own nL R al n0 ini sc ret post mc ms V) {n : Nat} {f : Int → Int} {z : Int} (hd : decode cc pc = .ok (.iaload, 1)) (hs : sc = some (n, f)) (hn : n < 2147483648) (hz : 0 ≤ z ∧ z < n) (k : V (pc + 1) L (.inl (f z) :: st) h kc ks) : V pc L (.inl z :: .inr (some 3000) :: st) h kc ks := by
  obtain ⟨p, l, e, s, m, args, below, meth, c, D, cA, A0, Af, Q, ⟨hx, hb, hml, hown, hts, hK, hAf, hX, hini, hsc, hret⟩, rfl⟩ := hV
  intro A H locs ls hag hL hP hD hS hl
  have k1 := k A H locs ls hag hL hP hD hS hl
  have hr : ab_r z := ⟨by omega, by omega⟩
  obtain ⟨s1, s2, s3⟩ := hsc n f hs A hag
  refine va_sld hx hb s1 s2 s3 hS (ab_vin hn hz.1 hz.2) hd ?_
  rw [ab_clamp hr, show ((z.toNat : Nat) : Int) = z by omega]
  exact k1
theorem rb_slen (hV : ab_Cl cc own nL R al n0 ini sc ret post mc ms V) {n : Nat} {f : Int → Int} (hd : decode cc pc = .ok (.arraylength, 1)) (hs : sc = some (n, f)) (k : V (pc + 1) L (.inl (n : Int) :: st) h kc ks) : V pc L (.inr (some 3000) :: st) h kc ks := by
  obtain ⟨p, l, e, s, m, args, below, meth, c, D, cA, A0, Af, Q, ⟨hx, hb, hml, hown, hts, hK, hAf, hX, hini, hsc, hret⟩, rfl⟩ := hV
  intro A H locs ls hag hL hP hD hS hl
  obtain ⟨s1, s2, s3⟩ := hsc n f hs A hag
  exact va_slen hx hb s1 s2 s3 hS hd (k A H locs ls hag hL hP hD hS hl)
theorem rb_i2c (hV : ab_Cl cc own nL R al n0 ini sc ret post mc ms V) {x : Int} (hd : decode cc pc = .ok (.i2c, 1)) (k : V (pc + 1) L (.inl (x % 65536) :: st) h kc ks) : V pc L (.inl x :: st) h kc ks := by
  obtain ⟨p, l, e, s, m, args, below, meth, c, D, cA, A0, Af, Q, ⟨hx, hb, hml, hown, hts, hK, hAf, hX, hini, hsc, hret⟩, rfl⟩ := hV
  intro A H locs ls hag hL hP hD hS hl
  exact lv_i2c (v := ab_i (x % 65536)) hx hb hd (ab_c16 x) (k A H locs ls hag hL hP hD hS hl)
theorem rb_i2b (hV : ab_Cl cc own nL R al n0 ini sc ret post mc ms V) {x : Int} (hd : decode cc pc = .ok (.i2b, 1)) (hr : -128 ≤ x ∧ x < 128) (k : V (pc + 1) L (.inl x :: st) h kc ks) : V pc L (.inl x :: st) h kc ks := by
  obtain ⟨p, l, e, s, m, args, below, meth, c, D, cA, A0, Af, Q, ⟨hx, hb, hml, hown, hts, hK, hAf, hX, hini, hsc, hret⟩, rfl⟩ := hV
  intro A H locs ls hag hL hP hD hS hl
  exact lv_i2b (v := ab_i x) hx hb hd (ab_b8 hr) (k A H locs ls hag hL hP hD hS hl)
theorem rb_iand (hV : ab_Cl cc own nL R al n0 ini sc ret post mc ms V) {x y z : Int} (hd : decode cc pc = .ok (.iand, 1)) (hz : ab_i x &&& ab_i y = ab_i z) (k : V (pc + 1) L (.inl z :: st) h kc ks) : V pc L (.inl y :: .inl x :: st) h kc ks := by
  obtain ⟨p, l, e, s, m, args, below, meth, c, D, cA, A0, Af, Q, ⟨hx, hb, hml, hown, hts, hK, hAf, hX, hini, hsc, hret⟩, rfl⟩ := hV
  intro A H locs ls hag hL hP hD hS hl
  have k1 := k A H locs ls hag hL hP hD hS hl
  refine lv_iand hx hb hd ?_
  rw [hz]
  exact k1
theorem rb_ishr0 (hV : ab_Cl cc own nL R al n0 ini sc ret post mc ms V) {x : Int} (hd : decode cc pc = .ok (.ishr, 1)) (k : V (pc + 1) L (.inl x :: st) h kc ks) : V pc L (.inl 0 :: .inl x :: st) h kc ks := by
  obtain ⟨p, l, e, s, m, args, below, meth, c, D, cA, A0, Af, Q, ⟨hx, hb, hml, hown, hts, hK, hAf, hX, hini, hsc, hret⟩, rfl⟩ := hV
  intro A H locs ls hag hL hP hD hS hl
  have k1 := k A H locs ls hag hL hP hD hS hl
  refine lv_ishr hx hb hd ?_
  rw [show ab_i x >>> (ab_i 0 &&& 31) = ab_i x from sb_shr0 (ab_i x)]
  exact k1
theorem rb_mmax (hV : ab_Cl cc own nL R al n0 ini sc ret post mc ms V) {idx : Nat} {x y : Int} (hd : decode cc pc = .ok (.invokestatic idx, 3)) (hlk : Cond.methodLink own idx Lib.Math.max.name ∈ xtb) (hr : ab_r x ∧ ab_r y) (hf : 1 ≤ R.frames) (hlo : st.length + 13 ≤ R.locals) (hcs : kc ≤ R.cells ∧ ks ≤ R.slots) (k : V (pc + 3) L (.inl (max x y) :: st) h kc ks) : V pc L (.inl y :: .inl x :: st) h kc ks := by
  obtain ⟨p, l, e, s, m, args, below, meth, c, D, cA, A0, Af, Q, ⟨hx, hb, hml, hown, hts, hK, hAf, hX, hini, hsc, hret⟩, rfl⟩ := hV
  intro A H locs ls hag hL hP hD hS hl
  have k1 := k A H locs ls hag hL hP hD hS hl
  refine va_mmax hx hb (by rw [hml]; exact hl.1.symm) hown (hts _ hlk) (hts _ xw_mmax.1) (hts _ xw_mmax.2.1) (hts _ xw_mmax.2.2) hf (by rw [ab_sum]; exact hlo) hcs.1 hcs.2 hd ?_
  have e1 : (if ab_i x < ab_i y then ab_i y else ab_i x) = ab_i (max x y) := ab_mmax hr.1 hr.2
  rw [e1]
  exact k1
theorem rb_mmin (hV : ab_Cl cc own nL R al n0 ini sc ret post mc ms V) {idx : Nat} {x y : Int} (hd : decode cc pc = .ok (.invokestatic idx, 3)) (hlk : Cond.methodLink own idx Lib.Math.min.name ∈ xtb) (hr : ab_r x ∧ ab_r y) (hf : 1 ≤ R.frames) (hlo : st.length + 13 ≤ R.locals) (hcs : kc ≤ R.cells ∧ ks ≤ R.slots) (k : V (pc + 3) L (.inl (min x y) :: st) h kc ks) : V pc L (.inl y :: .inl x :: st) h kc ks := by
  obtain ⟨p, l, e, s, m, args, below, meth, c, D, cA, A0, Af, Q, ⟨hx, hb, hml, hown, hts, hK, hAf, hX, hini, hsc, hret⟩, rfl⟩ := hV
  intro A H locs ls hag hL hP hD hS hl
  have k1 := k A H locs ls hag hL hP hD hS hl
  refine va_mmin hx hb (by rw [hml]; exact hl.1.symm) hown (hts _ hlk) (hts _ xw_mmin.1) (hts _ xw_mmin.2.1) (hts _ xw_mmin.2.2) hf (by rw [ab_sum]; exact hlo) hcs.1 hcs.2 hd ?_
  have e1 : (if ab_i y < ab_i x then ab_i y else ab_i x) = ab_i (min x y) := ab_mmin hr.1 hr.2
  rw [e1]
  exact k1
theorem rb_mabs (hV : ab_Cl cc own nL R al n0 ini sc ret post mc ms V) {idx : Nat} {x : Int} (hd : decode cc pc = .ok (.invokestatic idx, 3)) (hlk : Cond.methodLink own idx Lib.Math.abs.name ∈ xtb) (hr : ab_r x) (hf : 1 ≤ R.frames) (hlo : st.length + 13 ≤ R.locals) (hcs : kc ≤ R.cells ∧ ks ≤ R.slots) (k : V (pc + 3) L (.inl (if 0 ≤ x then x else -x) :: st) h kc ks) : V pc L (.inl x :: st) h kc ks := by
  obtain ⟨p, l, e, s, m, args, below, meth, c, D, cA, A0, Af, Q, ⟨hx, hb, hml, hown, hts, hK, hAf, hX, hini, hsc, hret⟩, rfl⟩ := hV
  intro A H locs ls hag hL hP hD hS hl
  have k1 := k A H locs ls hag hL hP hD hS hl
  refine va_mabs hx hb (by rw [hml]; exact hl.1.symm) hown (hts _ hlk) (hts _ xw_mabs.1) (hts _ xw_mabs.2.1) (hts _ xw_mabs.2.2) hf (by rw [ab_sum]; exact hlo) hcs.1 hcs.2 hd ?_
  have e1 : (if 0 ≤ ab_i x then ab_i x else 0 - ab_i x) = ab_i (if 0 ≤ x then x else -x) := ab_mabs hr
  rw [e1]
  exact k1
theorem rb_ldcS (hV : ab_Cl cc own nL R al n0 ini sc ret post mc ms V) {idx i : Nat} {tx : String} (hd : decode cc pc = .ok (.ldc idx, 2)) (hi : xsK[i]? = some (own, idx, tx)) (k : V (pc + 2) L (.inr (some (1000 + i)) :: st) h kc ks) : V pc L st h kc ks := by
  obtain ⟨p, l, e, s, m, args, below, meth, c, D, cA, A0, Af, Q, ⟨hx, hb, hml, hown, hts, hK, hAf, hX, hini, hsc, hret⟩, rfl⟩ := hV
  intro A H locs ls hag hL hP hD hS hl
  exact va_ldcS hx hb hown ((hX A hag).2.2.2.1 i _ hi) hd (k A H locs ls hag hL hP hD hS hl)
theorem rb_getSv (hV : ab_Cl cc own nL R al n0 ini sc ret post mc ms V) {idx i : Nat} (hd : decode cc pc = .ok (.getfield idx, 3)) (hi : i < 16) (hlk : Cond.fieldLink own idx "java/lang/String" "value" "[B" ∈ xtb) (k : V (pc + 3) L (.inr (some (2000 + i)) :: st) h kc ks) : V pc L (.inr (some (1000 + i)) :: st) h kc ks := by
  obtain ⟨p, l, e, s, m, args, below, meth, c, D, cA, A0, Af, Q, ⟨hx, hb, hml, hown, hts, hK, hAf, hX, hini, hsc, hret⟩, rfl⟩ := hV
  intro A H locs ls hag hL hP hD hS hl
  exact vk_getf hx hb ((hX A hag).1.1 i hi).2.2.1 hS hown (hts _ hlk) (fun _ z => z) hd (k A H locs ls hag hL hP hD hS hl)
theorem rb_getSc (hV : ab_Cl cc own nL R al n0 ini sc ret post mc ms V) {idx i : Nat} (hd : decode cc pc = .ok (.getfield idx, 3)) (hi : i < 16) (hlk : Cond.fieldLink own idx "java/lang/String" "coder" "B" ∈ xtb) (k : V (pc + 3) L (.inl 0 :: st) h kc ks) : V pc L (.inr (some (1000 + i)) :: st) h kc ks := by
  obtain ⟨p, l, e, s, m, args, below, meth, c, D, cA, A0, Af, Q, ⟨hx, hb, hml, hown, hts, hK, hAf, hX, hini, hsc, hret⟩, rfl⟩ := hV
  intro A H locs ls hag hL hP hD hS hl
  exact vk_getf hx hb ((hX A hag).1.1 i hi).2.1 hS hown (hts _ hlk) (fun _ z => z) hd (k A H locs ls hag hL hP hD hS hl)
theorem rb_getCS (hV : ab_Cl cc own nL R al n0 ini sc ret post mc ms V) {idx : Nat} (hd : decode cc pc = .ok (.getstatic idx, 3)) (hlk : Cond.fieldLink own idx "java/lang/String" "COMPACT_STRINGS" "Z" ∈ xtb) (k : V (pc + 3) L (.inl 1 :: st) h kc ks) : V pc L st h kc ks := by
  obtain ⟨p, l, e, s, m, args, below, meth, c, D, cA, A0, Af, Q, ⟨hx, hb, hml, hown, hts, hK, hAf, hX, hini, hsc, hret⟩, rfl⟩ := hV
  intro A H locs ls hag hL hP hD hS hl
  exact va_gets hx hb (hX A hag).2.1 hS hown (hts _ hlk) (fun _ z => z) hd (k A H locs ls hag hL hP hD hS hl)
theorem rb_getSF (hV : ab_Cl cc own nL R al n0 ini sc ret post mc ms V) {idx : Nat} (hd : decode cc pc = .ok (.getstatic idx, 3)) (hlk : Cond.fieldLink own idx "jdk/internal/util/Preconditions" "SIOOBE_FORMATTER" "Ljava/util/function/BiFunction;" ∈ xtb) (k : ∀ v : ab_V, V (pc + 3) L (v :: st) h kc ks) : V pc L st h kc ks := by
  obtain ⟨p, l, e, s, m, args, below, meth, c, D, cA, A0, Af, Q, ⟨hx, hb, hml, hown, hts, hK, hAf, hX, hini, hsc, hret⟩, rfl⟩ := hV
  intro A H locs ls hag hL hP hD hS hl
  rcases (hX A hag).2.2.1 with z | z
  · exact va_gets hx hb z hS hown (hts _ hlk) (fun _ z => z) hd (k (.inr none) A H locs ls hag hL hP hD hS hl)
  · exact va_gets hx hb z hS hown (hts _ hlk) (fun _ z => z) hd (k (.inr (some 3001)) A H locs ls hag hL hP hD hS hl)
theorem rb_lenS (hV : ab_Cl cc own nL R al n0 ini sc ret post mc ms V) {i : Nat} (hd : decode cc pc = .ok (.arraylength, 1)) (hi : i < 16) (k : V (pc + 1) L (.inl ((xsL.getD i 0 : Nat) : Int) :: st) h kc ks) : V pc L (.inr (some (2000 + i)) :: st) h kc ks := by
  obtain ⟨p, l, e, s, m, args, below, meth, c, D, cA, A0, Af, Q, ⟨hx, hb, hml, hown, hts, hK, hAf, hX, hini, hsc, hret⟩, rfl⟩ := hV
  intro A H locs ls hag hL hP hD hS hl
  exact va_tlen hx hb ((hX A hag).1.1 i hi).2.2.2 hS (v := ab_i ((xsL.getD i 0 : Nat) : Int)) rfl hd (k A H locs ls hag hL hP hD hS hl)
theorem rb_baldS (hV : ab_Cl cc own nL R al n0 ini sc ret post mc ms V) {i : Nat} {z : Int} (hd : decode cc pc = .ok (.baload, 1)) (hi : i < 16) (hz : 0 ≤ z ∧ z < (xsL.getD i 0 : Nat)) (k : V (pc + 1) L (.inl ((xsB.getD i []).getD z.toNat 0).toInt :: st) h kc ks) : V pc L (.inl z :: .inr (some (2000 + i)) :: st) h kc ks := by
  obtain ⟨p, l, e, s, m, args, below, meth, c, D, cA, A0, Af, Q, ⟨hx, hb, hml, hown, hts, hK, hAf, hX, hini, hsc, hret⟩, rfl⟩ := hV
  intro A H locs ls hag hL hP hD hS hl
  have k1 := k A H locs ls hag hL hP hD hS hl
  have hlt : xsL.getD i 0 < 2147483648 := xs_small i hi
  have hr : ab_r z := ⟨by omega, by omega⟩
  refine va_tb hx hb ((hX A hag).1.1 i hi).2.2.2 hS (ab_vin hlt hz.1 hz.2) (v := .int (ab_i ((xsB.getD i []).getD z.toNat 0).toInt)) ?_ hd k1
  rw [ab_clamp hr, ab_of]
theorem ab_Ag_new {A0 : Nat → Nat} {A : Nat → Nat} {n q : Nat} (hn : n0 ≤ n) (hn2 : n < 1000) (h : ab_Ag true A0 n0 A) : ab_Ag true A0 n0 (fun k => if k = n then q else A k) := by
  unfold ab_Ag at h ⊢
  rw [if_pos rfl] at h ⊢
  intro k hk
  dsimp only
  rw [if_neg (by omega)]
  exact h k hk
theorem rb_new (hV : ab_Cl cc own nL R al n0 ini sc ret post mc ms V) {idx ci : Nat} {C : String} {T : u_T} {N : Nat} {ty : Nat → FieldType} {fs : List ab_V} {h2 : List ab_E} {n kc2 ks2 : Nat} (hd : decode cc pc = .ok (.new idx, 3)) (hal : al = true) (hc : xcl[ci]? = some (C, T, N)) (hty : ∀ k, k < N → parseFieldDescriptor (T k).2.2.1 = some (ty k)) (hlk : Cond.classLink own idx C ∈ xtb ∧ Cond.instantiable C N ∈ xtb ∧ Cond.initialized C ∈ xtb) (hfs : ∀ j, j < N → defaultValue (ty j) = vp_V (fs.map (ab_v (fun _ => 0))) j) (hf0 : fs.all (ab_ok 0) = true ∧ fs.all (fun v => match v with | .inr (some _) => false | _ => true) = true) (hn : h.length = n) (hn0 : n0 ≤ n ∧ n < 1000) (hok : h.all (ab_eok n) = true ∧ ab_lok n L = true ∧ st.all (ab_ok n) = true) (hh : h ++ [.inr (ci, fs)] = h2) (hkc : kc + 1 = kc2 ∧ kc2 ≤ R.cells) (hks : ks + N = ks2 ∧ ks2 ≤ R.slots) (k : V (pc + 3) L (.inr (some n) :: st) h2 kc2 ks2) : V pc L st h kc ks := by
  obtain ⟨p, l, e, s, m, args, below, meth, c, D, cA, A0, Af, Q, ⟨hx, hb, hml, hown, hts, hK, hAf, hX, hini, hsc, hret⟩, rfl⟩ := hV
  intro A H locs ls hag hL hP hD hS hl
  subst hh
  subst hal
  obtain ⟨hc1, hc2⟩ := hkc
  obtain ⟨hs1, hs2⟩ := hks
  subst hc1
  subst hs1
  have hfsA : ∀ B : Nat → Nat, fs.map (ab_v B) = fs.map (ab_v (fun _ => 0)) := fun B => List.map_congr_left fun v hm => by
    have := List.all_eq_true.mp hf0.2 v hm
    rcases v with z | (_ | z)
    · rfl
    · rfl
    · cases this
  refine va_new (C := C) (T := T) (N := N) (ci := ci) (fs := fs.map (ab_v (fun _ => 0))) hx hb hts (xcl_ok hc).1 ty hty hown (hts _ hlk.1) (hts _ hlk.2.1) (hts _ hlk.2.2) hK hP hD hS hAf hc hfs hc2 hs2 hd (fun q H1 P1 D1 S1 => ?_)
  have hA' : ∀ k, k < n ∨ 1000 ≤ k → (fun k => if k = n then q else A k) k = A k := fun k hk => by
    dsimp only
    rw [if_neg (by omega)]
  have e1 : ab_w (fun k => if k = n then q else A k) cA 0 (h ++ [.inr (ci, fs)]) = ab_w A cA 0 h ++ [(q, .inr (ci, fs.map (ab_v (fun _ => 0))))] := by
    rw [ab_w_app, ab_w_ext hA' h 0 hok.1 (by omega), Nat.zero_add, hn, if_pos rfl]
    show _ ++ [(q, ab_e _ cA (.inr (ci, fs)))] = _
    rw [show ab_e (fun k => if k = n then q else A k) cA (.inr (ci, fs)) = .inr (ci, fs.map (ab_v (fun k => if k = n then q else A k))) from rfl, hfsA]
  have e2 := ab_vs_ext hA' hok.2.2
  have k1 := k (fun k => if k = n then q else A k) H1 locs ls (ab_Ag_new hn0.1 hn0.2 hag) hL (by rw [e1]; exact P1) (by rw [e1]; exact D1) S1 (by rw [ab_l_ext hA' L 0 hok.2.1]; exact hl)
  rw [List.map_cons, e2, show ab_v (fun k => if k = n then q else A k) (.inr (some n)) = .ref q from congrArg Value.ref (if_pos rfl)] at k1
  exact k1
theorem rb_newI (hV : ab_Cl cc own nL R al n0 ini sc ret post mc ms V) {z : Int} {N : Nat} {h2 : List ab_E} {n kc2 ks2 : Nat} (hd : decode cc pc = .ok (.newarray .int, 2)) (hal : al = true) (hz : z = (N : Int)) (hN : N ≤ 1000) (hn : h.length = n) (hn0 : n0 ≤ n ∧ n < 1000) (hok : h.all (ab_eok n) = true ∧ ab_lok n L = true ∧ st.all (ab_ok n) = true) (hh : h ++ [.inl (0, N, fun _ => 0)] = h2) (hkc : kc + 1 = kc2 ∧ kc2 ≤ R.cells) (hks : ks + N = ks2 ∧ ks2 ≤ R.slots) (k : V (pc + 2) L (.inr (some n) :: st) h2 kc2 ks2) : V pc L (.inl z :: st) h kc ks := by
  obtain ⟨p, l, e, s, m, args, below, meth, c, D, cA, A0, Af, Q, ⟨hx, hb, hml, hown, hts, hK, hAf, hX, hini, hsc, hret⟩, rfl⟩ := hV
  intro A H locs ls hag hL hP hD hS hl
  subst hh
  subst hal
  subst hz
  obtain ⟨hc1, hc2⟩ := hkc
  obtain ⟨hs1, hs2⟩ := hks
  subst hc1
  subst hs1
  have hr : ab_r (N : Int) := ⟨by omega, by omega⟩
  refine va_newa (atype := .int) (ty := .int) (N' := N) (a0 := (N, .inl (fun _ => ab_i 0))) hx hb (hts _ xw_arr.2.1) rfl hK hP hD hS hAf (fun cA => by rw [vp_cell_i]; rfl) (fun z => ?_) (by rw [ab_clamp hr]; omega) (by show N * 4 ≤ _; omega) hc2 hs2 hd (fun q cA' H1 K1 P1 D1 S1 => ?_)
  · have := (ab_lt hr ab_r0).mp (by rw [ab_0]; exact z)
    omega
  have hcA : cA' = cA 0 := by
    have a1 := (K1.2 3 (cA', .int) rfl).2
    have a2 := (hK.2 0 (cA 0, .int) rfl).2
    exact Option.some.inj (a1.symm.trans a2)
  subst hcA
  have hA' : ∀ k, k < n ∨ 1000 ≤ k → (fun k => if k = n then q else A k) k = A k := fun k hk => by
    dsimp only
    rw [if_neg (by omega)]
  have e1 : ab_w (fun k => if k = n then q else A k) cA 0 (h ++ [.inl (0, N, fun _ => 0)]) = ab_w A cA 0 h ++ [(q, .inl (cA 0, N, .inl (fun _ => ab_i 0)))] := by
    rw [ab_w_app, ab_w_ext hA' h 0 hok.1 (by omega), Nat.zero_add, hn, if_pos rfl]
    rfl
  have e2 := ab_vs_ext hA' hok.2.2
  have k1 := k (fun k => if k = n then q else A k) H1 locs ls (ab_Ag_new hn0.1 hn0.2 hag) hL (by rw [e1]; exact P1) (by rw [e1]; exact D1) S1 (by rw [ab_l_ext hA' L 0 hok.2.1]; exact hl)
  rw [List.map_cons, e2, show ab_v (fun k => if k = n then q else A k) (.inr (some n)) = .ref q from congrArg Value.ref (if_pos rfl)] at k1
  exact k1
theorem rb_newC (hV : ab_Cl cc own nL R al n0 ini sc ret post mc ms V) {z : Int} {N : Nat} {h2 : List ab_E} {n kc2 ks2 : Nat} (hd : decode cc pc = .ok (.newarray .char, 2)) (hal : al = true) (hz : z = (N : Int)) (hN : N ≤ 1000) (hn : h.length = n) (hn0 : n0 ≤ n ∧ n < 1000) (hok : h.all (ab_eok n) = true ∧ ab_lok n L = true ∧ st.all (ab_ok n) = true) (hh : h ++ [.inl (1, N, fun _ => 0)] = h2) (hkc : kc + 1 = kc2 ∧ kc2 ≤ R.cells) (hks : ks + N = ks2 ∧ ks2 ≤ R.slots) (k : V (pc + 2) L (.inr (some n) :: st) h2 kc2 ks2) : V pc L (.inl z :: st) h kc ks := by
  obtain ⟨p, l, e, s, m, args, below, meth, c, D, cA, A0, Af, Q, ⟨hx, hb, hml, hown, hts, hK, hAf, hX, hini, hsc, hret⟩, rfl⟩ := hV
  intro A H locs ls hag hL hP hD hS hl
  subst hh
  subst hal
  subst hz
  obtain ⟨hc1, hc2⟩ := hkc
  obtain ⟨hs1, hs2⟩ := hks
  subst hc1
  subst hs1
  have hr : ab_r (N : Int) := ⟨by omega, by omega⟩
  refine va_newa (atype := .char) (ty := .char) (N' := N) (a0 := (N, .inl (fun _ => ab_i 0))) hx hb (hts _ xw_arr.2.2.1) rfl hK hP hD hS hAf (fun cA => by rw [vp_cell_i]; rfl) (fun z => ?_) (by rw [ab_clamp hr]; omega) (by show N * 2 ≤ _; omega) hc2 hs2 hd (fun q cA' H1 K1 P1 D1 S1 => ?_)
  · have := (ab_lt hr ab_r0).mp (by rw [ab_0]; exact z)
    omega
  have hcA : cA' = cA 1 := by
    have a1 := (K1.2 3 (cA', .char) rfl).2
    have a2 := (hK.2 1 (cA 1, .char) rfl).2
    exact Option.some.inj (a1.symm.trans a2)
  subst hcA
  have hA' : ∀ k, k < n ∨ 1000 ≤ k → (fun k => if k = n then q else A k) k = A k := fun k hk => by
    dsimp only
    rw [if_neg (by omega)]
  have e1 : ab_w (fun k => if k = n then q else A k) cA 0 (h ++ [.inl (1, N, fun _ => 0)]) = ab_w A cA 0 h ++ [(q, .inl (cA 1, N, .inl (fun _ => ab_i 0)))] := by
    rw [ab_w_app, ab_w_ext hA' h 0 hok.1 (by omega), Nat.zero_add, hn, if_pos rfl]
    rfl
  have e2 := ab_vs_ext hA' hok.2.2
  have k1 := k (fun k => if k = n then q else A k) H1 locs ls (ab_Ag_new hn0.1 hn0.2 hag) hL (by rw [e1]; exact P1) (by rw [e1]; exact D1) S1 (by rw [ab_l_ext hA' L 0 hok.2.1]; exact hl)
  rw [List.map_cons, e2, show ab_v (fun k => if k = n then q else A k) (.inr (some n)) = .ref q from congrArg Value.ref (if_pos rfl)] at k1
  exact k1
theorem rb_newZ (hV : ab_Cl cc own nL R al n0 ini sc ret post mc ms V) {z : Int} {N : Nat} {h2 : List ab_E} {n kc2 ks2 : Nat} (hd : decode cc pc = .ok (.newarray .boolean, 2)) (hal : al = true) (hz : z = (N : Int)) (hN : N ≤ 1000) (hn : h.length = n) (hn0 : n0 ≤ n ∧ n < 1000) (hok : h.all (ab_eok n) = true ∧ ab_lok n L = true ∧ st.all (ab_ok n) = true) (hh : h ++ [.inl (2, N, fun _ => 0)] = h2) (hkc : kc + 1 = kc2 ∧ kc2 ≤ R.cells) (hks : ks + N = ks2 ∧ ks2 ≤ R.slots) (k : V (pc + 2) L (.inr (some n) :: st) h2 kc2 ks2) : V pc L (.inl z :: st) h kc ks := by
  obtain ⟨p, l, e, s, m, args, below, meth, c, D, cA, A0, Af, Q, ⟨hx, hb, hml, hown, hts, hK, hAf, hX, hini, hsc, hret⟩, rfl⟩ := hV
  intro A H locs ls hag hL hP hD hS hl
  subst hh
  subst hal
  subst hz
  obtain ⟨hc1, hc2⟩ := hkc
  obtain ⟨hs1, hs2⟩ := hks
  subst hc1
  subst hs1
  have hr : ab_r (N : Int) := ⟨by omega, by omega⟩
  refine va_newa (atype := .boolean) (ty := .boolean) (N' := N) (a0 := (N, .inl (fun _ => ab_i 0))) hx hb (hts _ xw_arr.2.2.2) rfl hK hP hD hS hAf (fun cA => by rw [vp_cell_i]; rfl) (fun z => ?_) (by rw [ab_clamp hr]; omega) (by show N * 1 ≤ _; omega) hc2 hs2 hd (fun q cA' H1 K1 P1 D1 S1 => ?_)
  · have := (ab_lt hr ab_r0).mp (by rw [ab_0]; exact z)
    omega
  have hcA : cA' = cA 2 := by
    have a1 := (K1.2 3 (cA', .boolean) rfl).2
    have a2 := (hK.2 2 (cA 2, .boolean) rfl).2
    exact Option.some.inj (a1.symm.trans a2)
  subst hcA
  have hA' : ∀ k, k < n ∨ 1000 ≤ k → (fun k => if k = n then q else A k) k = A k := fun k hk => by
    dsimp only
    rw [if_neg (by omega)]
  have e1 : ab_w (fun k => if k = n then q else A k) cA 0 (h ++ [.inl (2, N, fun _ => 0)]) = ab_w A cA 0 h ++ [(q, .inl (cA 2, N, .inl (fun _ => ab_i 0)))] := by
    rw [ab_w_app, ab_w_ext hA' h 0 hok.1 (by omega), Nat.zero_add, hn, if_pos rfl]
    rfl
  have e2 := ab_vs_ext hA' hok.2.2
  have k1 := k (fun k => if k = n then q else A k) H1 locs ls (ab_Ag_new hn0.1 hn0.2 hag) hL (by rw [e1]; exact P1) (by rw [e1]; exact D1) S1 (by rw [ab_l_ext hA' L 0 hok.2.1]; exact hl)
  rw [List.map_cons, e2, show ab_v (fun k => if k = n then q else A k) (.inr (some n)) = .ref q from congrArg Value.ref (if_pos rfl)] at k1
  exact k1
theorem rb_objInit (hV : ab_Cl cc own nL R al n0 ini sc ret post mc ms V) {idx q : Nat} (hd : decode cc pc = .ok (.invokespecial idx, 3)) (hlk : Cond.methodLink own idx Lib.objectInit ∈ xtb) (hf : 1 ≤ R.frames) (hlo : st.length + 12 ≤ R.locals) (k : V (pc + 3) L st h kc ks) : V pc L (.inr (some q) :: st) h kc ks := by
  obtain ⟨p, l, e, s, m, args, below, meth, c, D, cA, A0, Af, Q, ⟨hx, hb, hml, hown, hts, hK, hAf, hX, hini, hsc, hret⟩, rfl⟩ := hV
  intro A H locs ls hag hL hP hD hS hl
  refine W.objInit hx hb hown (hts _ hlk) (hts _ xw_obj.1) (hts _ xw_obj.2) rfl (by rw [hml]; exact hl.1) rfl hd hf (by show 2 * 0 + _ + 12 ≤ _; rw [ab_sum]; omega) ?_
  exact W.eq (g2 := F0 m (pc + 3) ls (st.map (ab_v A))) rfl (k A H locs ls hag hL hP hD hS hl)
theorem rb_ret (hV : ab_Cl cc own nL R al n0 ini sc ret post mc ms V) {r : Option ab_V} (hd : decode cc pc = .ok (ab_ri r, 1)) (hst : st = r.toList) (hk : kc ≤ mc ∧ ks ≤ ms) (hrt : ab_rt ret r) (hp : post r h) : V pc L st h kc ks := by
  obtain ⟨p, l, e, s, m, args, below, meth, c, D, cA, A0, Af, Q, ⟨hx, hb, hml, hown, hts, hK, hAf, hX, hini, hsc, hret⟩, rfl⟩ := hV
  intro A H locs ls hag hL hP hD hS hl
  subst hst
  exact W.widen hk.1 hk.2 (hret A H locs ls pc r h hag hP hD hS hp hrt hd)
theorem rb_weak (hV : ab_Cl cc own nL R al n0 ini sc ret post mc ms V) {L2 : ab_L} (hw : ab_less L2 L) (k : V pc L2 st h kc ks) : V pc L st h kc ks := by
  obtain ⟨p, l, e, s, m, args, below, meth, c, D, cA, A0, Af, Q, ⟨hx, hb, hml, hown, hts, hK, hAf, hX, hini, hsc, hret⟩, rfl⟩ := hV
  intro A H locs ls hag hL hP hD hS hl
  obtain ⟨w1, w2⟩ := ab_less_at L2 L hw
  exact k A H locs ls hag (by rw [w1]; exact hL) hP hD hS (ab_lsub hl w2)
theorem rb_widen (hV : ab_Cl cc own nL R al n0 ini sc ret post mc ms V) {kc2 ks2 : Nat} (hw : kc ≤ kc2 ∧ ks ≤ ks2) (k : V pc L st h kc2 ks2) : V pc L st h kc ks := by
  obtain ⟨p, l, e, s, m, args, below, meth, c, D, cA, A0, Af, Q, ⟨hx, hb, hml, hown, hts, hK, hAf, hX, hini, hsc, hret⟩, rfl⟩ := hV
  intro A H locs ls hag hL hP hD hS hl
  exact W.widen hw.1 hw.2 (k A H locs ls hag hL hP hD hS hl)
end ABR
section ABM
/-- a contract out of a walk in the engine -/
theorem ab_mk {y : MethodName} {cc : ByteArray} {nL : Nat} {ret : Option FieldType} {rm : Room} {al : Bool} {mc ms : Nat} {as : List ab_V} {h : List ab_E} {post : Option ab_V → List ab_E → Prop} (own : String) (ini : Bool)
    (hown : y.cls = own) (hy : plainName y.cls = true) (hin : ini = true → y.name = "<init>") (hlen : as.length ≤ nL)
    (body : ∀ V : ab_J, ab_Cl cc own nL rm al h.length ini none ret post mc ms V → V 0 (as.map some ++ List.replicate (nL - as.length) none) [] h 0 0) : ab_Mt y cc nL ret rm al mc ms as h post := by
  intro l D cA A0 sz
  refine Met.ofW (cc := cc) (maxL := nL) (ret := ret) hy rfl ?_
  intro p e s m args below meth c s₁ B hml hv
  obtain ⟨rfl, hsz, hP, hK, hD0, hX⟩ := hv
  have hx := B.exec
  have hb := B.bytes
  have hr := B.returns
  have hts0 := atoms_spec (ws := .code y cc nL ret :: xtb) B.pre
  have hts : ∀ w ∈ xtb, w.before (as.map (ab_v A0)).toArray s = true := fun w hw => hts0 w (List.mem_cons_of_mem _ hw)
  have hown' : s.vm.findClass own = some m.cls := by rw [← hown]; exact findClass_of_methodNamed B.named
  have hlocks := B.notSynchronized
  subst hsz
  have hD := hD0.self (sz := s.heap.size)
  have hS : va_S (va_A (ab_w A0 cA 0 h) s.heap.size) s.heap s.heap [] := va_S.rf
  have hAg0 : ab_Ag al A0 h.length A0 := by
    unfold ab_Ag
    split
    · exact fun _ _ => rfl
    · rfl
  have hXA : ∀ A, ab_Ag al A0 h.length A → ab_X A (va_A (ab_w A0 cA 0 h) s.heap.size) s s.heap := by
    intro A hA
    have hA' : ∀ k, 1000 ≤ k → A k = A0 k := by
      unfold ab_Ag at hA
      split at hA
      · exact fun k hk => hA k (Or.inr hk)
      · exact fun k _ => by rw [hA]
    have e1 : (fun i => A (1000 + i)) = fun i => A0 (1000 + i) := funext fun i => hA' _ (by omega)
    have e2 : (fun i => A (2000 + i)) = fun i => A0 (2000 + i) := funext fun i => hA' _ (by omega)
    have e3 : A 3001 = A0 3001 := hA' _ (by omega)
    unfold ab_X at hX ⊢
    rw [e1, e2, e3]
    exact ⟨hX.1, hX.2.1, hX.2.2.1, fun i q hq => by rw [hA' (1000 + i) (by omega)]; exact hX.2.2.2.1 i q hq, hX.2.2.2.2⟩
  have C : ab_Cl cc own nL rm al h.length ini none ret post mc ms (ab_W p l e rm s m (as.map (ab_v A0)).toArray below meth c D cA nL (ab_Ag al A0 h.length) (va_A (ab_w A0 cA 0 h) s.heap.size) (MQ below (ab_Qc post D cA (ab_Ag al A0 h.length) (va_A (ab_w A0 cA 0 h) s.heap.size)) (as.map (ab_v A0)).toArray s mc ms (va_A (ab_w A0 cA 0 h) s.heap.size))) := by
    refine ⟨p, l, e, s, m, _, below, meth, c, D, cA, A0, _, _, ⟨hx, hb, hml, hown', hts, hK, fun q hq => Or.inr hq, hXA, fun hi => ?_, fun L f hsc => (by cases hsc), ?_⟩, rfl⟩
    · rw [(name_of_methodNamed B.named B.method).1]
      exact hin hi
    · intro A H locs ls pc r u hag hP' hD' hS' hpost hrt hd
      have hq : ∀ t : State, t.heap = H → s.WarmedH t.vm → ab_Qc post D cA (ab_Ag al A0 h.length) (va_A (ab_w A0 cA 0 h) s.heap.size) (as.map (ab_v A0)).toArray s (.returned (r.map (ab_v A))) t := fun t ht hW =>
        ⟨⟨r, u, A, rfl, hpost, hag, by rw [ht]; exact hP', va_K.moved hW.alike hK, hD'⟩, hS'.F ht⟩
      rcases r with _ | (z | k)
      · cases ret with
        | none => exact W.vret hx hb hr hq hS'.2.2 hd
        | some ty => cases ty <;> exact hrt.elim
      · cases ret with
        | none => exact hrt.elim
        | some ty =>
          cases ty with
          | int => exact W.iret (v := ab_i z) hx hb hr hq hS'.2.2 hd
          | boolean => exact W.zret (v := ab_i z) hx hb hr (ab_nrz hrt) hq hS'.2.2 hd
          | char => exact W.zret (v := ab_i z) hx hb hr (ab_nrc hrt) hq hS'.2.2 hd
          | byte => exact W.zret (v := ab_i z) hx hb hr (ab_nrb hrt) hq hS'.2.2 hd
          | _ => exact hrt.elim
      · cases ret with
        | none => exact hrt.elim
        | some ty => cases ty <;> exact hrt.elim
  have k1 := body _ C
  have hl := lv_entry (as.map (ab_v A0)) (n := nL) ?_
  · rw [lg_entry_eq]
    refine k1 A0 s.heap [] _ hAg0 ?_ hP hD hS ?_
    · rw [List.length_append, List.length_map, List.length_replicate]; omega
    · refine ab_lmono hl fun q hq => ?_
      obtain ⟨i, v, h1, h2⟩ := (ab_l_mem A0 _ 0 q).mp hq
      rw [Nat.zero_add] at h2
      have hi : as[i]? = some v := by
        by_cases hi : i < (as.map some).length
        · rw [List.getElem?_append_left hi, List.getElem?_map] at h1
          cases hz : as[i]? with
          | none => rw [hz] at h1; cases h1
          | some w => rw [hz] at h1; cases h1; rfl
        · rw [List.getElem?_append_right (by omega)] at h1
          have := List.getElem?_replicate (n := nL - as.length) (a := (none : Option ab_V)) (i := i - (as.map some).length)
          rw [this] at h1
          split at h1 <;> cases h1
      rw [h2]
      have := ab_args A0 as 0 i v hi
      rwa [Nat.zero_add] at this
  · rw [ab_sl_len]
    exact hlen
end ABM
section ABC
theorem ab_good_in {ws : List Cond} (h : ∀ w ∈ ws, w ∈ xtb) : GoodIn xtb ws := fun w hw => ⟨h w hw, good_of_word (ab_good w (h w hw))⟩
theorem ab_blind {D : va_G} {cA : Nat → ClassId} {A : Nat → Nat} {sz : Nat} {as : List ab_V} {h : List ab_E} : FrameBlind (ab_Pc D cA A sz as h) := fun a U g mk q => by
  obtain ⟨e, q1, q2, q3, q4, q5⟩ := q
  exact ⟨e, q1, q2, va_K.moved (u := U) (U := U.calling g mk a) (Vm.Alike.refl U.vm) q3, q4, ab_X.same (u := U) (U := U.calling g mk a) rfl (Vm.Alike.refl U.vm) q5⟩
theorem ab_callg {p : Program} {l : Launch} {e : Env} {R : Room} {s : State} {m : MethodId} {args : Array Value} {below : List Frame} {meth : Method} {c : Code} {H : Heap} {locs : List Loc} {cells slots : Nat} {Q : State → Prop} {pc : Nat} {ls : Array Slot} {rest st0 : List Value} {a : Array Value} {A0 A1 : Nat → Prop} {H0 : Heap} {mc ms : Nat} {free : Addr → Prop}
    {post : Option ab_V → List ab_E → Prop} {D : va_G} {cA : Nat → ClassId} {Ag : (Nat → Nat) → Prop}
    (hr : va_Run p l e R s m args below meth c H locs cells slots mc ms (F0 m pc ls st0) rest (ab_Qc post D cA Ag A1 a) free) (hS : va_S A0 H0 H locs) (hA : ∀ q, A1 q → A0 q) (hf : ∀ q, free q → A0 q)
    (kk : ∀ (r : Option ab_V) (u : List ab_E) (A' : Nat → Nat) (H1 : Heap) (locs1 : List Loc), post r u → Ag A' → va_P D xcl (ab_w A' cA 0 u) H1 → va_D A0 (ab_w A' cA 0 u) → va_S A0 H0 H1 locs1 → W p l e R s m args below meth c H1 locs1 (cells + mc) (slots + ms) Q (F0 m (pc + 3) ls ((r.map (ab_v A')).toList ++ rest))) : W p l e R s m args below meth c H locs cells slots Q (F0 m pc ls st0) := by
  intro T hT X
  obtain ⟨v, st₀, t, T', L, h0, X', hL, e1, e2, ⟨⟨r, u, A', hv, hp, hag, hP, hK, hD⟩, hz, hk⟩, st⟩ := hr T hT X
  cases hv
  rw [h0] at hz hk
  obtain ⟨t2, a1, b1⟩ := kk r u A' T'.heap (locs ++ L) hp hag (by rw [e1]; exact hP) (hD.weaken (fun _ _ _ z => hA _ z))
    ⟨Nat.le_trans hS.1 (by rw [e1]; exact hz), fun q h1 h2 => by rw [e1, hk q (Nat.lt_of_lt_of_le h1 hS.1) (fun z => h2 (hA q z))]; exact hS.2.1 q h1 h2, fun q hq => by
      rcases List.mem_append.mp hq with h | h
      · exact hS.2.2 q h
      · exact hf _ (hL q h)⟩ T' rfl X'
  exact ⟨t2, st t2 a1, b1⟩
theorem ab_pushed (A : Nat → Nat) (r : Option ab_V) (rest : List ab_V) : (r.map (ab_v A)).toList ++ rest.map (ab_v A) = (r.toList ++ rest).map (ab_v A) := by
  cases r <;> rfl
def ab_LV (own : String) (idx : Nat) (y : MethodName) (cc : ByteArray) (nL : Nat) (ret : Option FieldType) (n : Nat) : Prop :=
  (Cond.methodLink own idx y ∈ xtb ∧ Cond.instanceMethod y ∈ xtb ∧ Cond.selects y.cls y y ∈ xtb ∧ Cond.initialized y.cls ∈ xtb ∧ Cond.code y cc nL ret ∈ xtb) ∧ y.cls ≠ "java/lang/invoke/MethodHandle" ∧ y.cls ≠ "java/lang/invoke/VarHandle" ∧ (parseMethodDescriptor y.desc).map (fun d => d.parameters.length) = some n
def ab_LS (own : String) (idx : Nat) (y : MethodName) (cc : ByteArray) (nL : Nat) (ret : Option FieldType) (n : Nat) : Prop :=
  ((Cond.methodLink own idx y ∈ xtb ∨ ∃ host, (own, idx, y, host) ∈ xsN) ∧ Cond.static y ∈ xtb ∧ Cond.initialized y.cls ∈ xtb ∧ Cond.code y cc nL ret ∈ xtb) ∧ y.cls ≠ "java/lang/invoke/MethodHandle" ∧ y.cls ≠ "java/lang/invoke/VarHandle" ∧ (parseMethodDescriptor y.desc).map (fun d => d.parameters.length) = some n
def ab_LI (own : String) (idx : Nat) (y : MethodName) (cc : ByteArray) (nL : Nat) (n : Nat) : Prop :=
  (Cond.methodLink own idx y ∈ xtb ∧ Cond.instanceMethod y ∈ xtb ∧ Cond.initialized y.cls ∈ xtb ∧ Cond.code y cc nL none ∈ xtb) ∧ y.name = "<init>" ∧ y.cls ≠ "java/lang/invoke/MethodHandle" ∧ y.cls ≠ "java/lang/invoke/VarHandle" ∧ (parseMethodDescriptor y.desc).map (fun d => d.parameters.length) = some n
def ab_Rc (h : List ab_E) (q : Nat) (C : String) : Prop := (∃ (ci : Nat) (fs : List ab_V) (T : u_T) (N : Nat), h[q]? = some (.inr (ci, fs)) ∧ xcl[ci]? = some (C, T, N)) ∨ (C = "java/lang/String" ∧ ∃ i, i < 16 ∧ q = 1000 + i)
def ab_Rm (rm R : Room) (nL mc ms kc ks : Nat) : Prop := rm.cells = mc ∧ rm.slots = ms ∧ rm.frames + 1 ≤ R.frames ∧ 8 + (nL + 11) + rm.locals ≤ R.locals ∧ kc + mc ≤ R.cells ∧ ks + ms ≤ R.slots
variable {cc : ByteArray} {own : String} {nL : Nat} {R : Room} {al : Bool} {n0 : Nat} {ini : Bool} {sc : Option (Nat × (Int → Int))} {ret : Option FieldType} {post : Option ab_V → List ab_E → Prop} {mc ms : Nat} {V : ab_J} {pc : Nat} {L : ab_L} {st rest : List ab_V} {h : List ab_E} {kc ks : Nat}
variable {y : MethodName} {cc2 : ByteArray} {nL2 : Nat} {ret2 : Option FieldType} {rm2 : Room} {as : List ab_V} {post2 : Option ab_V → List ab_E → Prop} {idx q n : Nat}
theorem rb_callV (hV : ab_Cl cc own nL R al n0 ini sc ret post mc ms V) (hd : decode cc pc = .ok (.invokevirtual idx, 3)) (hM : ab_Mt y cc2 nL2 ret2 rm2 false 0 0 (.inr (some q) :: as) h post2) (hlk : ab_LV own idx y cc2 nL2 ret2 n) (hn : as.length = n) (hrc : ab_Rc h q y.cls) (hst : st = as.reverse ++ .inr (some q) :: rest) (hrm : ab_Rm rm2 R nL2 0 0 kc ks) (hre : rest.length ≤ 8) (k : ∀ (r : Option ab_V) (h2 : List ab_E), post2 r h2 → V (pc + 3) L (r.toList ++ rest) h2 kc ks) : V pc L st h kc ks := by
  obtain ⟨p, l, e, s, m, args, below, meth, c, D, cA, A0, Af, Q, ⟨hx, hb, hml, hown, hts, hK, hAf, hX, hini, hsc, hret⟩, rfl⟩ := hV
  intro A H locs ls hag hL hP hD hS hl
  subst hst
  have hfree : ∀ z, va_A (ab_w A cA 0 h) H.size z → Af z := fun z hz => by
    rcases hz with ⟨k, e, he⟩ | hz
    · exact hD.2 k _ he
    · exact hAf _ (Nat.le_trans hS.1 hz)
  have hpre : ∀ U : State, U.heap = H → s.WarmedH U.vm → ab_Pc D cA A H.size (.inr (some q) :: as) h ((.inr (some q) :: as).map (ab_v A)).toArray U := fun U hU hW =>
    ⟨rfl, by rw [hU], by rw [hU]; exact hP, va_K.moved hW.alike hK, hD.weaken (fun _ _ _ _ => trivial), by rw [hU]; exact ((hX A hag).warm hW hS.2.1).narrow hfree⟩
  obtain ⟨⟨g1, g2, g3, g4, g5⟩, g6, g7, g8⟩ := hlk
  obtain ⟨r1, r2, r3, r4, r5, r6⟩ := hrm
  have hG : GoodIn xtb (wsV own idx y.cls y (.code y cc2 nL2 ret2 :: xtb)) := ab_good_in fun w hw => by
    simp only [wsV, List.mem_append, List.mem_cons, List.not_mem_nil, or_false] at hw
    rcases hw with (rfl | rfl | rfl | rfl) | rfl | hw
    · exact g1
    · exact g2
    · exact g3
    · exact g4
    · exact g5
    · exact hw
  have hrv : ∃ cellB : Cell, H[A q]? = some cellB ∧ cellB.vm.isStatics = false ∧ s.vm.findClass y.cls = some cellB.cls := by
    rcases hrc with ⟨ci, fs, T, N, c1, c2⟩ | ⟨c1, i, c2, c3⟩
    · exact va_recv hK hP c2 (ab_w_at c1)
    · rw [c1, c3]
      exact vk_recv (adK := fun i => A (1000 + i)) (i := i) (hX A hag).1 c2 hS
  have hrun := va_runV (locs := locs) (meth := meth) (below := below) (e := e) (As := as.map (ab_v A)) (rest := rest.map (ab_v A)) (g := F0 m pc ls ((as.reverse ++ .inr (some q) :: rest).map (ab_v A))) ⟨hx, hb, hml, hown, hts⟩ (hM l D cA A H.size) (cwV n hts hG rfl r1 r2 ⟨rfl, g6, g7, g8⟩ ⟨r3, r4⟩) ⟨ab_blind, hrv, hpre⟩ rfl (by rw [List.length_map]; exact hn) hl.1 (by rw [List.map_append, List.map_reverse]; rfl) (by show 2 * 0 + _ ≤ 8; rw [ab_sum]; omega) hd ⟨r5, r6⟩
  refine ab_callg hrun hS hfree hfree (fun r u A' H1 locs1 hp hag' P1 D1 S1 => ?_)
  have hA' : A' = A := hag'
  subst hA'
  rw [ab_pushed]
  exact k r u hp A' H1 locs1 ls hag hL P1 D1 S1 hl
theorem rb_callS (hV : ab_Cl cc own nL R al n0 ini sc ret post mc ms V) (hd : decode cc pc = .ok (.invokestatic idx, 3)) (hM : ab_Mt y cc2 nL2 ret2 rm2 false 0 0 as h post2) (hlk : ab_LS own idx y cc2 nL2 ret2 n) (hn : as.length = n) (hst : st = as.reverse ++ rest) (hrm : ab_Rm rm2 R nL2 0 0 kc ks) (hre : rest.length ≤ 8) (k : ∀ (r : Option ab_V) (h2 : List ab_E), post2 r h2 → V (pc + 3) L (r.toList ++ rest) h2 kc ks) : V pc L st h kc ks := by
  obtain ⟨p, l, e, s, m, args, below, meth, c, D, cA, A0, Af, Q, ⟨hx, hb, hml, hown, hts, hK, hAf, hX, hini, hsc, hret⟩, rfl⟩ := hV
  intro A H locs ls hag hL hP hD hS hl
  subst hst
  have hfree : ∀ z, va_A (ab_w A cA 0 h) H.size z → Af z := fun z hz => by
    rcases hz with ⟨k, e, he⟩ | hz
    · exact hD.2 k _ he
    · exact hAf _ (Nat.le_trans hS.1 hz)
  have hpre : ∀ U : State, U.heap = H → s.WarmedH U.vm → ab_Pc D cA A H.size as h (as.map (ab_v A)).toArray U := fun U hU hW =>
    ⟨rfl, by rw [hU], by rw [hU]; exact hP, va_K.moved hW.alike hK, hD.weaken (fun _ _ _ _ => trivial), by rw [hU]; exact ((hX A hag).warm hW hS.2.1).narrow hfree⟩
  obtain ⟨⟨g1, g2, g4, g5⟩, g6, g7, g8⟩ := hlk
  obtain ⟨r1, r2, r3, r4, r5, r6⟩ := hrm
  have hstk : (as.reverse ++ rest).map (ab_v A) = (as.map (ab_v A)).reverse ++ rest.map (ab_v A) := by rw [List.map_append, List.map_reverse]
  have hW8 : 2 * (F0 m pc ls ((as.reverse ++ rest).map (ab_v A))).monitorRoom + ((rest.map (ab_v A)).map fun v => v.category).sum ≤ 8 := by show 2 * 0 + _ ≤ 8; rw [ab_sum]; omega
  rcases g1 with g1 | ⟨host, g1⟩
  · have hG : GoodIn xtb (va_wsS own idx y (.code y cc2 nL2 ret2 :: xtb)) := ab_good_in fun w hw => by
      simp only [va_wsS, List.mem_append, List.mem_cons, List.not_mem_nil, or_false] at hw
      rcases hw with (rfl | rfl | rfl) | rfl | hw
      · exact g1
      · exact g2
      · exact g4
      · exact g5
      · exact hw
    have hrun := va_runS (locs := locs) (meth := meth) (below := below) (e := e) (As := as.map (ab_v A)) (rest := rest.map (ab_v A)) (g := F0 m pc ls ((as.reverse ++ rest).map (ab_v A))) ⟨hx, hb, hml, hown, hts⟩ (hM l D cA A H.size) (va_cwS n hts hG rfl r1 r2 ⟨g6, g7, g8⟩ ⟨r3, r4⟩) ⟨ab_blind, hpre⟩ rfl (by rw [List.length_map]; exact hn) hl.1 hstk hW8 hd ⟨r5, r6⟩
    refine ab_callg hrun hS hfree hfree (fun r u A' H1 locs1 hp hag' P1 D1 S1 => ?_)
    have hA' : A' = A := hag'
    subst hA'
    rw [ab_pushed]
    exact k r u hp A' H1 locs1 ls hag hL P1 D1 S1 hl
  · have hG : GoodIn xtb (.code y cc2 nL2 ret2 :: xtb) := ab_good_in fun w hw => by
      rcases List.mem_cons.mp hw with rfl | hw
      · exact g5
      · exact hw
    have hrun := va_runSN (locs := locs) (meth := meth) (below := below) (e := e) (As := as.map (ab_v A)) (rest := rest.map (ab_v A)) (g := F0 m pc ls ((as.reverse ++ rest).map (ab_v A))) ⟨hx, hb, hml, hown, hts⟩ (hM l D cA A H.size) ⟨va_cnB n hts hG rfl r1 r2 ((hX A hag).2.2.2.2 _ g1) (hts _ g4) ⟨g6, g7, g8⟩ ⟨r3, r4⟩, hts _ g2, trivial⟩ ⟨ab_blind, hpre⟩ rfl (by rw [List.length_map]; exact hn) hl.1 hstk hW8 hd ⟨r5, r6⟩
    refine ab_callg hrun hS hfree hfree (fun r u A' H1 locs1 hp hag' P1 D1 S1 => ?_)
    have hA' : A' = A := hag'
    subst hA'
    rw [ab_pushed]
    exact k r u hp A' H1 locs1 ls hag hL P1 D1 S1 hl
theorem rb_callI (hV : ab_Cl cc own nL R al n0 ini sc ret post mc ms V) {mc2 ms2 kc2 ks2 : Nat} (hd : decode cc pc = .ok (.invokespecial idx, 3)) (hal : al = true) (hM : ab_Mt y cc2 nL2 none rm2 true mc2 ms2 (.inr (some q) :: as) h post2) (hlk : ab_LI own idx y cc2 nL2 n) (hn : as.length = n) (hst : st = as.reverse ++ .inr (some q) :: rest) (hrm : ab_Rm rm2 R nL2 mc2 ms2 kc ks) (hkc : kc + mc2 = kc2 ∧ ks + ms2 = ks2) (hre : rest.length ≤ 8) (hok : n0 ≤ h.length ∧ ab_lok h.length L = true ∧ rest.all (ab_ok h.length) = true) (k : ∀ (r : Option ab_V) (h2 : List ab_E), post2 r h2 → V (pc + 3) L (r.toList ++ rest) h2 kc2 ks2) : V pc L st h kc ks := by
  obtain ⟨p, l, e, s, m, args, below, meth, c, D, cA, A0, Af, Q, ⟨hx, hb, hml, hown, hts, hK, hAf, hX, hini, hsc, hret⟩, rfl⟩ := hV
  intro A H locs ls hag hL hP hD hS hl
  subst hst
  subst hal
  obtain ⟨hk1, hk2⟩ := hkc
  subst hk1
  subst hk2
  have hfree : ∀ z, va_A (ab_w A cA 0 h) H.size z → Af z := fun z hz => by
    rcases hz with ⟨k, e, he⟩ | hz
    · exact hD.2 k _ he
    · exact hAf _ (Nat.le_trans hS.1 hz)
  have hpre : ∀ U : State, U.heap = H → s.WarmedH U.vm → ab_Pc D cA A H.size (.inr (some q) :: as) h ((.inr (some q) :: as).map (ab_v A)).toArray U := fun U hU hW =>
    ⟨rfl, by rw [hU], by rw [hU]; exact hP, va_K.moved hW.alike hK, hD.weaken (fun _ _ _ _ => trivial), by rw [hU]; exact ((hX A hag).warm hW hS.2.1).narrow hfree⟩
  obtain ⟨⟨g1, g2, g4, g5⟩, g0, g6, g7, g8⟩ := hlk
  obtain ⟨r1, r2, r3, r4, r5, r6⟩ := hrm
  have hG : GoodIn xtb (.code y cc2 nL2 none :: xtb) := ab_good_in fun w hw => by
    rcases List.mem_cons.mp hw with rfl | hw
    · exact g5
    · exact hw
  have hrun := va_runI (locs := locs) (meth := meth) (below := below) (e := e) (As := as.map (ab_v A)) (rest := rest.map (ab_v A)) (g := F0 m pc ls ((as.reverse ++ .inr (some q) :: rest).map (ab_v A))) ⟨hx, hb, hml, hown, hts⟩ (hM l D cA A H.size) (cwI n hts hG rfl r1 r2 (hts _ g4) (hts _ g1) (hts _ g2) g0 ⟨g6, g7, g8⟩ ⟨r3, r4⟩) ⟨ab_blind, hpre⟩ rfl (by rw [List.length_map]; exact hn) hl.1 (by rw [List.map_append, List.map_reverse]; rfl) (by show 2 * 0 + _ ≤ 8; rw [ab_sum]; omega) hd ⟨r5, r6⟩
  refine ab_callg hrun hS hfree hfree (fun r u A' H1 locs1 hp hag' P1 D1 S1 => ?_)
  have hA' : ∀ k, k < h.length ∨ 1000 ≤ k → A' k = A k := hag'
  have hag2 : ab_Ag true A0 n0 A' := by
    unfold ab_Ag at hag ⊢
    rw [if_pos rfl] at hag ⊢
    intro k hk
    rw [hA' k (by omega)]
    exact hag k hk
  rw [← ab_vs_ext hA' hok.2.2, ab_pushed]
  exact k r u hp A' H1 locs1 ls hag2 hL P1 D1 S1 (by rw [ab_l_ext hA' L 0 hok.2.1]; exact hl)
end ABC
end
section
theorem dX0_init_0 : decode cX0_init 0 = .ok (.aload_n 0, 1) := by decide +kernel
theorem dX0_init_1 : decode cX0_init 1 = .ok (.invokespecial 3, 3) := by decide +kernel
theorem dX0_init_4 : decode cX0_init 4 = .ok (.aload_n 0, 1) := by decide +kernel
theorem dX0_init_5 : decode cX0_init 5 = .ok (.aload_n 1, 1) := by decide +kernel
theorem dX0_init_6 : decode cX0_init 6 = .ok (.putfield 9, 3) := by decide +kernel
theorem dX0_init_9 : decode cX0_init 9 = .ok (.aload_n 0, 1) := by decide +kernel
theorem dX0_init_10 : decode cX0_init 10 = .ok (.aload_n 2, 1) := by decide +kernel
theorem dX0_init_11 : decode cX0_init 11 = .ok (.putfield 15, 3) := by decide +kernel
theorem dX0_init_14 : decode cX0_init 14 = .ok (.aload_n 0, 1) := by decide +kernel
theorem dX0_init_15 : decode cX0_init 15 = .ok (.bipush 61, 2) := by decide +kernel
theorem dX0_init_17 : decode cX0_init 17 = .ok (.newarray .int, 2) := by decide +kernel
theorem dX0_init_19 : decode cX0_init 19 = .ok (.putfield 19, 3) := by decide +kernel
theorem dX0_init_22 : decode cX0_init 22 = .ok (.aload_n 0, 1) := by decide +kernel
theorem dX0_init_23 : decode cX0_init 23 = .ok (.bipush 60, 2) := by decide +kernel
theorem dX0_init_25 : decode cX0_init 25 = .ok (.newarray .int, 2) := by decide +kernel
theorem dX0_init_27 : decode cX0_init 27 = .ok (.putfield 23, 3) := by decide +kernel
theorem dX0_init_30 : decode cX0_init 30 = .ok (.return_, 1) := by decide +kernel
theorem dX0_exists_0 : decode cX0_exists 0 = .ok (.aload_n 0, 1) := by decide +kernel
theorem dX0_exists_1 : decode cX0_exists 1 = .ok (.getfield 9, 3) := by decide +kernel
theorem dX0_exists_4 : decode cX0_exists 4 = .ok (.getfield 26, 3) := by decide +kernel
theorem dX0_exists_7 : decode cX0_exists 7 = .ok (.ifCond .le 17, 3) := by decide +kernel
theorem dX0_exists_10 : decode cX0_exists 10 = .ok (.aload_n 0, 1) := by decide +kernel
theorem dX0_exists_11 : decode cX0_exists 11 = .ok (.getfield 19, 3) := by decide +kernel
theorem dX0_exists_14 : decode cX0_exists 14 = .ok (.iconst 0, 1) := by decide +kernel
theorem dX0_exists_15 : decode cX0_exists 15 = .ok (.iaload, 1) := by decide +kernel
theorem dX0_exists_16 : decode cX0_exists 16 = .ok (.iconst (-1), 1) := by decide +kernel
theorem dX0_exists_17 : decode cX0_exists 17 = .ok (.if_icmp .eq 7, 3) := by decide +kernel
theorem dX0_exists_20 : decode cX0_exists 20 = .ok (.iconst 1, 1) := by decide +kernel
theorem dX0_exists_21 : decode cX0_exists 21 = .ok (.goto 4, 3) := by decide +kernel
theorem dX0_exists_24 : decode cX0_exists 24 = .ok (.iconst 0, 1) := by decide +kernel
theorem dX0_exists_25 : decode cX0_exists 25 = .ok (.ireturn, 1) := by decide +kernel
theorem dX0_find_0 : decode cX0_find 0 = .ok (.aload_n 0, 1) := by decide +kernel
theorem dX0_find_1 : decode cX0_find 1 = .ok (.getfield 19, 3) := by decide +kernel
theorem dX0_find_4 : decode cX0_find 4 = .ok (.aload_n 0, 1) := by decide +kernel
theorem dX0_find_5 : decode cX0_find 5 = .ok (.getfield 9, 3) := by decide +kernel
theorem dX0_find_8 : decode cX0_find 8 = .ok (.getfield 26, 3) := by decide +kernel
theorem dX0_find_11 : decode cX0_find 11 = .ok (.iconst 0, 1) := by decide +kernel
theorem dX0_find_12 : decode cX0_find 12 = .ok (.iastore, 1) := by decide +kernel
theorem dX0_find_13 : decode cX0_find 13 = .ok (.aload_n 0, 1) := by decide +kernel
theorem dX0_find_14 : decode cX0_find 14 = .ok (.getfield 9, 3) := by decide +kernel
theorem dX0_find_17 : decode cX0_find 17 = .ok (.getfield 26, 3) := by decide +kernel
theorem dX0_find_20 : decode cX0_find 20 = .ok (.iconst 1, 1) := by decide +kernel
theorem dX0_find_21 : decode cX0_find 21 = .ok (.isub, 1) := by decide +kernel
theorem dX0_find_22 : decode cX0_find 22 = .ok (.istore_n 1, 1) := by decide +kernel
theorem dX0_find_23 : decode cX0_find 23 = .ok (.iload_n 1, 1) := by decide +kernel
theorem dX0_find_24 : decode cX0_find 24 = .ok (.ifCond .lt 88, 3) := by decide +kernel
theorem dX0_find_27 : decode cX0_find 27 = .ok (.aload_n 0, 1) := by decide +kernel
theorem dX0_find_28 : decode cX0_find 28 = .ok (.getfield 19, 3) := by decide +kernel
theorem dX0_find_31 : decode cX0_find 31 = .ok (.iload_n 1, 1) := by decide +kernel
theorem dX0_find_32 : decode cX0_find 32 = .ok (.iconst (-1), 1) := by decide +kernel
theorem dX0_find_33 : decode cX0_find 33 = .ok (.iastore, 1) := by decide +kernel
theorem dX0_find_34 : decode cX0_find 34 = .ok (.aload_n 0, 1) := by decide +kernel
theorem dX0_find_35 : decode cX0_find 35 = .ok (.getfield 23, 3) := by decide +kernel
theorem dX0_find_38 : decode cX0_find 38 = .ok (.iload_n 1, 1) := by decide +kernel
theorem dX0_find_39 : decode cX0_find 39 = .ok (.iconst (-1), 1) := by decide +kernel
theorem dX0_find_40 : decode cX0_find 40 = .ok (.iastore, 1) := by decide +kernel
theorem dX0_find_41 : decode cX0_find 41 = .ok (.iload_n 1, 1) := by decide +kernel
theorem dX0_find_42 : decode cX0_find 42 = .ok (.istore_n 2, 1) := by decide +kernel
theorem dX0_find_43 : decode cX0_find 43 = .ok (.iload_n 2, 1) := by decide +kernel
theorem dX0_find_44 : decode cX0_find 44 = .ok (.aload_n 0, 1) := by decide +kernel
theorem dX0_find_45 : decode cX0_find 45 = .ok (.getfield 9, 3) := by decide +kernel
theorem dX0_find_48 : decode cX0_find 48 = .ok (.getfield 26, 3) := by decide +kernel
theorem dX0_find_51 : decode cX0_find 51 = .ok (.if_icmp .ge 55, 3) := by decide +kernel
theorem dX0_find_54 : decode cX0_find 54 = .ok (.aload_n 0, 1) := by decide +kernel
theorem dX0_find_55 : decode cX0_find 55 = .ok (.iload_n 1, 1) := by decide +kernel
theorem dX0_find_56 : decode cX0_find 56 = .ok (.iload_n 2, 1) := by decide +kernel
theorem dX0_find_57 : decode cX0_find 57 = .ok (.invokevirtual 32, 3) := by decide +kernel
theorem dX0_find_60 : decode cX0_find 60 = .ok (.istore_n 3, 1) := by decide +kernel
theorem dX0_find_61 : decode cX0_find 61 = .ok (.iload_n 3, 1) := by decide +kernel
theorem dX0_find_62 : decode cX0_find 62 = .ok (.iconst (-1), 1) := by decide +kernel
theorem dX0_find_63 : decode cX0_find 63 = .ok (.if_icmp .eq 37, 3) := by decide +kernel
theorem dX0_find_66 : decode cX0_find 66 = .ok (.aload_n 0, 1) := by decide +kernel
theorem dX0_find_67 : decode cX0_find 67 = .ok (.getfield 19, 3) := by decide +kernel
theorem dX0_find_70 : decode cX0_find 70 = .ok (.iload_n 1, 1) := by decide +kernel
theorem dX0_find_71 : decode cX0_find 71 = .ok (.iaload, 1) := by decide +kernel
theorem dX0_find_72 : decode cX0_find 72 = .ok (.iconst (-1), 1) := by decide +kernel
theorem dX0_find_73 : decode cX0_find 73 = .ok (.if_icmp .eq 13, 3) := by decide +kernel
theorem dX0_find_76 : decode cX0_find 76 = .ok (.iload_n 3, 1) := by decide +kernel
theorem dX0_find_77 : decode cX0_find 77 = .ok (.aload_n 0, 1) := by decide +kernel
theorem dX0_find_78 : decode cX0_find 78 = .ok (.getfield 19, 3) := by decide +kernel
theorem dX0_find_81 : decode cX0_find 81 = .ok (.iload_n 1, 1) := by decide +kernel
theorem dX0_find_82 : decode cX0_find 82 = .ok (.iaload, 1) := by decide +kernel
theorem dX0_find_83 : decode cX0_find 83 = .ok (.if_icmp .gt 17, 3) := by decide +kernel
theorem dX0_find_86 : decode cX0_find 86 = .ok (.aload_n 0, 1) := by decide +kernel
theorem dX0_find_87 : decode cX0_find 87 = .ok (.getfield 19, 3) := by decide +kernel
theorem dX0_find_90 : decode cX0_find 90 = .ok (.iload_n 1, 1) := by decide +kernel
theorem dX0_find_91 : decode cX0_find 91 = .ok (.iload_n 3, 1) := by decide +kernel
theorem dX0_find_92 : decode cX0_find 92 = .ok (.iastore, 1) := by decide +kernel
theorem dX0_find_93 : decode cX0_find 93 = .ok (.aload_n 0, 1) := by decide +kernel
theorem dX0_find_94 : decode cX0_find 94 = .ok (.getfield 23, 3) := by decide +kernel
theorem dX0_find_97 : decode cX0_find 97 = .ok (.iload_n 1, 1) := by decide +kernel
theorem dX0_find_98 : decode cX0_find 98 = .ok (.iload_n 2, 1) := by decide +kernel
theorem dX0_find_99 : decode cX0_find 99 = .ok (.iastore, 1) := by decide +kernel
theorem dX0_find_100 : decode cX0_find 100 = .ok (.iinc 2 1, 3) := by decide +kernel
theorem dX0_find_103 : decode cX0_find 103 = .ok (.goto (-60), 3) := by decide +kernel
theorem dX0_find_106 : decode cX0_find 106 = .ok (.iinc 1 (-1), 3) := by decide +kernel
theorem dX0_find_109 : decode cX0_find 109 = .ok (.goto (-86), 3) := by decide +kernel
theorem dX0_find_112 : decode cX0_find 112 = .ok (.return_, 1) := by decide +kernel
theorem dX0_sumWith_0 : decode cX0_sumWith 0 = .ok (.aload_n 0, 1) := by decide +kernel
theorem dX0_sumWith_1 : decode cX0_sumWith 1 = .ok (.getfield 19, 3) := by decide +kernel
theorem dX0_sumWith_4 : decode cX0_sumWith 4 = .ok (.iload_n 2, 1) := by decide +kernel
theorem dX0_sumWith_5 : decode cX0_sumWith 5 = .ok (.iconst 1, 1) := by decide +kernel
theorem dX0_sumWith_6 : decode cX0_sumWith 6 = .ok (.iadd, 1) := by decide +kernel
theorem dX0_sumWith_7 : decode cX0_sumWith 7 = .ok (.invokestatic 36, 3) := by decide +kernel
theorem dX0_sumWith_10 : decode cX0_sumWith 10 = .ok (.istore_n 3, 1) := by decide +kernel
theorem dX0_sumWith_11 : decode cX0_sumWith 11 = .ok (.iload_n 3, 1) := by decide +kernel
theorem dX0_sumWith_12 : decode cX0_sumWith 12 = .ok (.iconst (-1), 1) := by decide +kernel
theorem dX0_sumWith_13 : decode cX0_sumWith 13 = .ok (.if_icmp .ne 5, 3) := by decide +kernel
theorem dX0_sumWith_16 : decode cX0_sumWith 16 = .ok (.iconst (-1), 1) := by decide +kernel
theorem dX0_sumWith_17 : decode cX0_sumWith 17 = .ok (.ireturn, 1) := by decide +kernel
theorem dX0_sumWith_18 : decode cX0_sumWith 18 = .ok (.aload_n 0, 1) := by decide +kernel
theorem dX0_sumWith_19 : decode cX0_sumWith 19 = .ok (.getfield 15, 3) := by decide +kernel
theorem dX0_sumWith_22 : decode cX0_sumWith 22 = .ok (.iload_n 1, 1) := by decide +kernel
theorem dX0_sumWith_23 : decode cX0_sumWith 23 = .ok (.iload_n 2, 1) := by decide +kernel
theorem dX0_sumWith_24 : decode cX0_sumWith 24 = .ok (.invokevirtual 40, 3) := by decide +kernel
theorem dX0_sumWith_27 : decode cX0_sumWith 27 = .ok (.istore 4, 2) := by decide +kernel
theorem dX0_sumWith_29 : decode cX0_sumWith 29 = .ok (.iload 4, 2) := by decide +kernel
theorem dX0_sumWith_31 : decode cX0_sumWith 31 = .ok (.iconst (-1), 1) := by decide +kernel
theorem dX0_sumWith_32 : decode cX0_sumWith 32 = .ok (.if_icmp .ne 7, 3) := by decide +kernel
theorem dX0_sumWith_35 : decode cX0_sumWith 35 = .ok (.iconst (-1), 1) := by decide +kernel
theorem dX0_sumWith_36 : decode cX0_sumWith 36 = .ok (.goto 7, 3) := by decide +kernel
theorem dX0_sumWith_39 : decode cX0_sumWith 39 = .ok (.iload 4, 2) := by decide +kernel
theorem dX0_sumWith_41 : decode cX0_sumWith 41 = .ok (.iload_n 3, 1) := by decide +kernel
theorem dX0_sumWith_42 : decode cX0_sumWith 42 = .ok (.iadd, 1) := by decide +kernel
theorem dX0_sumWith_43 : decode cX0_sumWith 43 = .ok (.ireturn, 1) := by decide +kernel
theorem dX1_init_0 : decode cX1_init 0 = .ok (.aload_n 0, 1) := by decide +kernel
theorem dX1_init_1 : decode cX1_init 1 = .ok (.invokespecial 3, 3) := by decide +kernel
theorem dX1_init_4 : decode cX1_init 4 = .ok (.aload_n 0, 1) := by decide +kernel
theorem dX1_init_5 : decode cX1_init 5 = .ok (.aload_n 1, 1) := by decide +kernel
theorem dX1_init_6 : decode cX1_init 6 = .ok (.putfield 9, 3) := by decide +kernel
theorem dX1_init_9 : decode cX1_init 9 = .ok (.aload_n 0, 1) := by decide +kernel
theorem dX1_init_10 : decode cX1_init 10 = .ok (.aload_n 2, 1) := by decide +kernel
theorem dX1_init_11 : decode cX1_init 11 = .ok (.putfield 15, 3) := by decide +kernel
theorem dX1_init_14 : decode cX1_init 14 = .ok (.aload_n 0, 1) := by decide +kernel
theorem dX1_init_15 : decode cX1_init 15 = .ok (.aload_n 3, 1) := by decide +kernel
theorem dX1_init_16 : decode cX1_init 16 = .ok (.putfield 19, 3) := by decide +kernel
theorem dX1_init_19 : decode cX1_init 19 = .ok (.aload_n 0, 1) := by decide +kernel
theorem dX1_init_20 : decode cX1_init 20 = .ok (.aload 4, 2) := by decide +kernel
theorem dX1_init_22 : decode cX1_init 22 = .ok (.putfield 23, 3) := by decide +kernel
theorem dX1_init_25 : decode cX1_init 25 = .ok (.aload_n 0, 1) := by decide +kernel
theorem dX1_init_26 : decode cX1_init 26 = .ok (.iconst 0, 1) := by decide +kernel
theorem dX1_init_27 : decode cX1_init 27 = .ok (.putfield 27, 3) := by decide +kernel
theorem dX1_init_30 : decode cX1_init 30 = .ok (.aload_n 0, 1) := by decide +kernel
theorem dX1_init_31 : decode cX1_init 31 = .ok (.iconst 0, 1) := by decide +kernel
theorem dX1_init_32 : decode cX1_init 32 = .ok (.putfield 31, 3) := by decide +kernel
theorem dX1_init_35 : decode cX1_init 35 = .ok (.aload_n 0, 1) := by decide +kernel
theorem dX1_init_36 : decode cX1_init 36 = .ok (.bipush 61, 2) := by decide +kernel
theorem dX1_init_38 : decode cX1_init 38 = .ok (.newarray .int, 2) := by decide +kernel
theorem dX1_init_40 : decode cX1_init 40 = .ok (.putfield 34, 3) := by decide +kernel
theorem dX1_init_43 : decode cX1_init 43 = .ok (.aload_n 0, 1) := by decide +kernel
theorem dX1_init_44 : decode cX1_init 44 = .ok (.bipush 60, 2) := by decide +kernel
theorem dX1_init_46 : decode cX1_init 46 = .ok (.newarray .int, 2) := by decide +kernel
theorem dX1_init_48 : decode cX1_init 48 = .ok (.putfield 38, 3) := by decide +kernel
theorem dX1_init_51 : decode cX1_init 51 = .ok (.aload_n 0, 1) := by decide +kernel
theorem dX1_init_52 : decode cX1_init 52 = .ok (.bipush 60, 2) := by decide +kernel
theorem dX1_init_54 : decode cX1_init 54 = .ok (.newarray .int, 2) := by decide +kernel
theorem dX1_init_56 : decode cX1_init 56 = .ok (.putfield 41, 3) := by decide +kernel
theorem dX1_init_59 : decode cX1_init 59 = .ok (.aload_n 0, 1) := by decide +kernel
theorem dX1_init_60 : decode cX1_init 60 = .ok (.bipush 60, 2) := by decide +kernel
theorem dX1_init_62 : decode cX1_init 62 = .ok (.newarray .int, 2) := by decide +kernel
theorem dX1_init_64 : decode cX1_init 64 = .ok (.putfield 44, 3) := by decide +kernel
theorem dX1_init_67 : decode cX1_init 67 = .ok (.aload_n 0, 1) := by decide +kernel
theorem dX1_init_68 : decode cX1_init 68 = .ok (.bipush 60, 2) := by decide +kernel
theorem dX1_init_70 : decode cX1_init 70 = .ok (.newarray .int, 2) := by decide +kernel
theorem dX1_init_72 : decode cX1_init 72 = .ok (.putfield 47, 3) := by decide +kernel
theorem dX1_init_75 : decode cX1_init 75 = .ok (.aload_n 0, 1) := by decide +kernel
theorem dX1_init_76 : decode cX1_init 76 = .ok (.new 50, 3) := by decide +kernel
theorem dX1_init_79 : decode cX1_init 79 = .ok (.dup, 1) := by decide +kernel
theorem dX1_init_80 : decode cX1_init 80 = .ok (.invokespecial 52, 3) := by decide +kernel
theorem dX1_init_83 : decode cX1_init 83 = .ok (.putfield 53, 3) := by decide +kernel
theorem dX1_init_86 : decode cX1_init 86 = .ok (.return_, 1) := by decide +kernel
theorem dX1_hasLine_0 : decode cX1_hasLine 0 = .ok (.iload_n 1, 1) := by decide +kernel
theorem dX1_hasLine_1 : decode cX1_hasLine 1 = .ok (.ifCond .lt 15, 3) := by decide +kernel
theorem dX1_hasLine_4 : decode cX1_hasLine 4 = .ok (.iload_n 1, 1) := by decide +kernel
theorem dX1_hasLine_5 : decode cX1_hasLine 5 = .ok (.aload_n 0, 1) := by decide +kernel
theorem dX1_hasLine_6 : decode cX1_hasLine 6 = .ok (.getfield 27, 3) := by decide +kernel
theorem dX1_hasLine_9 : decode cX1_hasLine 9 = .ok (.if_icmp .ge 7, 3) := by decide +kernel
theorem dX1_hasLine_12 : decode cX1_hasLine 12 = .ok (.iconst 1, 1) := by decide +kernel
theorem dX1_hasLine_13 : decode cX1_hasLine 13 = .ok (.goto 4, 3) := by decide +kernel
theorem dX1_hasLine_16 : decode cX1_hasLine 16 = .ok (.iconst 0, 1) := by decide +kernel
theorem dX1_hasLine_17 : decode cX1_hasLine 17 = .ok (.ireturn, 1) := by decide +kernel
theorem dX1_firstWord_0 : decode cX1_firstWord 0 = .ok (.aload_n 0, 1) := by decide +kernel
theorem dX1_firstWord_1 : decode cX1_firstWord 1 = .ok (.iload_n 1, 1) := by decide +kernel
theorem dX1_firstWord_2 : decode cX1_firstWord 2 = .ok (.invokevirtual 57, 3) := by decide +kernel
theorem dX1_firstWord_5 : decode cX1_firstWord 5 = .ok (.ifCond .eq 12, 3) := by decide +kernel
theorem dX1_firstWord_8 : decode cX1_firstWord 8 = .ok (.aload_n 0, 1) := by decide +kernel
theorem dX1_firstWord_9 : decode cX1_firstWord 9 = .ok (.getfield 34, 3) := by decide +kernel
theorem dX1_firstWord_12 : decode cX1_firstWord 12 = .ok (.iload_n 1, 1) := by decide +kernel
theorem dX1_firstWord_13 : decode cX1_firstWord 13 = .ok (.iaload, 1) := by decide +kernel
theorem dX1_firstWord_14 : decode cX1_firstWord 14 = .ok (.goto 4, 3) := by decide +kernel
theorem dX1_firstWord_17 : decode cX1_firstWord 17 = .ok (.iconst (-1), 1) := by decide +kernel
theorem dX1_firstWord_18 : decode cX1_firstWord 18 = .ok (.ireturn, 1) := by decide +kernel
theorem dX1_lastWord_0 : decode cX1_lastWord 0 = .ok (.aload_n 0, 1) := by decide +kernel
theorem dX1_lastWord_1 : decode cX1_lastWord 1 = .ok (.iload_n 1, 1) := by decide +kernel
theorem dX1_lastWord_2 : decode cX1_lastWord 2 = .ok (.invokevirtual 57, 3) := by decide +kernel
theorem dX1_lastWord_5 : decode cX1_lastWord 5 = .ok (.ifCond .eq 16, 3) := by decide +kernel
theorem dX1_lastWord_8 : decode cX1_lastWord 8 = .ok (.aload_n 0, 1) := by decide +kernel
theorem dX1_lastWord_9 : decode cX1_lastWord 9 = .ok (.getfield 34, 3) := by decide +kernel
theorem dX1_lastWord_12 : decode cX1_lastWord 12 = .ok (.iload_n 1, 1) := by decide +kernel
theorem dX1_lastWord_13 : decode cX1_lastWord 13 = .ok (.iconst 1, 1) := by decide +kernel
theorem dX1_lastWord_14 : decode cX1_lastWord 14 = .ok (.iadd, 1) := by decide +kernel
theorem dX1_lastWord_15 : decode cX1_lastWord 15 = .ok (.iaload, 1) := by decide +kernel
theorem dX1_lastWord_16 : decode cX1_lastWord 16 = .ok (.iconst 1, 1) := by decide +kernel
theorem dX1_lastWord_17 : decode cX1_lastWord 17 = .ok (.isub, 1) := by decide +kernel
theorem dX1_lastWord_18 : decode cX1_lastWord 18 = .ok (.goto 4, 3) := by decide +kernel
theorem dX1_lastWord_21 : decode cX1_lastWord 21 = .ok (.iconst (-1), 1) := by decide +kernel
theorem dX1_lastWord_22 : decode cX1_lastWord 22 = .ok (.ireturn, 1) := by decide +kernel
theorem dX1_endOf_0 : decode cX1_endOf 0 = .ok (.aload_n 0, 1) := by decide +kernel
theorem dX1_endOf_1 : decode cX1_endOf 1 = .ok (.getfield 44, 3) := by decide +kernel
theorem dX1_endOf_4 : decode cX1_endOf 4 = .ok (.iload_n 1, 1) := by decide +kernel
theorem dX1_endOf_5 : decode cX1_endOf 5 = .ok (.invokestatic 61, 3) := by decide +kernel
theorem dX1_endOf_8 : decode cX1_endOf 8 = .ok (.aload_n 0, 1) := by decide +kernel
theorem dX1_endOf_9 : decode cX1_endOf 9 = .ok (.getfield 9, 3) := by decide +kernel
theorem dX1_endOf_12 : decode cX1_endOf 12 = .ok (.getfield 65, 3) := by decide +kernel
theorem dX1_endOf_15 : decode cX1_endOf 15 = .ok (.iload_n 1, 1) := by decide +kernel
theorem dX1_endOf_16 : decode cX1_endOf 16 = .ok (.invokestatic 61, 3) := by decide +kernel
theorem dX1_endOf_19 : decode cX1_endOf 19 = .ok (.iadd, 1) := by decide +kernel
theorem dX1_endOf_20 : decode cX1_endOf 20 = .ok (.ireturn, 1) := by decide +kernel
theorem dX1_demeritsBefore_0 : decode cX1_demeritsBefore 0 = .ok (.iconst 0, 1) := by decide +kernel
theorem dX1_demeritsBefore_1 : decode cX1_demeritsBefore 1 = .ok (.istore_n 2, 1) := by decide +kernel
theorem dX1_demeritsBefore_2 : decode cX1_demeritsBefore 2 = .ok (.iconst 0, 1) := by decide +kernel
theorem dX1_demeritsBefore_3 : decode cX1_demeritsBefore 3 = .ok (.istore_n 3, 1) := by decide +kernel
theorem dX1_demeritsBefore_4 : decode cX1_demeritsBefore 4 = .ok (.iload_n 3, 1) := by decide +kernel
theorem dX1_demeritsBefore_5 : decode cX1_demeritsBefore 5 = .ok (.iload_n 1, 1) := by decide +kernel
theorem dX1_demeritsBefore_6 : decode cX1_demeritsBefore 6 = .ok (.if_icmp .ge 37, 3) := by decide +kernel
theorem dX1_demeritsBefore_9 : decode cX1_demeritsBefore 9 = .ok (.iload_n 3, 1) := by decide +kernel
theorem dX1_demeritsBefore_10 : decode cX1_demeritsBefore 10 = .ok (.aload_n 0, 1) := by decide +kernel
theorem dX1_demeritsBefore_11 : decode cX1_demeritsBefore 11 = .ok (.getfield 27, 3) := by decide +kernel
theorem dX1_demeritsBefore_14 : decode cX1_demeritsBefore 14 = .ok (.if_icmp .ge 29, 3) := by decide +kernel
theorem dX1_demeritsBefore_17 : decode cX1_demeritsBefore 17 = .ok (.iload_n 2, 1) := by decide +kernel
theorem dX1_demeritsBefore_18 : decode cX1_demeritsBefore 18 = .ok (.aload_n 0, 1) := by decide +kernel
theorem dX1_demeritsBefore_19 : decode cX1_demeritsBefore 19 = .ok (.getfield 19, 3) := by decide +kernel
theorem dX1_demeritsBefore_22 : decode cX1_demeritsBefore 22 = .ok (.aload_n 0, 1) := by decide +kernel
theorem dX1_demeritsBefore_23 : decode cX1_demeritsBefore 23 = .ok (.iload_n 3, 1) := by decide +kernel
theorem dX1_demeritsBefore_24 : decode cX1_demeritsBefore 24 = .ok (.invokevirtual 70, 3) := by decide +kernel
theorem dX1_demeritsBefore_27 : decode cX1_demeritsBefore 27 = .ok (.aload_n 0, 1) := by decide +kernel
theorem dX1_demeritsBefore_28 : decode cX1_demeritsBefore 28 = .ok (.iload_n 3, 1) := by decide +kernel
theorem dX1_demeritsBefore_29 : decode cX1_demeritsBefore 29 = .ok (.invokevirtual 74, 3) := by decide +kernel
theorem dX1_demeritsBefore_32 : decode cX1_demeritsBefore 32 = .ok (.invokevirtual 77, 3) := by decide +kernel
theorem dX1_demeritsBefore_35 : decode cX1_demeritsBefore 35 = .ok (.iadd, 1) := by decide +kernel
theorem dX1_demeritsBefore_36 : decode cX1_demeritsBefore 36 = .ok (.istore_n 2, 1) := by decide +kernel
theorem dX1_demeritsBefore_37 : decode cX1_demeritsBefore 37 = .ok (.iinc 3 1, 3) := by decide +kernel
theorem dX1_demeritsBefore_40 : decode cX1_demeritsBefore 40 = .ok (.goto (-36), 3) := by decide +kernel
theorem dX1_demeritsBefore_43 : decode cX1_demeritsBefore 43 = .ok (.iload_n 2, 1) := by decide +kernel
theorem dX1_demeritsBefore_44 : decode cX1_demeritsBefore 44 = .ok (.ireturn, 1) := by decide +kernel
theorem dX1_linesWorseThan_0 : decode cX1_linesWorseThan 0 = .ok (.aload_n 0, 1) := by decide +kernel
theorem dX1_linesWorseThan_1 : decode cX1_linesWorseThan 1 = .ok (.getfield 19, 3) := by decide +kernel
theorem dX1_linesWorseThan_4 : decode cX1_linesWorseThan 4 = .ok (.aload_n 0, 1) := by decide +kernel
theorem dX1_linesWorseThan_5 : decode cX1_linesWorseThan 5 = .ok (.iload_n 1, 1) := by decide +kernel
theorem dX1_linesWorseThan_6 : decode cX1_linesWorseThan 6 = .ok (.invokevirtual 70, 3) := by decide +kernel
theorem dX1_linesWorseThan_9 : decode cX1_linesWorseThan 9 = .ok (.aload_n 0, 1) := by decide +kernel
theorem dX1_linesWorseThan_10 : decode cX1_linesWorseThan 10 = .ok (.iload_n 1, 1) := by decide +kernel
theorem dX1_linesWorseThan_11 : decode cX1_linesWorseThan 11 = .ok (.invokevirtual 74, 3) := by decide +kernel
theorem dX1_linesWorseThan_14 : decode cX1_linesWorseThan 14 = .ok (.invokevirtual 82, 3) := by decide +kernel
theorem dX1_linesWorseThan_17 : decode cX1_linesWorseThan 17 = .ok (.istore_n 2, 1) := by decide +kernel
theorem dX1_linesWorseThan_18 : decode cX1_linesWorseThan 18 = .ok (.iconst 0, 1) := by decide +kernel
theorem dX1_linesWorseThan_19 : decode cX1_linesWorseThan 19 = .ok (.istore_n 3, 1) := by decide +kernel
theorem dX1_linesWorseThan_20 : decode cX1_linesWorseThan 20 = .ok (.iconst 0, 1) := by decide +kernel
theorem dX1_linesWorseThan_21 : decode cX1_linesWorseThan 21 = .ok (.istore 4, 2) := by decide +kernel
theorem dX1_linesWorseThan_23 : decode cX1_linesWorseThan 23 = .ok (.iload 4, 2) := by decide +kernel
theorem dX1_linesWorseThan_25 : decode cX1_linesWorseThan 25 = .ok (.aload_n 0, 1) := by decide +kernel
theorem dX1_linesWorseThan_26 : decode cX1_linesWorseThan 26 = .ok (.getfield 27, 3) := by decide +kernel
theorem dX1_linesWorseThan_29 : decode cX1_linesWorseThan 29 = .ok (.if_icmp .ge 51, 3) := by decide +kernel
theorem dX1_linesWorseThan_32 : decode cX1_linesWorseThan 32 = .ok (.aload_n 0, 1) := by decide +kernel
theorem dX1_linesWorseThan_33 : decode cX1_linesWorseThan 33 = .ok (.getfield 19, 3) := by decide +kernel
theorem dX1_linesWorseThan_36 : decode cX1_linesWorseThan 36 = .ok (.aload_n 0, 1) := by decide +kernel
theorem dX1_linesWorseThan_37 : decode cX1_linesWorseThan 37 = .ok (.iload 4, 2) := by decide +kernel
theorem dX1_linesWorseThan_39 : decode cX1_linesWorseThan 39 = .ok (.invokevirtual 70, 3) := by decide +kernel
theorem dX1_linesWorseThan_42 : decode cX1_linesWorseThan 42 = .ok (.aload_n 0, 1) := by decide +kernel
theorem dX1_linesWorseThan_43 : decode cX1_linesWorseThan 43 = .ok (.iload 4, 2) := by decide +kernel
theorem dX1_linesWorseThan_45 : decode cX1_linesWorseThan 45 = .ok (.invokevirtual 74, 3) := by decide +kernel
theorem dX1_linesWorseThan_48 : decode cX1_linesWorseThan 48 = .ok (.invokevirtual 82, 3) := by decide +kernel
theorem dX1_linesWorseThan_51 : decode cX1_linesWorseThan 51 = .ok (.istore 5, 2) := by decide +kernel
theorem dX1_linesWorseThan_53 : decode cX1_linesWorseThan 53 = .ok (.iload 5, 2) := by decide +kernel
theorem dX1_linesWorseThan_55 : decode cX1_linesWorseThan 55 = .ok (.iload_n 2, 1) := by decide +kernel
theorem dX1_linesWorseThan_56 : decode cX1_linesWorseThan 56 = .ok (.if_icmp .gt 15, 3) := by decide +kernel
theorem dX1_linesWorseThan_59 : decode cX1_linesWorseThan 59 = .ok (.iload 5, 2) := by decide +kernel
theorem dX1_linesWorseThan_61 : decode cX1_linesWorseThan 61 = .ok (.iload_n 2, 1) := by decide +kernel
theorem dX1_linesWorseThan_62 : decode cX1_linesWorseThan 62 = .ok (.if_icmp .ne 12, 3) := by decide +kernel
theorem dX1_linesWorseThan_65 : decode cX1_linesWorseThan 65 = .ok (.iload 4, 2) := by decide +kernel
theorem dX1_linesWorseThan_67 : decode cX1_linesWorseThan 67 = .ok (.iload_n 1, 1) := by decide +kernel
theorem dX1_linesWorseThan_68 : decode cX1_linesWorseThan 68 = .ok (.if_icmp .ge 6, 3) := by decide +kernel
theorem dX1_linesWorseThan_71 : decode cX1_linesWorseThan 71 = .ok (.iinc 3 1, 3) := by decide +kernel
theorem dX1_linesWorseThan_74 : decode cX1_linesWorseThan 74 = .ok (.iinc 4 1, 3) := by decide +kernel
theorem dX1_linesWorseThan_77 : decode cX1_linesWorseThan 77 = .ok (.goto (-54), 3) := by decide +kernel
theorem dX1_linesWorseThan_80 : decode cX1_linesWorseThan 80 = .ok (.iload_n 3, 1) := by decide +kernel
theorem dX1_linesWorseThan_81 : decode cX1_linesWorseThan 81 = .ok (.ireturn, 1) := by decide +kernel
theorem dX1_secondLast_0 : decode cX1_secondLast 0 = .ok (.aload_n 0, 1) := by decide +kernel
theorem dX1_secondLast_1 : decode cX1_secondLast 1 = .ok (.iload_n 1, 1) := by decide +kernel
theorem dX1_secondLast_2 : decode cX1_secondLast 2 = .ok (.invokevirtual 57, 3) := by decide +kernel
theorem dX1_secondLast_5 : decode cX1_secondLast 5 = .ok (.ifCond .ne 5, 3) := by decide +kernel
theorem dX1_secondLast_8 : decode cX1_secondLast 8 = .ok (.iconst (-1), 1) := by decide +kernel
theorem dX1_secondLast_9 : decode cX1_secondLast 9 = .ok (.ireturn, 1) := by decide +kernel
theorem dX1_secondLast_10 : decode cX1_secondLast 10 = .ok (.aload_n 0, 1) := by decide +kernel
theorem dX1_secondLast_11 : decode cX1_secondLast 11 = .ok (.iload_n 1, 1) := by decide +kernel
theorem dX1_secondLast_12 : decode cX1_secondLast 12 = .ok (.invokevirtual 70, 3) := by decide +kernel
theorem dX1_secondLast_15 : decode cX1_secondLast 15 = .ok (.istore_n 2, 1) := by decide +kernel
theorem dX1_secondLast_16 : decode cX1_secondLast 16 = .ok (.aload_n 0, 1) := by decide +kernel
theorem dX1_secondLast_17 : decode cX1_secondLast 17 = .ok (.iload_n 1, 1) := by decide +kernel
theorem dX1_secondLast_18 : decode cX1_secondLast 18 = .ok (.invokevirtual 74, 3) := by decide +kernel
theorem dX1_secondLast_21 : decode cX1_secondLast 21 = .ok (.istore_n 3, 1) := by decide +kernel
theorem dX1_secondLast_22 : decode cX1_secondLast 22 = .ok (.iconst (-1), 1) := by decide +kernel
theorem dX1_secondLast_23 : decode cX1_secondLast 23 = .ok (.istore 4, 2) := by decide +kernel
theorem dX1_secondLast_25 : decode cX1_secondLast 25 = .ok (.iconst 0, 1) := by decide +kernel
theorem dX1_secondLast_26 : decode cX1_secondLast 26 = .ok (.istore 5, 2) := by decide +kernel
theorem dX1_secondLast_28 : decode cX1_secondLast 28 = .ok (.iload_n 2, 1) := by decide +kernel
theorem dX1_secondLast_29 : decode cX1_secondLast 29 = .ok (.istore 6, 2) := by decide +kernel
theorem dX1_secondLast_31 : decode cX1_secondLast 31 = .ok (.iload 6, 2) := by decide +kernel
theorem dX1_secondLast_33 : decode cX1_secondLast 33 = .ok (.aload_n 0, 1) := by decide +kernel
theorem dX1_secondLast_34 : decode cX1_secondLast 34 = .ok (.getfield 9, 3) := by decide +kernel
theorem dX1_secondLast_37 : decode cX1_secondLast 37 = .ok (.getfield 85, 3) := by decide +kernel
theorem dX1_secondLast_40 : decode cX1_secondLast 40 = .ok (.if_icmp .ge 58, 3) := by decide +kernel
theorem dX1_secondLast_43 : decode cX1_secondLast 43 = .ok (.iload 6, 2) := by decide +kernel
theorem dX1_secondLast_45 : decode cX1_secondLast 45 = .ok (.iload_n 3, 1) := by decide +kernel
theorem dX1_secondLast_46 : decode cX1_secondLast 46 = .ok (.if_icmp .ne 7, 3) := by decide +kernel
theorem dX1_secondLast_49 : decode cX1_secondLast 49 = .ok (.iconst (-1), 1) := by decide +kernel
theorem dX1_secondLast_50 : decode cX1_secondLast 50 = .ok (.goto 13, 3) := by decide +kernel
theorem dX1_secondLast_53 : decode cX1_secondLast 53 = .ok (.aload_n 0, 1) := by decide +kernel
theorem dX1_secondLast_54 : decode cX1_secondLast 54 = .ok (.getfield 23, 3) := by decide +kernel
theorem dX1_secondLast_57 : decode cX1_secondLast 57 = .ok (.iload_n 2, 1) := by decide +kernel
theorem dX1_secondLast_58 : decode cX1_secondLast 58 = .ok (.iload 6, 2) := by decide +kernel
theorem dX1_secondLast_60 : decode cX1_secondLast 60 = .ok (.invokevirtual 88, 3) := by decide +kernel
theorem dX1_secondLast_63 : decode cX1_secondLast 63 = .ok (.istore 7, 2) := by decide +kernel
theorem dX1_secondLast_65 : decode cX1_secondLast 65 = .ok (.iload 7, 2) := by decide +kernel
theorem dX1_secondLast_67 : decode cX1_secondLast 67 = .ok (.iconst (-1), 1) := by decide +kernel
theorem dX1_secondLast_68 : decode cX1_secondLast 68 = .ok (.if_icmp .eq 24, 3) := by decide +kernel
theorem dX1_secondLast_71 : decode cX1_secondLast 71 = .ok (.iload 4, 2) := by decide +kernel
theorem dX1_secondLast_73 : decode cX1_secondLast 73 = .ok (.iconst (-1), 1) := by decide +kernel
theorem dX1_secondLast_74 : decode cX1_secondLast 74 = .ok (.if_icmp .eq 10, 3) := by decide +kernel
theorem dX1_secondLast_77 : decode cX1_secondLast 77 = .ok (.iload 7, 2) := by decide +kernel
theorem dX1_secondLast_79 : decode cX1_secondLast 79 = .ok (.iload 5, 2) := by decide +kernel
theorem dX1_secondLast_81 : decode cX1_secondLast 81 = .ok (.if_icmp .gt 11, 3) := by decide +kernel
theorem dX1_secondLast_84 : decode cX1_secondLast 84 = .ok (.iload 6, 2) := by decide +kernel
theorem dX1_secondLast_86 : decode cX1_secondLast 86 = .ok (.istore 4, 2) := by decide +kernel
theorem dX1_secondLast_88 : decode cX1_secondLast 88 = .ok (.iload 7, 2) := by decide +kernel
theorem dX1_secondLast_90 : decode cX1_secondLast 90 = .ok (.istore 5, 2) := by decide +kernel
theorem dX1_secondLast_92 : decode cX1_secondLast 92 = .ok (.iinc 6 1, 3) := by decide +kernel
theorem dX1_secondLast_95 : decode cX1_secondLast 95 = .ok (.goto (-64), 3) := by decide +kernel
theorem dX1_secondLast_98 : decode cX1_secondLast 98 = .ok (.iload 4, 2) := by decide +kernel
theorem dX1_secondLast_100 : decode cX1_secondLast 100 = .ok (.ireturn, 1) := by decide +kernel
theorem dX1_becomeBest_0 : decode cX1_becomeBest 0 = .ok (.aload_n 0, 1) := by decide +kernel
theorem dX1_becomeBest_1 : decode cX1_becomeBest 1 = .ok (.iconst 0, 1) := by decide +kernel
theorem dX1_becomeBest_2 : decode cX1_becomeBest 2 = .ok (.putfield 27, 3) := by decide +kernel
theorem dX1_becomeBest_5 : decode cX1_becomeBest 5 = .ok (.aload_n 0, 1) := by decide +kernel
theorem dX1_becomeBest_6 : decode cX1_becomeBest 6 = .ok (.getfield 23, 3) := by decide +kernel
theorem dX1_becomeBest_9 : decode cX1_becomeBest 9 = .ok (.invokevirtual 93, 3) := by decide +kernel
theorem dX1_becomeBest_12 : decode cX1_becomeBest 12 = .ok (.ifCond .eq 8, 3) := by decide +kernel
theorem dX1_becomeBest_15 : decode cX1_becomeBest 15 = .ok (.aload_n 0, 1) := by decide +kernel
theorem dX1_becomeBest_16 : decode cX1_becomeBest 16 = .ok (.iconst 0, 1) := by decide +kernel
theorem dX1_becomeBest_17 : decode cX1_becomeBest 17 = .ok (.invokevirtual 97, 3) := by decide +kernel
theorem dX1_becomeBest_20 : decode cX1_becomeBest 20 = .ok (.aload_n 0, 1) := by decide +kernel
theorem dX1_becomeBest_21 : decode cX1_becomeBest 21 = .ok (.invokevirtual 101, 3) := by decide +kernel
theorem dX1_becomeBest_24 : decode cX1_becomeBest 24 = .ok (.return_, 1) := by decide +kernel
theorem dX1_copyBreaks_0 : decode cX1_copyBreaks 0 = .ok (.aload_n 0, 1) := by decide +kernel
theorem dX1_copyBreaks_1 : decode cX1_copyBreaks 1 = .ok (.aload_n 1, 1) := by decide +kernel
theorem dX1_copyBreaks_2 : decode cX1_copyBreaks 2 = .ok (.getfield 27, 3) := by decide +kernel
theorem dX1_copyBreaks_5 : decode cX1_copyBreaks 5 = .ok (.putfield 27, 3) := by decide +kernel
theorem dX1_copyBreaks_8 : decode cX1_copyBreaks 8 = .ok (.iconst 0, 1) := by decide +kernel
theorem dX1_copyBreaks_9 : decode cX1_copyBreaks 9 = .ok (.istore_n 2, 1) := by decide +kernel
theorem dX1_copyBreaks_10 : decode cX1_copyBreaks 10 = .ok (.iload_n 2, 1) := by decide +kernel
theorem dX1_copyBreaks_11 : decode cX1_copyBreaks 11 = .ok (.bipush 60, 2) := by decide +kernel
theorem dX1_copyBreaks_13 : decode cX1_copyBreaks 13 = .ok (.if_icmp .gt 21, 3) := by decide +kernel
theorem dX1_copyBreaks_16 : decode cX1_copyBreaks 16 = .ok (.aload_n 0, 1) := by decide +kernel
theorem dX1_copyBreaks_17 : decode cX1_copyBreaks 17 = .ok (.getfield 34, 3) := by decide +kernel
theorem dX1_copyBreaks_20 : decode cX1_copyBreaks 20 = .ok (.iload_n 2, 1) := by decide +kernel
theorem dX1_copyBreaks_21 : decode cX1_copyBreaks 21 = .ok (.aload_n 1, 1) := by decide +kernel
theorem dX1_copyBreaks_22 : decode cX1_copyBreaks 22 = .ok (.getfield 34, 3) := by decide +kernel
theorem dX1_copyBreaks_25 : decode cX1_copyBreaks 25 = .ok (.iload_n 2, 1) := by decide +kernel
theorem dX1_copyBreaks_26 : decode cX1_copyBreaks 26 = .ok (.iaload, 1) := by decide +kernel
theorem dX1_copyBreaks_27 : decode cX1_copyBreaks 27 = .ok (.iastore, 1) := by decide +kernel
theorem dX1_copyBreaks_28 : decode cX1_copyBreaks 28 = .ok (.iinc 2 1, 3) := by decide +kernel
theorem dX1_copyBreaks_31 : decode cX1_copyBreaks 31 = .ok (.goto (-21), 3) := by decide +kernel
theorem dX1_copyBreaks_34 : decode cX1_copyBreaks 34 = .ok (.return_, 1) := by decide +kernel
theorem dX1_endLineWith_0 : decode cX1_endLineWith 0 = .ok (.aload_n 0, 1) := by decide +kernel
theorem dX1_endLineWith_1 : decode cX1_endLineWith 1 = .ok (.iload_n 1, 1) := by decide +kernel
theorem dX1_endLineWith_2 : decode cX1_endLineWith 2 = .ok (.invokevirtual 57, 3) := by decide +kernel
theorem dX1_endLineWith_5 : decode cX1_endLineWith 5 = .ok (.ifCond .eq 14, 3) := by decide +kernel
theorem dX1_endLineWith_8 : decode cX1_endLineWith 8 = .ok (.aload_n 0, 1) := by decide +kernel
theorem dX1_endLineWith_9 : decode cX1_endLineWith 9 = .ok (.getfield 9, 3) := by decide +kernel
theorem dX1_endLineWith_12 : decode cX1_endLineWith 12 = .ok (.iload_n 2, 1) := by decide +kernel
theorem dX1_endLineWith_13 : decode cX1_endLineWith 13 = .ok (.invokevirtual 104, 3) := by decide +kernel
theorem dX1_endLineWith_16 : decode cX1_endLineWith 16 = .ok (.ifCond .ne 4, 3) := by decide +kernel
theorem dX1_endLineWith_19 : decode cX1_endLineWith 19 = .ok (.return_, 1) := by decide +kernel
theorem dX1_endLineWith_20 : decode cX1_endLineWith 20 = .ok (.aload_n 0, 1) := by decide +kernel
theorem dX1_endLineWith_21 : decode cX1_endLineWith 21 = .ok (.iload_n 1, 1) := by decide +kernel
theorem dX1_endLineWith_22 : decode cX1_endLineWith 22 = .ok (.iconst 1, 1) := by decide +kernel
theorem dX1_endLineWith_23 : decode cX1_endLineWith 23 = .ok (.iadd, 1) := by decide +kernel
theorem dX1_endLineWith_24 : decode cX1_endLineWith 24 = .ok (.putfield 27, 3) := by decide +kernel
theorem dX1_endLineWith_27 : decode cX1_endLineWith 27 = .ok (.aload_n 0, 1) := by decide +kernel
theorem dX1_endLineWith_28 : decode cX1_endLineWith 28 = .ok (.iload_n 2, 1) := by decide +kernel
theorem dX1_endLineWith_29 : decode cX1_endLineWith 29 = .ok (.iconst 1, 1) := by decide +kernel
theorem dX1_endLineWith_30 : decode cX1_endLineWith 30 = .ok (.iadd, 1) := by decide +kernel
theorem dX1_endLineWith_31 : decode cX1_endLineWith 31 = .ok (.invokevirtual 97, 3) := by decide +kernel
theorem dX1_endLineWith_34 : decode cX1_endLineWith 34 = .ok (.aload_n 0, 1) := by decide +kernel
theorem dX1_endLineWith_35 : decode cX1_endLineWith 35 = .ok (.invokevirtual 101, 3) := by decide +kernel
theorem dX1_endLineWith_38 : decode cX1_endLineWith 38 = .ok (.return_, 1) := by decide +kernel
theorem dX1_goOnFrom_0 : decode cX1_goOnFrom 0 = .ok (.iload_n 1, 1) := by decide +kernel
theorem dX1_goOnFrom_1 : decode cX1_goOnFrom 1 = .ok (.istore_n 2, 1) := by decide +kernel
theorem dX1_goOnFrom_2 : decode cX1_goOnFrom 2 = .ok (.iload_n 2, 1) := by decide +kernel
theorem dX1_goOnFrom_3 : decode cX1_goOnFrom 3 = .ok (.aload_n 0, 1) := by decide +kernel
theorem dX1_goOnFrom_4 : decode cX1_goOnFrom 4 = .ok (.getfield 9, 3) := by decide +kernel
theorem dX1_goOnFrom_7 : decode cX1_goOnFrom 7 = .ok (.getfield 85, 3) := by decide +kernel
theorem dX1_goOnFrom_10 : decode cX1_goOnFrom 10 = .ok (.if_icmp .ge 49, 3) := by decide +kernel
theorem dX1_goOnFrom_13 : decode cX1_goOnFrom 13 = .ok (.aload_n 0, 1) := by decide +kernel
theorem dX1_goOnFrom_14 : decode cX1_goOnFrom 14 = .ok (.getfield 27, 3) := by decide +kernel
theorem dX1_goOnFrom_17 : decode cX1_goOnFrom 17 = .ok (.bipush 60, 2) := by decide +kernel
theorem dX1_goOnFrom_19 : decode cX1_goOnFrom 19 = .ok (.if_icmp .ge 40, 3) := by decide +kernel
theorem dX1_goOnFrom_22 : decode cX1_goOnFrom 22 = .ok (.aload_n 0, 1) := by decide +kernel
theorem dX1_goOnFrom_23 : decode cX1_goOnFrom 23 = .ok (.getfield 34, 3) := by decide +kernel
theorem dX1_goOnFrom_26 : decode cX1_goOnFrom 26 = .ok (.aload_n 0, 1) := by decide +kernel
theorem dX1_goOnFrom_27 : decode cX1_goOnFrom 27 = .ok (.getfield 27, 3) := by decide +kernel
theorem dX1_goOnFrom_30 : decode cX1_goOnFrom 30 = .ok (.iload_n 2, 1) := by decide +kernel
theorem dX1_goOnFrom_31 : decode cX1_goOnFrom 31 = .ok (.iastore, 1) := by decide +kernel
theorem dX1_goOnFrom_32 : decode cX1_goOnFrom 32 = .ok (.aload_n 0, 1) := by decide +kernel
theorem dX1_goOnFrom_33 : decode cX1_goOnFrom 33 = .ok (.getfield 23, 3) := by decide +kernel
theorem dX1_goOnFrom_36 : decode cX1_goOnFrom 36 = .ok (.getfield 107, 3) := by decide +kernel
theorem dX1_goOnFrom_39 : decode cX1_goOnFrom 39 = .ok (.iload_n 2, 1) := by decide +kernel
theorem dX1_goOnFrom_40 : decode cX1_goOnFrom 40 = .ok (.invokestatic 61, 3) := by decide +kernel
theorem dX1_goOnFrom_43 : decode cX1_goOnFrom 43 = .ok (.iconst 1, 1) := by decide +kernel
theorem dX1_goOnFrom_44 : decode cX1_goOnFrom 44 = .ok (.iadd, 1) := by decide +kernel
theorem dX1_goOnFrom_45 : decode cX1_goOnFrom 45 = .ok (.istore_n 2, 1) := by decide +kernel
theorem dX1_goOnFrom_46 : decode cX1_goOnFrom 46 = .ok (.aload_n 0, 1) := by decide +kernel
theorem dX1_goOnFrom_47 : decode cX1_goOnFrom 47 = .ok (.dup, 1) := by decide +kernel
theorem dX1_goOnFrom_48 : decode cX1_goOnFrom 48 = .ok (.getfield 27, 3) := by decide +kernel
theorem dX1_goOnFrom_51 : decode cX1_goOnFrom 51 = .ok (.iconst 1, 1) := by decide +kernel
theorem dX1_goOnFrom_52 : decode cX1_goOnFrom 52 = .ok (.iadd, 1) := by decide +kernel
theorem dX1_goOnFrom_53 : decode cX1_goOnFrom 53 = .ok (.putfield 27, 3) := by decide +kernel
theorem dX1_goOnFrom_56 : decode cX1_goOnFrom 56 = .ok (.goto (-54), 3) := by decide +kernel
theorem dX1_goOnFrom_59 : decode cX1_goOnFrom 59 = .ok (.aload_n 0, 1) := by decide +kernel
theorem dX1_goOnFrom_60 : decode cX1_goOnFrom 60 = .ok (.getfield 34, 3) := by decide +kernel
theorem dX1_goOnFrom_63 : decode cX1_goOnFrom 63 = .ok (.aload_n 0, 1) := by decide +kernel
theorem dX1_goOnFrom_64 : decode cX1_goOnFrom 64 = .ok (.getfield 27, 3) := by decide +kernel
theorem dX1_goOnFrom_67 : decode cX1_goOnFrom 67 = .ok (.aload_n 0, 1) := by decide +kernel
theorem dX1_goOnFrom_68 : decode cX1_goOnFrom 68 = .ok (.getfield 9, 3) := by decide +kernel
theorem dX1_goOnFrom_71 : decode cX1_goOnFrom 71 = .ok (.getfield 85, 3) := by decide +kernel
theorem dX1_goOnFrom_74 : decode cX1_goOnFrom 74 = .ok (.iastore, 1) := by decide +kernel
theorem dX1_goOnFrom_75 : decode cX1_goOnFrom 75 = .ok (.return_, 1) := by decide +kernel
theorem dX1_settle_0 : decode cX1_settle 0 = .ok (.aload_n 0, 1) := by decide +kernel
theorem dX1_settle_1 : decode cX1_settle 1 = .ok (.iconst 0, 1) := by decide +kernel
theorem dX1_settle_2 : decode cX1_settle 2 = .ok (.putfield 31, 3) := by decide +kernel
theorem dX1_settle_5 : decode cX1_settle 5 = .ok (.iconst 0, 1) := by decide +kernel
theorem dX1_settle_6 : decode cX1_settle 6 = .ok (.istore_n 1, 1) := by decide +kernel
theorem dX1_settle_7 : decode cX1_settle 7 = .ok (.iload_n 1, 1) := by decide +kernel
theorem dX1_settle_8 : decode cX1_settle 8 = .ok (.aload_n 0, 1) := by decide +kernel
theorem dX1_settle_9 : decode cX1_settle 9 = .ok (.getfield 27, 3) := by decide +kernel
theorem dX1_settle_12 : decode cX1_settle 12 = .ok (.if_icmp .ge 74, 3) := by decide +kernel
theorem dX1_settle_15 : decode cX1_settle 15 = .ok (.aload_n 0, 1) := by decide +kernel
theorem dX1_settle_16 : decode cX1_settle 16 = .ok (.iload_n 1, 1) := by decide +kernel
theorem dX1_settle_17 : decode cX1_settle 17 = .ok (.invokevirtual 70, 3) := by decide +kernel
theorem dX1_settle_20 : decode cX1_settle 20 = .ok (.istore_n 2, 1) := by decide +kernel
theorem dX1_settle_21 : decode cX1_settle 21 = .ok (.aload_n 0, 1) := by decide +kernel
theorem dX1_settle_22 : decode cX1_settle 22 = .ok (.iload_n 1, 1) := by decide +kernel
theorem dX1_settle_23 : decode cX1_settle 23 = .ok (.invokevirtual 74, 3) := by decide +kernel
theorem dX1_settle_26 : decode cX1_settle 26 = .ok (.istore_n 3, 1) := by decide +kernel
theorem dX1_settle_27 : decode cX1_settle 27 = .ok (.aload_n 0, 1) := by decide +kernel
theorem dX1_settle_28 : decode cX1_settle 28 = .ok (.getfield 9, 3) := by decide +kernel
theorem dX1_settle_31 : decode cX1_settle 31 = .ok (.iload_n 2, 1) := by decide +kernel
theorem dX1_settle_32 : decode cX1_settle 32 = .ok (.invokevirtual 104, 3) := by decide +kernel
theorem dX1_settle_35 : decode cX1_settle 35 = .ok (.ifCond .eq 45, 3) := by decide +kernel
theorem dX1_settle_38 : decode cX1_settle 38 = .ok (.aload_n 0, 1) := by decide +kernel
theorem dX1_settle_39 : decode cX1_settle 39 = .ok (.getfield 9, 3) := by decide +kernel
theorem dX1_settle_42 : decode cX1_settle 42 = .ok (.iload_n 3, 1) := by decide +kernel
theorem dX1_settle_43 : decode cX1_settle 43 = .ok (.invokevirtual 104, 3) := by decide +kernel
theorem dX1_settle_46 : decode cX1_settle 46 = .ok (.ifCond .eq 34, 3) := by decide +kernel
theorem dX1_settle_49 : decode cX1_settle 49 = .ok (.aload_n 0, 1) := by decide +kernel
theorem dX1_settle_50 : decode cX1_settle 50 = .ok (.dup, 1) := by decide +kernel
theorem dX1_settle_51 : decode cX1_settle 51 = .ok (.getfield 31, 3) := by decide +kernel
theorem dX1_settle_54 : decode cX1_settle 54 = .ok (.aload_n 0, 1) := by decide +kernel
theorem dX1_settle_55 : decode cX1_settle 55 = .ok (.getfield 19, 3) := by decide +kernel
theorem dX1_settle_58 : decode cX1_settle 58 = .ok (.iload_n 2, 1) := by decide +kernel
theorem dX1_settle_59 : decode cX1_settle 59 = .ok (.iload_n 3, 1) := by decide +kernel
theorem dX1_settle_60 : decode cX1_settle 60 = .ok (.invokevirtual 77, 3) := by decide +kernel
theorem dX1_settle_63 : decode cX1_settle 63 = .ok (.iadd, 1) := by decide +kernel
theorem dX1_settle_64 : decode cX1_settle 64 = .ok (.putfield 31, 3) := by decide +kernel
theorem dX1_settle_67 : decode cX1_settle 67 = .ok (.aload_n 0, 1) := by decide +kernel
theorem dX1_settle_68 : decode cX1_settle 68 = .ok (.iload_n 2, 1) := by decide +kernel
theorem dX1_settle_69 : decode cX1_settle 69 = .ok (.iload_n 3, 1) := by decide +kernel
theorem dX1_settle_70 : decode cX1_settle 70 = .ok (.invokevirtual 110, 3) := by decide +kernel
theorem dX1_settle_73 : decode cX1_settle 73 = .ok (.aload_n 0, 1) := by decide +kernel
theorem dX1_settle_74 : decode cX1_settle 74 = .ok (.iload_n 1, 1) := by decide +kernel
theorem dX1_settle_75 : decode cX1_settle 75 = .ok (.iload_n 2, 1) := by decide +kernel
theorem dX1_settle_76 : decode cX1_settle 76 = .ok (.iload_n 3, 1) := by decide +kernel
theorem dX1_settle_77 : decode cX1_settle 77 = .ok (.invokevirtual 114, 3) := by decide +kernel
theorem dX1_settle_80 : decode cX1_settle 80 = .ok (.iinc 1 1, 3) := by decide +kernel
theorem dX1_settle_83 : decode cX1_settle 83 = .ok (.goto (-76), 3) := by decide +kernel
theorem dX1_settle_86 : decode cX1_settle 86 = .ok (.aload_n 0, 1) := by decide +kernel
theorem dX1_settle_87 : decode cX1_settle 87 = .ok (.getfield 53, 3) := by decide +kernel
theorem dX1_settle_90 : decode cX1_settle 90 = .ok (.aload_n 0, 1) := by decide +kernel
theorem dX1_settle_91 : decode cX1_settle 91 = .ok (.aload_n 0, 1) := by decide +kernel
theorem dX1_settle_92 : decode cX1_settle 92 = .ok (.getfield 9, 3) := by decide +kernel
theorem dX1_settle_95 : decode cX1_settle 95 = .ok (.getfield 85, 3) := by decide +kernel
theorem dX1_settle_98 : decode cX1_settle 98 = .ok (.aload_n 0, 1) := by decide +kernel
theorem dX1_settle_99 : decode cX1_settle 99 = .ok (.getfield 15, 3) := by decide +kernel
theorem dX1_settle_102 : decode cX1_settle 102 = .ok (.getfield 118, 3) := by decide +kernel
theorem dX1_settle_105 : decode cX1_settle 105 = .ok (.invokevirtual 123, 3) := by decide +kernel
theorem dX1_settle_108 : decode cX1_settle 108 = .ok (.return_, 1) := by decide +kernel
theorem dX1_shareOut_0 : decode cX1_shareOut 0 = .ok (.iload_n 1, 1) := by decide +kernel
theorem dX1_shareOut_1 : decode cX1_shareOut 1 = .ok (.istore_n 3, 1) := by decide +kernel
theorem dX1_shareOut_2 : decode cX1_shareOut 2 = .ok (.iload_n 3, 1) := by decide +kernel
theorem dX1_shareOut_3 : decode cX1_shareOut 3 = .ok (.iload_n 2, 1) := by decide +kernel
theorem dX1_shareOut_4 : decode cX1_shareOut 4 = .ok (.if_icmp .ge 34, 3) := by decide +kernel
theorem dX1_shareOut_7 : decode cX1_shareOut 7 = .ok (.aload_n 0, 1) := by decide +kernel
theorem dX1_shareOut_8 : decode cX1_shareOut 8 = .ok (.getfield 47, 3) := by decide +kernel
theorem dX1_shareOut_11 : decode cX1_shareOut 11 = .ok (.iload_n 3, 1) := by decide +kernel
theorem dX1_shareOut_12 : decode cX1_shareOut 12 = .ok (.aload_n 0, 1) := by decide +kernel
theorem dX1_shareOut_13 : decode cX1_shareOut 13 = .ok (.getfield 15, 3) := by decide +kernel
theorem dX1_shareOut_16 : decode cX1_shareOut 16 = .ok (.getfield 127, 3) := by decide +kernel
theorem dX1_shareOut_19 : decode cX1_shareOut 19 = .ok (.aload_n 0, 1) := by decide +kernel
theorem dX1_shareOut_20 : decode cX1_shareOut 20 = .ok (.getfield 9, 3) := by decide +kernel
theorem dX1_shareOut_23 : decode cX1_shareOut 23 = .ok (.getfield 130, 3) := by decide +kernel
theorem dX1_shareOut_26 : decode cX1_shareOut 26 = .ok (.iload_n 3, 1) := by decide +kernel
theorem dX1_shareOut_27 : decode cX1_shareOut 27 = .ok (.iaload, 1) := by decide +kernel
theorem dX1_shareOut_28 : decode cX1_shareOut 28 = .ok (.invokestatic 61, 3) := by decide +kernel
theorem dX1_shareOut_31 : decode cX1_shareOut 31 = .ok (.iastore, 1) := by decide +kernel
theorem dX1_shareOut_32 : decode cX1_shareOut 32 = .ok (.iinc 3 1, 3) := by decide +kernel
theorem dX1_shareOut_35 : decode cX1_shareOut 35 = .ok (.goto (-33), 3) := by decide +kernel
theorem dX1_shareOut_38 : decode cX1_shareOut 38 = .ok (.aload_n 0, 1) := by decide +kernel
theorem dX1_shareOut_39 : decode cX1_shareOut 39 = .ok (.getfield 15, 3) := by decide +kernel
theorem dX1_shareOut_42 : decode cX1_shareOut 42 = .ok (.getfield 133, 3) := by decide +kernel
theorem dX1_shareOut_45 : decode cX1_shareOut 45 = .ok (.aload_n 0, 1) := by decide +kernel
theorem dX1_shareOut_46 : decode cX1_shareOut 46 = .ok (.getfield 19, 3) := by decide +kernel
theorem dX1_shareOut_49 : decode cX1_shareOut 49 = .ok (.iload_n 1, 1) := by decide +kernel
theorem dX1_shareOut_50 : decode cX1_shareOut 50 = .ok (.iload_n 2, 1) := by decide +kernel
theorem dX1_shareOut_51 : decode cX1_shareOut 51 = .ok (.invokevirtual 136, 3) := by decide +kernel
theorem dX1_shareOut_54 : decode cX1_shareOut 54 = .ok (.isub, 1) := by decide +kernel
theorem dX1_shareOut_55 : decode cX1_shareOut 55 = .ok (.istore_n 3, 1) := by decide +kernel
theorem dX1_shareOut_56 : decode cX1_shareOut 56 = .ok (.iload_n 3, 1) := by decide +kernel
theorem dX1_shareOut_57 : decode cX1_shareOut 57 = .ok (.ifCond .le 15, 3) := by decide +kernel
theorem dX1_shareOut_60 : decode cX1_shareOut 60 = .ok (.aload_n 0, 1) := by decide +kernel
theorem dX1_shareOut_61 : decode cX1_shareOut 61 = .ok (.getfield 19, 3) := by decide +kernel
theorem dX1_shareOut_64 : decode cX1_shareOut 64 = .ok (.iload_n 2, 1) := by decide +kernel
theorem dX1_shareOut_65 : decode cX1_shareOut 65 = .ok (.invokevirtual 139, 3) := by decide +kernel
theorem dX1_shareOut_68 : decode cX1_shareOut 68 = .ok (.ifCond .eq 4, 3) := by decide +kernel
theorem dX1_shareOut_71 : decode cX1_shareOut 71 = .ok (.return_, 1) := by decide +kernel
theorem dX1_shareOut_72 : decode cX1_shareOut 72 = .ok (.iload_n 3, 1) := by decide +kernel
theorem dX1_shareOut_73 : decode cX1_shareOut 73 = .ok (.ifCond .le 7, 3) := by decide +kernel
theorem dX1_shareOut_76 : decode cX1_shareOut 76 = .ok (.iconst 1, 1) := by decide +kernel
theorem dX1_shareOut_77 : decode cX1_shareOut 77 = .ok (.goto 4, 3) := by decide +kernel
theorem dX1_shareOut_80 : decode cX1_shareOut 80 = .ok (.iconst (-1), 1) := by decide +kernel
theorem dX1_shareOut_81 : decode cX1_shareOut 81 = .ok (.istore 4, 2) := by decide +kernel
theorem dX1_shareOut_83 : decode cX1_shareOut 83 = .ok (.iload_n 3, 1) := by decide +kernel
theorem dX1_shareOut_84 : decode cX1_shareOut 84 = .ok (.invokestatic 142, 3) := by decide +kernel
theorem dX1_shareOut_87 : decode cX1_shareOut 87 = .ok (.istore 5, 2) := by decide +kernel
theorem dX1_shareOut_89 : decode cX1_shareOut 89 = .ok (.iconst 0, 1) := by decide +kernel
theorem dX1_shareOut_90 : decode cX1_shareOut 90 = .ok (.istore 6, 2) := by decide +kernel
theorem dX1_shareOut_92 : decode cX1_shareOut 92 = .ok (.iload 6, 2) := by decide +kernel
theorem dX1_shareOut_94 : decode cX1_shareOut 94 = .ok (.bipush 40, 2) := by decide +kernel
theorem dX1_shareOut_96 : decode cX1_shareOut 96 = .ok (.if_icmp .ge 71, 3) := by decide +kernel
theorem dX1_shareOut_99 : decode cX1_shareOut 99 = .ok (.iload 5, 2) := by decide +kernel
theorem dX1_shareOut_101 : decode cX1_shareOut 101 = .ok (.ifCond .le 66, 3) := by decide +kernel
theorem dX1_shareOut_104 : decode cX1_shareOut 104 = .ok (.aload_n 0, 1) := by decide +kernel
theorem dX1_shareOut_105 : decode cX1_shareOut 105 = .ok (.iload_n 1, 1) := by decide +kernel
theorem dX1_shareOut_106 : decode cX1_shareOut 106 = .ok (.iload_n 2, 1) := by decide +kernel
theorem dX1_shareOut_107 : decode cX1_shareOut 107 = .ok (.iload 4, 2) := by decide +kernel
theorem dX1_shareOut_109 : decode cX1_shareOut 109 = .ok (.ifCond .le 7, 3) := by decide +kernel
theorem dX1_shareOut_112 : decode cX1_shareOut 112 = .ok (.iconst 2, 1) := by decide +kernel
theorem dX1_shareOut_113 : decode cX1_shareOut 113 = .ok (.goto 4, 3) := by decide +kernel
theorem dX1_shareOut_116 : decode cX1_shareOut 116 = .ok (.iconst 1, 1) := by decide +kernel
theorem dX1_shareOut_117 : decode cX1_shareOut 117 = .ok (.iload 4, 2) := by decide +kernel
theorem dX1_shareOut_119 : decode cX1_shareOut 119 = .ok (.iload 5, 2) := by decide +kernel
theorem dX1_shareOut_121 : decode cX1_shareOut 121 = .ok (.invokevirtual 147, 3) := by decide +kernel
theorem dX1_shareOut_124 : decode cX1_shareOut 124 = .ok (.istore 5, 2) := by decide +kernel
theorem dX1_shareOut_126 : decode cX1_shareOut 126 = .ok (.aload_n 0, 1) := by decide +kernel
theorem dX1_shareOut_127 : decode cX1_shareOut 127 = .ok (.iload_n 1, 1) := by decide +kernel
theorem dX1_shareOut_128 : decode cX1_shareOut 128 = .ok (.iload_n 2, 1) := by decide +kernel
theorem dX1_shareOut_129 : decode cX1_shareOut 129 = .ok (.iload 4, 2) := by decide +kernel
theorem dX1_shareOut_131 : decode cX1_shareOut 131 = .ok (.ifCond .le 7, 3) := by decide +kernel
theorem dX1_shareOut_134 : decode cX1_shareOut 134 = .ok (.iconst 1, 1) := by decide +kernel
theorem dX1_shareOut_135 : decode cX1_shareOut 135 = .ok (.goto 4, 3) := by decide +kernel
theorem dX1_shareOut_138 : decode cX1_shareOut 138 = .ok (.iconst 2, 1) := by decide +kernel
theorem dX1_shareOut_139 : decode cX1_shareOut 139 = .ok (.iload 4, 2) := by decide +kernel
theorem dX1_shareOut_141 : decode cX1_shareOut 141 = .ok (.iload 5, 2) := by decide +kernel
theorem dX1_shareOut_143 : decode cX1_shareOut 143 = .ok (.invokevirtual 147, 3) := by decide +kernel
theorem dX1_shareOut_146 : decode cX1_shareOut 146 = .ok (.istore 5, 2) := by decide +kernel
theorem dX1_shareOut_148 : decode cX1_shareOut 148 = .ok (.aload_n 0, 1) := by decide +kernel
theorem dX1_shareOut_149 : decode cX1_shareOut 149 = .ok (.iload_n 1, 1) := by decide +kernel
theorem dX1_shareOut_150 : decode cX1_shareOut 150 = .ok (.iload_n 2, 1) := by decide +kernel
theorem dX1_shareOut_151 : decode cX1_shareOut 151 = .ok (.iconst 0, 1) := by decide +kernel
theorem dX1_shareOut_152 : decode cX1_shareOut 152 = .ok (.iload 4, 2) := by decide +kernel
theorem dX1_shareOut_154 : decode cX1_shareOut 154 = .ok (.iload 5, 2) := by decide +kernel
theorem dX1_shareOut_156 : decode cX1_shareOut 156 = .ok (.invokevirtual 147, 3) := by decide +kernel
theorem dX1_shareOut_159 : decode cX1_shareOut 159 = .ok (.istore 5, 2) := by decide +kernel
theorem dX1_shareOut_161 : decode cX1_shareOut 161 = .ok (.iinc 6 1, 3) := by decide +kernel
theorem dX1_shareOut_164 : decode cX1_shareOut 164 = .ok (.goto (-72), 3) := by decide +kernel
theorem dX1_shareOut_167 : decode cX1_shareOut 167 = .ok (.return_, 1) := by decide +kernel
theorem dX1_changeKind_0 : decode cX1_changeKind 0 = .ok (.iload 4, 2) := by decide +kernel
theorem dX1_changeKind_2 : decode cX1_changeKind 2 = .ok (.ifCond .le 13, 3) := by decide +kernel
theorem dX1_changeKind_5 : decode cX1_changeKind 5 = .ok (.aload_n 0, 1) := by decide +kernel
theorem dX1_changeKind_6 : decode cX1_changeKind 6 = .ok (.getfield 15, 3) := by decide +kernel
theorem dX1_changeKind_9 : decode cX1_changeKind 9 = .ok (.getfield 151, 3) := by decide +kernel
theorem dX1_changeKind_12 : decode cX1_changeKind 12 = .ok (.goto 10, 3) := by decide +kernel
theorem dX1_changeKind_15 : decode cX1_changeKind 15 = .ok (.aload_n 0, 1) := by decide +kernel
theorem dX1_changeKind_16 : decode cX1_changeKind 16 = .ok (.getfield 15, 3) := by decide +kernel
theorem dX1_changeKind_19 : decode cX1_changeKind 19 = .ok (.getfield 154, 3) := by decide +kernel
theorem dX1_changeKind_22 : decode cX1_changeKind 22 = .ok (.iload_n 3, 1) := by decide +kernel
theorem dX1_changeKind_23 : decode cX1_changeKind 23 = .ok (.invokestatic 61, 3) := by decide +kernel
theorem dX1_changeKind_26 : decode cX1_changeKind 26 = .ok (.istore 6, 2) := by decide +kernel
theorem dX1_changeKind_28 : decode cX1_changeKind 28 = .ok (.iload 5, 2) := by decide +kernel
theorem dX1_changeKind_30 : decode cX1_changeKind 30 = .ok (.istore 7, 2) := by decide +kernel
theorem dX1_changeKind_32 : decode cX1_changeKind 32 = .ok (.iload_n 1, 1) := by decide +kernel
theorem dX1_changeKind_33 : decode cX1_changeKind 33 = .ok (.istore 8, 2) := by decide +kernel
theorem dX1_changeKind_35 : decode cX1_changeKind 35 = .ok (.iload 8, 2) := by decide +kernel
theorem dX1_changeKind_37 : decode cX1_changeKind 37 = .ok (.iload_n 2, 1) := by decide +kernel
theorem dX1_changeKind_38 : decode cX1_changeKind 38 = .ok (.if_icmp .ge 55, 3) := by decide +kernel
theorem dX1_changeKind_41 : decode cX1_changeKind 41 = .ok (.iload 7, 2) := by decide +kernel
theorem dX1_changeKind_43 : decode cX1_changeKind 43 = .ok (.ifCond .le 50, 3) := by decide +kernel
theorem dX1_changeKind_46 : decode cX1_changeKind 46 = .ok (.aload_n 0, 1) := by decide +kernel
theorem dX1_changeKind_47 : decode cX1_changeKind 47 = .ok (.getfield 9, 3) := by decide +kernel
theorem dX1_changeKind_50 : decode cX1_changeKind 50 = .ok (.getfield 130, 3) := by decide +kernel
theorem dX1_changeKind_53 : decode cX1_changeKind 53 = .ok (.iload 8, 2) := by decide +kernel
theorem dX1_changeKind_55 : decode cX1_changeKind 55 = .ok (.iaload, 1) := by decide +kernel
theorem dX1_changeKind_56 : decode cX1_changeKind 56 = .ok (.iload_n 3, 1) := by decide +kernel
theorem dX1_changeKind_57 : decode cX1_changeKind 57 = .ok (.if_icmp .ne 30, 3) := by decide +kernel
theorem dX1_changeKind_60 : decode cX1_changeKind 60 = .ok (.aload_n 0, 1) := by decide +kernel
theorem dX1_changeKind_61 : decode cX1_changeKind 61 = .ok (.getfield 47, 3) := by decide +kernel
theorem dX1_changeKind_64 : decode cX1_changeKind 64 = .ok (.iload 8, 2) := by decide +kernel
theorem dX1_changeKind_66 : decode cX1_changeKind 66 = .ok (.iaload, 1) := by decide +kernel
theorem dX1_changeKind_67 : decode cX1_changeKind 67 = .ok (.iload 6, 2) := by decide +kernel
theorem dX1_changeKind_69 : decode cX1_changeKind 69 = .ok (.if_icmp .eq 18, 3) := by decide +kernel
theorem dX1_changeKind_72 : decode cX1_changeKind 72 = .ok (.aload_n 0, 1) := by decide +kernel
theorem dX1_changeKind_73 : decode cX1_changeKind 73 = .ok (.getfield 47, 3) := by decide +kernel
theorem dX1_changeKind_76 : decode cX1_changeKind 76 = .ok (.iload 8, 2) := by decide +kernel
theorem dX1_changeKind_78 : decode cX1_changeKind 78 = .ok (.dup2, 1) := by decide +kernel
theorem dX1_changeKind_79 : decode cX1_changeKind 79 = .ok (.iaload, 1) := by decide +kernel
theorem dX1_changeKind_80 : decode cX1_changeKind 80 = .ok (.iload 4, 2) := by decide +kernel
theorem dX1_changeKind_82 : decode cX1_changeKind 82 = .ok (.iadd, 1) := by decide +kernel
theorem dX1_changeKind_83 : decode cX1_changeKind 83 = .ok (.iastore, 1) := by decide +kernel
theorem dX1_changeKind_84 : decode cX1_changeKind 84 = .ok (.iinc 7 (-1), 3) := by decide +kernel
theorem dX1_changeKind_87 : decode cX1_changeKind 87 = .ok (.iinc 8 1, 3) := by decide +kernel
theorem dX1_changeKind_90 : decode cX1_changeKind 90 = .ok (.goto (-55), 3) := by decide +kernel
theorem dX1_changeKind_93 : decode cX1_changeKind 93 = .ok (.iload 7, 2) := by decide +kernel
theorem dX1_changeKind_95 : decode cX1_changeKind 95 = .ok (.ireturn, 1) := by decide +kernel
theorem dX1_placeWords_0 : decode cX1_placeWords 0 = .ok (.aload_n 0, 1) := by decide +kernel
theorem dX1_placeWords_1 : decode cX1_placeWords 1 = .ok (.getfield 19, 3) := by decide +kernel
theorem dX1_placeWords_4 : decode cX1_placeWords 4 = .ok (.getfield 157, 3) := by decide +kernel
theorem dX1_placeWords_7 : decode cX1_placeWords 7 = .ok (.iload_n 2, 1) := by decide +kernel
theorem dX1_placeWords_8 : decode cX1_placeWords 8 = .ok (.iaload, 1) := by decide +kernel
theorem dX1_placeWords_9 : decode cX1_placeWords 9 = .ok (.ineg, 1) := by decide +kernel
theorem dX1_placeWords_10 : decode cX1_placeWords 10 = .ok (.istore 4, 2) := by decide +kernel
theorem dX1_placeWords_12 : decode cX1_placeWords 12 = .ok (.iload_n 2, 1) := by decide +kernel
theorem dX1_placeWords_13 : decode cX1_placeWords 13 = .ok (.istore 5, 2) := by decide +kernel
theorem dX1_placeWords_15 : decode cX1_placeWords 15 = .ok (.iload 5, 2) := by decide +kernel
theorem dX1_placeWords_17 : decode cX1_placeWords 17 = .ok (.iload_n 3, 1) := by decide +kernel
theorem dX1_placeWords_18 : decode cX1_placeWords 18 = .ok (.if_icmp .gt 70, 3) := by decide +kernel
theorem dX1_placeWords_21 : decode cX1_placeWords 21 = .ok (.aload_n 0, 1) := by decide +kernel
theorem dX1_placeWords_22 : decode cX1_placeWords 22 = .ok (.getfield 38, 3) := by decide +kernel
theorem dX1_placeWords_25 : decode cX1_placeWords 25 = .ok (.iload 5, 2) := by decide +kernel
theorem dX1_placeWords_27 : decode cX1_placeWords 27 = .ok (.iload_n 1, 1) := by decide +kernel
theorem dX1_placeWords_28 : decode cX1_placeWords 28 = .ok (.iastore, 1) := by decide +kernel
theorem dX1_placeWords_29 : decode cX1_placeWords 29 = .ok (.aload_n 0, 1) := by decide +kernel
theorem dX1_placeWords_30 : decode cX1_placeWords 30 = .ok (.getfield 41, 3) := by decide +kernel
theorem dX1_placeWords_33 : decode cX1_placeWords 33 = .ok (.iload 5, 2) := by decide +kernel
theorem dX1_placeWords_35 : decode cX1_placeWords 35 = .ok (.iload 5, 2) := by decide +kernel
theorem dX1_placeWords_37 : decode cX1_placeWords 37 = .ok (.iload_n 3, 1) := by decide +kernel
theorem dX1_placeWords_38 : decode cX1_placeWords 38 = .ok (.if_icmp .ge 7, 3) := by decide +kernel
theorem dX1_placeWords_41 : decode cX1_placeWords 41 = .ok (.iload_n 1, 1) := by decide +kernel
theorem dX1_placeWords_42 : decode cX1_placeWords 42 = .ok (.goto 4, 3) := by decide +kernel
theorem dX1_placeWords_45 : decode cX1_placeWords 45 = .ok (.iconst (-1), 1) := by decide +kernel
theorem dX1_placeWords_46 : decode cX1_placeWords 46 = .ok (.iastore, 1) := by decide +kernel
theorem dX1_placeWords_47 : decode cX1_placeWords 47 = .ok (.aload_n 0, 1) := by decide +kernel
theorem dX1_placeWords_48 : decode cX1_placeWords 48 = .ok (.getfield 44, 3) := by decide +kernel
theorem dX1_placeWords_51 : decode cX1_placeWords 51 = .ok (.iload 5, 2) := by decide +kernel
theorem dX1_placeWords_53 : decode cX1_placeWords 53 = .ok (.iload 4, 2) := by decide +kernel
theorem dX1_placeWords_55 : decode cX1_placeWords 55 = .ok (.iastore, 1) := by decide +kernel
theorem dX1_placeWords_56 : decode cX1_placeWords 56 = .ok (.aload_n 0, 1) := by decide +kernel
theorem dX1_placeWords_57 : decode cX1_placeWords 57 = .ok (.iload 5, 2) := by decide +kernel
theorem dX1_placeWords_59 : decode cX1_placeWords 59 = .ok (.invokevirtual 160, 3) := by decide +kernel
theorem dX1_placeWords_62 : decode cX1_placeWords 62 = .ok (.iload 5, 2) := by decide +kernel
theorem dX1_placeWords_64 : decode cX1_placeWords 64 = .ok (.iload_n 3, 1) := by decide +kernel
theorem dX1_placeWords_65 : decode cX1_placeWords 65 = .ok (.if_icmp .ge 13, 3) := by decide +kernel
theorem dX1_placeWords_68 : decode cX1_placeWords 68 = .ok (.aload_n 0, 1) := by decide +kernel
theorem dX1_placeWords_69 : decode cX1_placeWords 69 = .ok (.getfield 47, 3) := by decide +kernel
theorem dX1_placeWords_72 : decode cX1_placeWords 72 = .ok (.iload 5, 2) := by decide +kernel
theorem dX1_placeWords_74 : decode cX1_placeWords 74 = .ok (.iaload, 1) := by decide +kernel
theorem dX1_placeWords_75 : decode cX1_placeWords 75 = .ok (.goto 4, 3) := by decide +kernel
theorem dX1_placeWords_78 : decode cX1_placeWords 78 = .ok (.iconst 0, 1) := by decide +kernel
theorem dX1_placeWords_79 : decode cX1_placeWords 79 = .ok (.iadd, 1) := by decide +kernel
theorem dX1_placeWords_80 : decode cX1_placeWords 80 = .ok (.istore 4, 2) := by decide +kernel
theorem dX1_placeWords_82 : decode cX1_placeWords 82 = .ok (.iinc 5 1, 3) := by decide +kernel
theorem dX1_placeWords_85 : decode cX1_placeWords 85 = .ok (.goto (-70), 3) := by decide +kernel
theorem dX1_placeWords_88 : decode cX1_placeWords 88 = .ok (.return_, 1) := by decide +kernel
theorem dX2_init_0 : decode cX2_init 0 = .ok (.aload_n 0, 1) := by decide +kernel
theorem dX2_init_1 : decode cX2_init 1 = .ok (.invokespecial 3, 3) := by decide +kernel
theorem dX2_init_4 : decode cX2_init 4 = .ok (.aload_n 0, 1) := by decide +kernel
theorem dX2_init_5 : decode cX2_init 5 = .ok (.aload_n 1, 1) := by decide +kernel
theorem dX2_init_6 : decode cX2_init 6 = .ok (.putfield 9, 3) := by decide +kernel
theorem dX2_init_9 : decode cX2_init 9 = .ok (.aload_n 0, 1) := by decide +kernel
theorem dX2_init_10 : decode cX2_init 10 = .ok (.aload_n 2, 1) := by decide +kernel
theorem dX2_init_11 : decode cX2_init 11 = .ok (.putfield 15, 3) := by decide +kernel
theorem dX2_init_14 : decode cX2_init 14 = .ok (.aload_n 0, 1) := by decide +kernel
theorem dX2_init_15 : decode cX2_init 15 = .ok (.bipush 61, 2) := by decide +kernel
theorem dX2_init_17 : decode cX2_init 17 = .ok (.newarray .int, 2) := by decide +kernel
theorem dX2_init_19 : decode cX2_init 19 = .ok (.putfield 19, 3) := by decide +kernel
theorem dX2_init_22 : decode cX2_init 22 = .ok (.aload_n 0, 1) := by decide +kernel
theorem dX2_init_23 : decode cX2_init 23 = .ok (.bipush 61, 2) := by decide +kernel
theorem dX2_init_25 : decode cX2_init 25 = .ok (.newarray .int, 2) := by decide +kernel
theorem dX2_init_27 : decode cX2_init 27 = .ok (.putfield 23, 3) := by decide +kernel
theorem dX2_init_30 : decode cX2_init 30 = .ok (.aload_n 0, 1) := by decide +kernel
theorem dX2_init_31 : decode cX2_init 31 = .ok (.bipush 61, 2) := by decide +kernel
theorem dX2_init_33 : decode cX2_init 33 = .ok (.newarray .int, 2) := by decide +kernel
theorem dX2_init_35 : decode cX2_init 35 = .ok (.putfield 26, 3) := by decide +kernel
theorem dX2_init_38 : decode cX2_init 38 = .ok (.aload_n 0, 1) := by decide +kernel
theorem dX2_init_39 : decode cX2_init 39 = .ok (.bipush 61, 2) := by decide +kernel
theorem dX2_init_41 : decode cX2_init 41 = .ok (.newarray .int, 2) := by decide +kernel
theorem dX2_init_43 : decode cX2_init 43 = .ok (.putfield 29, 3) := by decide +kernel
theorem dX2_init_46 : decode cX2_init 46 = .ok (.aload_n 0, 1) := by decide +kernel
theorem dX2_init_47 : decode cX2_init 47 = .ok (.bipush 60, 2) := by decide +kernel
theorem dX2_init_49 : decode cX2_init 49 = .ok (.newarray .int, 2) := by decide +kernel
theorem dX2_init_51 : decode cX2_init 51 = .ok (.putfield 32, 3) := by decide +kernel
theorem dX2_init_54 : decode cX2_init 54 = .ok (.aload_n 0, 1) := by decide +kernel
theorem dX2_init_55 : decode cX2_init 55 = .ok (.bipush 60, 2) := by decide +kernel
theorem dX2_init_57 : decode cX2_init 57 = .ok (.newarray .int, 2) := by decide +kernel
theorem dX2_init_59 : decode cX2_init 59 = .ok (.putfield 35, 3) := by decide +kernel
theorem dX2_init_62 : decode cX2_init 62 = .ok (.return_, 1) := by decide +kernel
theorem dX2_prepare_0 : decode cX2_prepare 0 = .ok (.iconst 0, 1) := by decide +kernel
theorem dX2_prepare_1 : decode cX2_prepare 1 = .ok (.istore_n 1, 1) := by decide +kernel
theorem dX2_prepare_2 : decode cX2_prepare 2 = .ok (.iload_n 1, 1) := by decide +kernel
theorem dX2_prepare_3 : decode cX2_prepare 3 = .ok (.aload_n 0, 1) := by decide +kernel
theorem dX2_prepare_4 : decode cX2_prepare 4 = .ok (.getfield 9, 3) := by decide +kernel
theorem dX2_prepare_7 : decode cX2_prepare 7 = .ok (.getfield 38, 3) := by decide +kernel
theorem dX2_prepare_10 : decode cX2_prepare 10 = .ok (.if_icmp .ge 187, 3) := by decide +kernel
theorem dX2_prepare_13 : decode cX2_prepare 13 = .ok (.aload_n 0, 1) := by decide +kernel
theorem dX2_prepare_14 : decode cX2_prepare 14 = .ok (.getfield 9, 3) := by decide +kernel
theorem dX2_prepare_17 : decode cX2_prepare 17 = .ok (.getfield 44, 3) := by decide +kernel
theorem dX2_prepare_20 : decode cX2_prepare 20 = .ok (.iload_n 1, 1) := by decide +kernel
theorem dX2_prepare_21 : decode cX2_prepare 21 = .ok (.iaload, 1) := by decide +kernel
theorem dX2_prepare_22 : decode cX2_prepare 22 = .ok (.istore_n 2, 1) := by decide +kernel
theorem dX2_prepare_23 : decode cX2_prepare 23 = .ok (.aload_n 0, 1) := by decide +kernel
theorem dX2_prepare_24 : decode cX2_prepare 24 = .ok (.getfield 15, 3) := by decide +kernel
theorem dX2_prepare_27 : decode cX2_prepare 27 = .ok (.getfield 47, 3) := by decide +kernel
theorem dX2_prepare_30 : decode cX2_prepare 30 = .ok (.iload_n 2, 1) := by decide +kernel
theorem dX2_prepare_31 : decode cX2_prepare 31 = .ok (.invokestatic 52, 3) := by decide +kernel
theorem dX2_prepare_34 : decode cX2_prepare 34 = .ok (.istore_n 3, 1) := by decide +kernel
theorem dX2_prepare_35 : decode cX2_prepare 35 = .ok (.aload_n 0, 1) := by decide +kernel
theorem dX2_prepare_36 : decode cX2_prepare 36 = .ok (.getfield 15, 3) := by decide +kernel
theorem dX2_prepare_39 : decode cX2_prepare 39 = .ok (.getfield 56, 3) := by decide +kernel
theorem dX2_prepare_42 : decode cX2_prepare 42 = .ok (.iload_n 2, 1) := by decide +kernel
theorem dX2_prepare_43 : decode cX2_prepare 43 = .ok (.invokestatic 52, 3) := by decide +kernel
theorem dX2_prepare_46 : decode cX2_prepare 46 = .ok (.iload_n 3, 1) := by decide +kernel
theorem dX2_prepare_47 : decode cX2_prepare 47 = .ok (.isub, 1) := by decide +kernel
theorem dX2_prepare_48 : decode cX2_prepare 48 = .ok (.istore 4, 2) := by decide +kernel
theorem dX2_prepare_50 : decode cX2_prepare 50 = .ok (.iload_n 3, 1) := by decide +kernel
theorem dX2_prepare_51 : decode cX2_prepare 51 = .ok (.aload_n 0, 1) := by decide +kernel
theorem dX2_prepare_52 : decode cX2_prepare 52 = .ok (.getfield 15, 3) := by decide +kernel
theorem dX2_prepare_55 : decode cX2_prepare 55 = .ok (.getfield 59, 3) := by decide +kernel
theorem dX2_prepare_58 : decode cX2_prepare 58 = .ok (.iload_n 2, 1) := by decide +kernel
theorem dX2_prepare_59 : decode cX2_prepare 59 = .ok (.invokestatic 52, 3) := by decide +kernel
theorem dX2_prepare_62 : decode cX2_prepare 62 = .ok (.isub, 1) := by decide +kernel
theorem dX2_prepare_63 : decode cX2_prepare 63 = .ok (.istore 5, 2) := by decide +kernel
theorem dX2_prepare_65 : decode cX2_prepare 65 = .ok (.aload_n 0, 1) := by decide +kernel
theorem dX2_prepare_66 : decode cX2_prepare 66 = .ok (.getfield 19, 3) := by decide +kernel
theorem dX2_prepare_69 : decode cX2_prepare 69 = .ok (.iload_n 1, 1) := by decide +kernel
theorem dX2_prepare_70 : decode cX2_prepare 70 = .ok (.iconst 1, 1) := by decide +kernel
theorem dX2_prepare_71 : decode cX2_prepare 71 = .ok (.iadd, 1) := by decide +kernel
theorem dX2_prepare_72 : decode cX2_prepare 72 = .ok (.aload_n 0, 1) := by decide +kernel
theorem dX2_prepare_73 : decode cX2_prepare 73 = .ok (.getfield 19, 3) := by decide +kernel
theorem dX2_prepare_76 : decode cX2_prepare 76 = .ok (.iload_n 1, 1) := by decide +kernel
theorem dX2_prepare_77 : decode cX2_prepare 77 = .ok (.iaload, 1) := by decide +kernel
theorem dX2_prepare_78 : decode cX2_prepare 78 = .ok (.aload_n 0, 1) := by decide +kernel
theorem dX2_prepare_79 : decode cX2_prepare 79 = .ok (.getfield 9, 3) := by decide +kernel
theorem dX2_prepare_82 : decode cX2_prepare 82 = .ok (.getfield 62, 3) := by decide +kernel
theorem dX2_prepare_85 : decode cX2_prepare 85 = .ok (.iload_n 1, 1) := by decide +kernel
theorem dX2_prepare_86 : decode cX2_prepare 86 = .ok (.iaload, 1) := by decide +kernel
theorem dX2_prepare_87 : decode cX2_prepare 87 = .ok (.iadd, 1) := by decide +kernel
theorem dX2_prepare_88 : decode cX2_prepare 88 = .ok (.iastore, 1) := by decide +kernel
theorem dX2_prepare_89 : decode cX2_prepare 89 = .ok (.aload_n 0, 1) := by decide +kernel
theorem dX2_prepare_90 : decode cX2_prepare 90 = .ok (.getfield 23, 3) := by decide +kernel
theorem dX2_prepare_93 : decode cX2_prepare 93 = .ok (.iload_n 1, 1) := by decide +kernel
theorem dX2_prepare_94 : decode cX2_prepare 94 = .ok (.iconst 1, 1) := by decide +kernel
theorem dX2_prepare_95 : decode cX2_prepare 95 = .ok (.iadd, 1) := by decide +kernel
theorem dX2_prepare_96 : decode cX2_prepare 96 = .ok (.aload_n 0, 1) := by decide +kernel
theorem dX2_prepare_97 : decode cX2_prepare 97 = .ok (.getfield 23, 3) := by decide +kernel
theorem dX2_prepare_100 : decode cX2_prepare 100 = .ok (.iload_n 1, 1) := by decide +kernel
theorem dX2_prepare_101 : decode cX2_prepare 101 = .ok (.iaload, 1) := by decide +kernel
theorem dX2_prepare_102 : decode cX2_prepare 102 = .ok (.iload_n 3, 1) := by decide +kernel
theorem dX2_prepare_103 : decode cX2_prepare 103 = .ok (.iadd, 1) := by decide +kernel
theorem dX2_prepare_104 : decode cX2_prepare 104 = .ok (.iastore, 1) := by decide +kernel
theorem dX2_prepare_105 : decode cX2_prepare 105 = .ok (.aload_n 0, 1) := by decide +kernel
theorem dX2_prepare_106 : decode cX2_prepare 106 = .ok (.getfield 26, 3) := by decide +kernel
theorem dX2_prepare_109 : decode cX2_prepare 109 = .ok (.iload_n 1, 1) := by decide +kernel
theorem dX2_prepare_110 : decode cX2_prepare 110 = .ok (.iconst 1, 1) := by decide +kernel
theorem dX2_prepare_111 : decode cX2_prepare 111 = .ok (.iadd, 1) := by decide +kernel
theorem dX2_prepare_112 : decode cX2_prepare 112 = .ok (.aload_n 0, 1) := by decide +kernel
theorem dX2_prepare_113 : decode cX2_prepare 113 = .ok (.getfield 26, 3) := by decide +kernel
theorem dX2_prepare_116 : decode cX2_prepare 116 = .ok (.iload_n 1, 1) := by decide +kernel
theorem dX2_prepare_117 : decode cX2_prepare 117 = .ok (.iaload, 1) := by decide +kernel
theorem dX2_prepare_118 : decode cX2_prepare 118 = .ok (.iload 4, 2) := by decide +kernel
theorem dX2_prepare_120 : decode cX2_prepare 120 = .ok (.iadd, 1) := by decide +kernel
theorem dX2_prepare_121 : decode cX2_prepare 121 = .ok (.iastore, 1) := by decide +kernel
theorem dX2_prepare_122 : decode cX2_prepare 122 = .ok (.aload_n 0, 1) := by decide +kernel
theorem dX2_prepare_123 : decode cX2_prepare 123 = .ok (.getfield 29, 3) := by decide +kernel
theorem dX2_prepare_126 : decode cX2_prepare 126 = .ok (.iload_n 1, 1) := by decide +kernel
theorem dX2_prepare_127 : decode cX2_prepare 127 = .ok (.iconst 1, 1) := by decide +kernel
theorem dX2_prepare_128 : decode cX2_prepare 128 = .ok (.iadd, 1) := by decide +kernel
theorem dX2_prepare_129 : decode cX2_prepare 129 = .ok (.aload_n 0, 1) := by decide +kernel
theorem dX2_prepare_130 : decode cX2_prepare 130 = .ok (.getfield 29, 3) := by decide +kernel
theorem dX2_prepare_133 : decode cX2_prepare 133 = .ok (.iload_n 1, 1) := by decide +kernel
theorem dX2_prepare_134 : decode cX2_prepare 134 = .ok (.iaload, 1) := by decide +kernel
theorem dX2_prepare_135 : decode cX2_prepare 135 = .ok (.iload 5, 2) := by decide +kernel
theorem dX2_prepare_137 : decode cX2_prepare 137 = .ok (.iadd, 1) := by decide +kernel
theorem dX2_prepare_138 : decode cX2_prepare 138 = .ok (.iastore, 1) := by decide +kernel
theorem dX2_prepare_139 : decode cX2_prepare 139 = .ok (.aload_n 0, 1) := by decide +kernel
theorem dX2_prepare_140 : decode cX2_prepare 140 = .ok (.getfield 32, 3) := by decide +kernel
theorem dX2_prepare_143 : decode cX2_prepare 143 = .ok (.iload_n 1, 1) := by decide +kernel
theorem dX2_prepare_144 : decode cX2_prepare 144 = .ok (.aload_n 0, 1) := by decide +kernel
theorem dX2_prepare_145 : decode cX2_prepare 145 = .ok (.getfield 9, 3) := by decide +kernel
theorem dX2_prepare_148 : decode cX2_prepare 148 = .ok (.getfield 65, 3) := by decide +kernel
theorem dX2_prepare_151 : decode cX2_prepare 151 = .ok (.iload_n 1, 1) := by decide +kernel
theorem dX2_prepare_152 : decode cX2_prepare 152 = .ok (.iaload, 1) := by decide +kernel
theorem dX2_prepare_153 : decode cX2_prepare 153 = .ok (.aload_n 0, 1) := by decide +kernel
theorem dX2_prepare_154 : decode cX2_prepare 154 = .ok (.getfield 15, 3) := by decide +kernel
theorem dX2_prepare_157 : decode cX2_prepare 157 = .ok (.getfield 68, 3) := by decide +kernel
theorem dX2_prepare_160 : decode cX2_prepare 160 = .ok (.imul, 1) := by decide +kernel
theorem dX2_prepare_161 : decode cX2_prepare 161 = .ok (.bipush 100, 2) := by decide +kernel
theorem dX2_prepare_163 : decode cX2_prepare 163 = .ok (.idiv, 1) := by decide +kernel
theorem dX2_prepare_164 : decode cX2_prepare 164 = .ok (.iastore, 1) := by decide +kernel
theorem dX2_prepare_165 : decode cX2_prepare 165 = .ok (.aload_n 0, 1) := by decide +kernel
theorem dX2_prepare_166 : decode cX2_prepare 166 = .ok (.getfield 35, 3) := by decide +kernel
theorem dX2_prepare_169 : decode cX2_prepare 169 = .ok (.iload_n 1, 1) := by decide +kernel
theorem dX2_prepare_170 : decode cX2_prepare 170 = .ok (.aload_n 0, 1) := by decide +kernel
theorem dX2_prepare_171 : decode cX2_prepare 171 = .ok (.getfield 9, 3) := by decide +kernel
theorem dX2_prepare_174 : decode cX2_prepare 174 = .ok (.getfield 71, 3) := by decide +kernel
theorem dX2_prepare_177 : decode cX2_prepare 177 = .ok (.iload_n 1, 1) := by decide +kernel
theorem dX2_prepare_178 : decode cX2_prepare 178 = .ok (.iaload, 1) := by decide +kernel
theorem dX2_prepare_179 : decode cX2_prepare 179 = .ok (.aload_n 0, 1) := by decide +kernel
theorem dX2_prepare_180 : decode cX2_prepare 180 = .ok (.getfield 15, 3) := by decide +kernel
theorem dX2_prepare_183 : decode cX2_prepare 183 = .ok (.getfield 68, 3) := by decide +kernel
theorem dX2_prepare_186 : decode cX2_prepare 186 = .ok (.imul, 1) := by decide +kernel
theorem dX2_prepare_187 : decode cX2_prepare 187 = .ok (.bipush 100, 2) := by decide +kernel
theorem dX2_prepare_189 : decode cX2_prepare 189 = .ok (.idiv, 1) := by decide +kernel
theorem dX2_prepare_190 : decode cX2_prepare 190 = .ok (.iastore, 1) := by decide +kernel
theorem dX2_prepare_191 : decode cX2_prepare 191 = .ok (.iinc 1 1, 3) := by decide +kernel
theorem dX2_prepare_194 : decode cX2_prepare 194 = .ok (.goto (-192), 3) := by decide +kernel
theorem dX2_prepare_197 : decode cX2_prepare 197 = .ok (.return_, 1) := by decide +kernel
theorem dX2_isEnd_0 : decode cX2_isEnd 0 = .ok (.iload_n 1, 1) := by decide +kernel
theorem dX2_isEnd_1 : decode cX2_isEnd 1 = .ok (.aload_n 0, 1) := by decide +kernel
theorem dX2_isEnd_2 : decode cX2_isEnd 2 = .ok (.getfield 9, 3) := by decide +kernel
theorem dX2_isEnd_5 : decode cX2_isEnd 5 = .ok (.getfield 38, 3) := by decide +kernel
theorem dX2_isEnd_8 : decode cX2_isEnd 8 = .ok (.iconst 1, 1) := by decide +kernel
theorem dX2_isEnd_9 : decode cX2_isEnd 9 = .ok (.isub, 1) := by decide +kernel
theorem dX2_isEnd_10 : decode cX2_isEnd 10 = .ok (.if_icmp .ne 7, 3) := by decide +kernel
theorem dX2_isEnd_13 : decode cX2_isEnd 13 = .ok (.iconst 1, 1) := by decide +kernel
theorem dX2_isEnd_14 : decode cX2_isEnd 14 = .ok (.goto 4, 3) := by decide +kernel
theorem dX2_isEnd_17 : decode cX2_isEnd 17 = .ok (.iconst 0, 1) := by decide +kernel
theorem dX2_isEnd_18 : decode cX2_isEnd 18 = .ok (.ireturn, 1) := by decide +kernel
theorem dX2_naturalWidth_0 : decode cX2_naturalWidth 0 = .ok (.iload_n 1, 1) := by decide +kernel
theorem dX2_naturalWidth_1 : decode cX2_naturalWidth 1 = .ok (.ifCond .lt 14, 3) := by decide +kernel
theorem dX2_naturalWidth_4 : decode cX2_naturalWidth 4 = .ok (.iload_n 2, 1) := by decide +kernel
theorem dX2_naturalWidth_5 : decode cX2_naturalWidth 5 = .ok (.iload_n 1, 1) := by decide +kernel
theorem dX2_naturalWidth_6 : decode cX2_naturalWidth 6 = .ok (.if_icmp .lt 9, 3) := by decide +kernel
theorem dX2_naturalWidth_9 : decode cX2_naturalWidth 9 = .ok (.iload_n 2, 1) := by decide +kernel
theorem dX2_naturalWidth_10 : decode cX2_naturalWidth 10 = .ok (.bipush 60, 2) := by decide +kernel
theorem dX2_naturalWidth_12 : decode cX2_naturalWidth 12 = .ok (.if_icmp .lt 5, 3) := by decide +kernel
theorem dX2_naturalWidth_15 : decode cX2_naturalWidth 15 = .ok (.iconst 0, 1) := by decide +kernel
theorem dX2_naturalWidth_16 : decode cX2_naturalWidth 16 = .ok (.ireturn, 1) := by decide +kernel
theorem dX2_naturalWidth_17 : decode cX2_naturalWidth 17 = .ok (.aload_n 0, 1) := by decide +kernel
theorem dX2_naturalWidth_18 : decode cX2_naturalWidth 18 = .ok (.getfield 19, 3) := by decide +kernel
theorem dX2_naturalWidth_21 : decode cX2_naturalWidth 21 = .ok (.iload_n 2, 1) := by decide +kernel
theorem dX2_naturalWidth_22 : decode cX2_naturalWidth 22 = .ok (.iconst 1, 1) := by decide +kernel
theorem dX2_naturalWidth_23 : decode cX2_naturalWidth 23 = .ok (.iadd, 1) := by decide +kernel
theorem dX2_naturalWidth_24 : decode cX2_naturalWidth 24 = .ok (.iaload, 1) := by decide +kernel
theorem dX2_naturalWidth_25 : decode cX2_naturalWidth 25 = .ok (.aload_n 0, 1) := by decide +kernel
theorem dX2_naturalWidth_26 : decode cX2_naturalWidth 26 = .ok (.getfield 19, 3) := by decide +kernel
theorem dX2_naturalWidth_29 : decode cX2_naturalWidth 29 = .ok (.iload_n 1, 1) := by decide +kernel
theorem dX2_naturalWidth_30 : decode cX2_naturalWidth 30 = .ok (.iaload, 1) := by decide +kernel
theorem dX2_naturalWidth_31 : decode cX2_naturalWidth 31 = .ok (.isub, 1) := by decide +kernel
theorem dX2_naturalWidth_32 : decode cX2_naturalWidth 32 = .ok (.istore_n 3, 1) := by decide +kernel
theorem dX2_naturalWidth_33 : decode cX2_naturalWidth 33 = .ok (.aload_n 0, 1) := by decide +kernel
theorem dX2_naturalWidth_34 : decode cX2_naturalWidth 34 = .ok (.getfield 23, 3) := by decide +kernel
theorem dX2_naturalWidth_37 : decode cX2_naturalWidth 37 = .ok (.iload_n 2, 1) := by decide +kernel
theorem dX2_naturalWidth_38 : decode cX2_naturalWidth 38 = .ok (.iaload, 1) := by decide +kernel
theorem dX2_naturalWidth_39 : decode cX2_naturalWidth 39 = .ok (.aload_n 0, 1) := by decide +kernel
theorem dX2_naturalWidth_40 : decode cX2_naturalWidth 40 = .ok (.getfield 23, 3) := by decide +kernel
theorem dX2_naturalWidth_43 : decode cX2_naturalWidth 43 = .ok (.iload_n 1, 1) := by decide +kernel
theorem dX2_naturalWidth_44 : decode cX2_naturalWidth 44 = .ok (.iaload, 1) := by decide +kernel
theorem dX2_naturalWidth_45 : decode cX2_naturalWidth 45 = .ok (.isub, 1) := by decide +kernel
theorem dX2_naturalWidth_46 : decode cX2_naturalWidth 46 = .ok (.istore 4, 2) := by decide +kernel
theorem dX2_naturalWidth_48 : decode cX2_naturalWidth 48 = .ok (.iload_n 3, 1) := by decide +kernel
theorem dX2_naturalWidth_49 : decode cX2_naturalWidth 49 = .ok (.iload 4, 2) := by decide +kernel
theorem dX2_naturalWidth_51 : decode cX2_naturalWidth 51 = .ok (.iadd, 1) := by decide +kernel
theorem dX2_naturalWidth_52 : decode cX2_naturalWidth 52 = .ok (.aload_n 0, 1) := by decide +kernel
theorem dX2_naturalWidth_53 : decode cX2_naturalWidth 53 = .ok (.getfield 32, 3) := by decide +kernel
theorem dX2_naturalWidth_56 : decode cX2_naturalWidth 56 = .ok (.iload_n 1, 1) := by decide +kernel
theorem dX2_naturalWidth_57 : decode cX2_naturalWidth 57 = .ok (.iaload, 1) := by decide +kernel
theorem dX2_naturalWidth_58 : decode cX2_naturalWidth 58 = .ok (.isub, 1) := by decide +kernel
theorem dX2_naturalWidth_59 : decode cX2_naturalWidth 59 = .ok (.aload_n 0, 1) := by decide +kernel
theorem dX2_naturalWidth_60 : decode cX2_naturalWidth 60 = .ok (.getfield 35, 3) := by decide +kernel
theorem dX2_naturalWidth_63 : decode cX2_naturalWidth 63 = .ok (.iload_n 2, 1) := by decide +kernel
theorem dX2_naturalWidth_64 : decode cX2_naturalWidth 64 = .ok (.iaload, 1) := by decide +kernel
theorem dX2_naturalWidth_65 : decode cX2_naturalWidth 65 = .ok (.isub, 1) := by decide +kernel
theorem dX2_naturalWidth_66 : decode cX2_naturalWidth 66 = .ok (.ireturn, 1) := by decide +kernel
theorem dX2_badness_0 : decode cX2_badness 0 = .ok (.aload_n 0, 1) := by decide +kernel
theorem dX2_badness_1 : decode cX2_badness 1 = .ok (.getfield 15, 3) := by decide +kernel
theorem dX2_badness_4 : decode cX2_badness 4 = .ok (.getfield 74, 3) := by decide +kernel
theorem dX2_badness_7 : decode cX2_badness 7 = .ok (.aload_n 0, 1) := by decide +kernel
theorem dX2_badness_8 : decode cX2_badness 8 = .ok (.iload_n 1, 1) := by decide +kernel
theorem dX2_badness_9 : decode cX2_badness 9 = .ok (.iload_n 2, 1) := by decide +kernel
theorem dX2_badness_10 : decode cX2_badness 10 = .ok (.invokevirtual 77, 3) := by decide +kernel
theorem dX2_badness_13 : decode cX2_badness 13 = .ok (.isub, 1) := by decide +kernel
theorem dX2_badness_14 : decode cX2_badness 14 = .ok (.istore_n 3, 1) := by decide +kernel
theorem dX2_badness_15 : decode cX2_badness 15 = .ok (.iload_n 3, 1) := by decide +kernel
theorem dX2_badness_16 : decode cX2_badness 16 = .ok (.ifCond .eq 15, 3) := by decide +kernel
theorem dX2_badness_19 : decode cX2_badness 19 = .ok (.iload_n 3, 1) := by decide +kernel
theorem dX2_badness_20 : decode cX2_badness 20 = .ok (.ifCond .le 13, 3) := by decide +kernel
theorem dX2_badness_23 : decode cX2_badness 23 = .ok (.aload_n 0, 1) := by decide +kernel
theorem dX2_badness_24 : decode cX2_badness 24 = .ok (.iload_n 2, 1) := by decide +kernel
theorem dX2_badness_25 : decode cX2_badness 25 = .ok (.invokevirtual 81, 3) := by decide +kernel
theorem dX2_badness_28 : decode cX2_badness 28 = .ok (.ifCond .eq 5, 3) := by decide +kernel
theorem dX2_badness_31 : decode cX2_badness 31 = .ok (.iconst 0, 1) := by decide +kernel
theorem dX2_badness_32 : decode cX2_badness 32 = .ok (.ireturn, 1) := by decide +kernel
theorem dX2_badness_33 : decode cX2_badness 33 = .ok (.iload_n 3, 1) := by decide +kernel
theorem dX2_badness_34 : decode cX2_badness 34 = .ok (.ifCond .le 10, 3) := by decide +kernel
theorem dX2_badness_37 : decode cX2_badness 37 = .ok (.aload_n 0, 1) := by decide +kernel
theorem dX2_badness_38 : decode cX2_badness 38 = .ok (.getfield 26, 3) := by decide +kernel
theorem dX2_badness_41 : decode cX2_badness 41 = .ok (.goto 7, 3) := by decide +kernel
theorem dX2_badness_44 : decode cX2_badness 44 = .ok (.aload_n 0, 1) := by decide +kernel
theorem dX2_badness_45 : decode cX2_badness 45 = .ok (.getfield 29, 3) := by decide +kernel
theorem dX2_badness_48 : decode cX2_badness 48 = .ok (.astore 4, 2) := by decide +kernel
theorem dX2_badness_50 : decode cX2_badness 50 = .ok (.aload 4, 2) := by decide +kernel
theorem dX2_badness_52 : decode cX2_badness 52 = .ok (.iload_n 2, 1) := by decide +kernel
theorem dX2_badness_53 : decode cX2_badness 53 = .ok (.invokestatic 52, 3) := by decide +kernel
theorem dX2_badness_56 : decode cX2_badness 56 = .ok (.aload 4, 2) := by decide +kernel
theorem dX2_badness_58 : decode cX2_badness 58 = .ok (.iload_n 1, 1) := by decide +kernel
theorem dX2_badness_59 : decode cX2_badness 59 = .ok (.invokestatic 52, 3) := by decide +kernel
theorem dX2_badness_62 : decode cX2_badness 62 = .ok (.isub, 1) := by decide +kernel
theorem dX2_badness_63 : decode cX2_badness 63 = .ok (.istore 5, 2) := by decide +kernel
theorem dX2_badness_65 : decode cX2_badness 65 = .ok (.iload 5, 2) := by decide +kernel
theorem dX2_badness_67 : decode cX2_badness 67 = .ok (.iconst 1, 1) := by decide +kernel
theorem dX2_badness_68 : decode cX2_badness 68 = .ok (.if_icmp .lt 12, 3) := by decide +kernel
theorem dX2_badness_71 : decode cX2_badness 71 = .ok (.iload 5, 2) := by decide +kernel
theorem dX2_badness_73 : decode cX2_badness 73 = .ok (.iload_n 3, 1) := by decide +kernel
theorem dX2_badness_74 : decode cX2_badness 74 = .ok (.invokestatic 85, 3) := by decide +kernel
theorem dX2_badness_77 : decode cX2_badness 77 = .ok (.if_icmp .ge 5, 3) := by decide +kernel
theorem dX2_badness_80 : decode cX2_badness 80 = .ok (.iconst (-1), 1) := by decide +kernel
theorem dX2_badness_81 : decode cX2_badness 81 = .ok (.ireturn, 1) := by decide +kernel
theorem dX2_badness_82 : decode cX2_badness 82 = .ok (.bipush 100, 2) := by decide +kernel
theorem dX2_badness_84 : decode cX2_badness 84 = .ok (.iload_n 3, 1) := by decide +kernel
theorem dX2_badness_85 : decode cX2_badness 85 = .ok (.imul, 1) := by decide +kernel
theorem dX2_badness_86 : decode cX2_badness 86 = .ok (.iload_n 3, 1) := by decide +kernel
theorem dX2_badness_87 : decode cX2_badness 87 = .ok (.imul, 1) := by decide +kernel
theorem dX2_badness_88 : decode cX2_badness 88 = .ok (.iload 5, 2) := by decide +kernel
theorem dX2_badness_90 : decode cX2_badness 90 = .ok (.iload 5, 2) := by decide +kernel
theorem dX2_badness_92 : decode cX2_badness 92 = .ok (.imul, 1) := by decide +kernel
theorem dX2_badness_93 : decode cX2_badness 93 = .ok (.idiv, 1) := by decide +kernel
theorem dX2_badness_94 : decode cX2_badness 94 = .ok (.ireturn, 1) := by decide +kernel
theorem dX2_demerits_0 : decode cX2_demerits 0 = .ok (.aload_n 0, 1) := by decide +kernel
theorem dX2_demerits_1 : decode cX2_demerits 1 = .ok (.iload_n 1, 1) := by decide +kernel
theorem dX2_demerits_2 : decode cX2_demerits 2 = .ok (.iload_n 2, 1) := by decide +kernel
theorem dX2_demerits_3 : decode cX2_demerits 3 = .ok (.invokevirtual 91, 3) := by decide +kernel
theorem dX2_demerits_6 : decode cX2_demerits 6 = .ok (.istore_n 3, 1) := by decide +kernel
theorem dX2_demerits_7 : decode cX2_demerits 7 = .ok (.iload_n 3, 1) := by decide +kernel
theorem dX2_demerits_8 : decode cX2_demerits 8 = .ok (.iconst (-1), 1) := by decide +kernel
theorem dX2_demerits_9 : decode cX2_demerits 9 = .ok (.if_icmp .ne 5, 3) := by decide +kernel
theorem dX2_demerits_12 : decode cX2_demerits 12 = .ok (.iconst (-1), 1) := by decide +kernel
theorem dX2_demerits_13 : decode cX2_demerits 13 = .ok (.ireturn, 1) := by decide +kernel
theorem dX2_demerits_14 : decode cX2_demerits 14 = .ok (.aload_n 0, 1) := by decide +kernel
theorem dX2_demerits_15 : decode cX2_demerits 15 = .ok (.iload_n 2, 1) := by decide +kernel
theorem dX2_demerits_16 : decode cX2_demerits 16 = .ok (.invokevirtual 81, 3) := by decide +kernel
theorem dX2_demerits_19 : decode cX2_demerits 19 = .ok (.ifCond .ne 22, 3) := by decide +kernel
theorem dX2_demerits_22 : decode cX2_demerits 22 = .ok (.aload_n 0, 1) := by decide +kernel
theorem dX2_demerits_23 : decode cX2_demerits 23 = .ok (.getfield 9, 3) := by decide +kernel
theorem dX2_demerits_26 : decode cX2_demerits 26 = .ok (.getfield 94, 3) := by decide +kernel
theorem dX2_demerits_29 : decode cX2_demerits 29 = .ok (.iload_n 2, 1) := by decide +kernel
theorem dX2_demerits_30 : decode cX2_demerits 30 = .ok (.invokestatic 52, 3) := by decide +kernel
theorem dX2_demerits_33 : decode cX2_demerits 33 = .ok (.iconst 2, 1) := by decide +kernel
theorem dX2_demerits_34 : decode cX2_demerits 34 = .ok (.if_icmp .gt 7, 3) := by decide +kernel
theorem dX2_demerits_37 : decode cX2_demerits 37 = .ok (.iconst 1, 1) := by decide +kernel
theorem dX2_demerits_38 : decode cX2_demerits 38 = .ok (.goto 4, 3) := by decide +kernel
theorem dX2_demerits_41 : decode cX2_demerits 41 = .ok (.iconst 0, 1) := by decide +kernel
theorem dX2_demerits_42 : decode cX2_demerits 42 = .ok (.istore 4, 2) := by decide +kernel
theorem dX2_demerits_44 : decode cX2_demerits 44 = .ok (.bipush 10, 2) := by decide +kernel
theorem dX2_demerits_46 : decode cX2_demerits 46 = .ok (.iload_n 3, 1) := by decide +kernel
theorem dX2_demerits_47 : decode cX2_demerits 47 = .ok (.iadd, 1) := by decide +kernel
theorem dX2_demerits_48 : decode cX2_demerits 48 = .ok (.bipush 10, 2) := by decide +kernel
theorem dX2_demerits_50 : decode cX2_demerits 50 = .ok (.iload_n 3, 1) := by decide +kernel
theorem dX2_demerits_51 : decode cX2_demerits 51 = .ok (.iadd, 1) := by decide +kernel
theorem dX2_demerits_52 : decode cX2_demerits 52 = .ok (.imul, 1) := by decide +kernel
theorem dX2_demerits_53 : decode cX2_demerits 53 = .ok (.iload 4, 2) := by decide +kernel
theorem dX2_demerits_55 : decode cX2_demerits 55 = .ok (.ifCond .eq 8, 3) := by decide +kernel
theorem dX2_demerits_58 : decode cX2_demerits 58 = .ok (.bipush 100, 2) := by decide +kernel
theorem dX2_demerits_60 : decode cX2_demerits 60 = .ok (.goto 4, 3) := by decide +kernel
theorem dX2_demerits_63 : decode cX2_demerits 63 = .ok (.iconst 0, 1) := by decide +kernel
theorem dX2_demerits_64 : decode cX2_demerits 64 = .ok (.iadd, 1) := by decide +kernel
theorem dX2_demerits_65 : decode cX2_demerits 65 = .ok (.ireturn, 1) := by decide +kernel
theorem dX3_init_0 : decode cX3_init 0 = .ok (.aload_n 0, 1) := by decide +kernel
theorem dX3_init_1 : decode cX3_init 1 = .ok (.invokespecial 3, 3) := by decide +kernel
theorem dX3_init_4 : decode cX3_init 4 = .ok (.aload_n 0, 1) := by decide +kernel
theorem dX3_init_5 : decode cX3_init 5 = .ok (.iconst 3, 1) := by decide +kernel
theorem dX3_init_6 : decode cX3_init 6 = .ok (.newarray .int, 2) := by decide +kernel
theorem dX3_init_8 : decode cX3_init 8 = .ok (.putfield 11, 3) := by decide +kernel
theorem dX3_init_11 : decode cX3_init 11 = .ok (.aload_n 0, 1) := by decide +kernel
theorem dX3_init_12 : decode cX3_init 12 = .ok (.iconst (-1), 1) := by decide +kernel
theorem dX3_init_13 : decode cX3_init 13 = .ok (.putfield 15, 3) := by decide +kernel
theorem dX3_init_16 : decode cX3_init 16 = .ok (.aload_n 0, 1) := by decide +kernel
theorem dX3_init_17 : decode cX3_init 17 = .ok (.iconst (-1), 1) := by decide +kernel
theorem dX3_init_18 : decode cX3_init 18 = .ok (.putfield 19, 3) := by decide +kernel
theorem dX3_init_21 : decode cX3_init 21 = .ok (.return_, 1) := by decide +kernel
theorem dX3_parse_0 : decode cX3_parse 0 = .ok (.iconst 0, 1) := by decide +kernel
theorem dX3_parse_1 : decode cX3_parse 1 = .ok (.istore_n 2, 1) := by decide +kernel
theorem dX3_parse_2 : decode cX3_parse 2 = .ok (.iconst 0, 1) := by decide +kernel
theorem dX3_parse_3 : decode cX3_parse 3 = .ok (.istore_n 3, 1) := by decide +kernel
theorem dX3_parse_4 : decode cX3_parse 4 = .ok (.iload_n 3, 1) := by decide +kernel
theorem dX3_parse_5 : decode cX3_parse 5 = .ok (.iconst 5, 1) := by decide +kernel
theorem dX3_parse_6 : decode cX3_parse 6 = .ok (.if_icmp .ge 63, 3) := by decide +kernel
theorem dX3_parse_9 : decode cX3_parse 9 = .ok (.aload_n 1, 1) := by decide +kernel
theorem dX3_parse_10 : decode cX3_parse 10 = .ok (.iload_n 2, 1) := by decide +kernel
theorem dX3_parse_11 : decode cX3_parse 11 = .ok (.invokevirtual 22, 3) := by decide +kernel
theorem dX3_parse_14 : decode cX3_parse 14 = .ok (.istore 4, 2) := by decide +kernel
theorem dX3_parse_16 : decode cX3_parse 16 = .ok (.aload_n 0, 1) := by decide +kernel
theorem dX3_parse_17 : decode cX3_parse 17 = .ok (.aload_n 1, 1) := by decide +kernel
theorem dX3_parse_18 : decode cX3_parse 18 = .ok (.iload_n 3, 1) := by decide +kernel
theorem dX3_parse_19 : decode cX3_parse 19 = .ok (.iload_n 2, 1) := by decide +kernel
theorem dX3_parse_20 : decode cX3_parse 20 = .ok (.iload 4, 2) := by decide +kernel
theorem dX3_parse_22 : decode cX3_parse 22 = .ok (.invokevirtual 28, 3) := by decide +kernel
theorem dX3_parse_25 : decode cX3_parse 25 = .ok (.ifCond .ne 5, 3) := by decide +kernel
theorem dX3_parse_28 : decode cX3_parse 28 = .ok (.iload_n 2, 1) := by decide +kernel
theorem dX3_parse_29 : decode cX3_parse 29 = .ok (.ireturn, 1) := by decide +kernel
theorem dX3_parse_30 : decode cX3_parse 30 = .ok (.iload 4, 2) := by decide +kernel
theorem dX3_parse_32 : decode cX3_parse 32 = .ok (.aload_n 1, 1) := by decide +kernel
theorem dX3_parse_33 : decode cX3_parse 33 = .ok (.getfield 32, 3) := by decide +kernel
theorem dX3_parse_36 : decode cX3_parse 36 = .ok (.if_icmp .lt 22, 3) := by decide +kernel
theorem dX3_parse_39 : decode cX3_parse 39 = .ok (.iload_n 3, 1) := by decide +kernel
theorem dX3_parse_40 : decode cX3_parse 40 = .ok (.iconst 1, 1) := by decide +kernel
theorem dX3_parse_41 : decode cX3_parse 41 = .ok (.iadd, 1) := by decide +kernel
theorem dX3_parse_42 : decode cX3_parse 42 = .ok (.aload_n 0, 1) := by decide +kernel
theorem dX3_parse_43 : decode cX3_parse 43 = .ok (.invokevirtual 35, 3) := by decide +kernel
theorem dX3_parse_46 : decode cX3_parse 46 = .ok (.if_icmp .ge 10, 3) := by decide +kernel
theorem dX3_parse_49 : decode cX3_parse 49 = .ok (.aload_n 1, 1) := by decide +kernel
theorem dX3_parse_50 : decode cX3_parse 50 = .ok (.getfield 32, 3) := by decide +kernel
theorem dX3_parse_53 : decode cX3_parse 53 = .ok (.goto 4, 3) := by decide +kernel
theorem dX3_parse_56 : decode cX3_parse 56 = .ok (.iconst (-1), 1) := by decide +kernel
theorem dX3_parse_57 : decode cX3_parse 57 = .ok (.ireturn, 1) := by decide +kernel
theorem dX3_parse_58 : decode cX3_parse 58 = .ok (.iload 4, 2) := by decide +kernel
theorem dX3_parse_60 : decode cX3_parse 60 = .ok (.iconst 1, 1) := by decide +kernel
theorem dX3_parse_61 : decode cX3_parse 61 = .ok (.iadd, 1) := by decide +kernel
theorem dX3_parse_62 : decode cX3_parse 62 = .ok (.istore_n 2, 1) := by decide +kernel
theorem dX3_parse_63 : decode cX3_parse 63 = .ok (.iinc 3 1, 3) := by decide +kernel
theorem dX3_parse_66 : decode cX3_parse 66 = .ok (.goto (-62), 3) := by decide +kernel
theorem dX3_parse_69 : decode cX3_parse 69 = .ok (.iload_n 2, 1) := by decide +kernel
theorem dX3_parse_70 : decode cX3_parse 70 = .ok (.ireturn, 1) := by decide +kernel
theorem dX3_applyTo_0 : decode cX3_applyTo 0 = .ok (.aload_n 0, 1) := by decide +kernel
theorem dX3_applyTo_1 : decode cX3_applyTo 1 = .ok (.getfield 15, 3) := by decide +kernel
theorem dX3_applyTo_4 : decode cX3_applyTo 4 = .ok (.tableswitch 100 0 3 #[32, 45, 58, 71], 32) := by decide +kernel
theorem dX3_applyTo_36 : decode cX3_applyTo 36 = .ok (.aload_n 1, 1) := by decide +kernel
theorem dX3_applyTo_37 : decode cX3_applyTo 37 = .ok (.aload_n 0, 1) := by decide +kernel
theorem dX3_applyTo_38 : decode cX3_applyTo 38 = .ok (.getfield 11, 3) := by decide +kernel
theorem dX3_applyTo_41 : decode cX3_applyTo 41 = .ok (.iconst 0, 1) := by decide +kernel
theorem dX3_applyTo_42 : decode cX3_applyTo 42 = .ok (.iaload, 1) := by decide +kernel
theorem dX3_applyTo_43 : decode cX3_applyTo 43 = .ok (.putfield 39, 3) := by decide +kernel
theorem dX3_applyTo_46 : decode cX3_applyTo 46 = .ok (.goto 58, 3) := by decide +kernel
theorem dX3_applyTo_49 : decode cX3_applyTo 49 = .ok (.aload_n 1, 1) := by decide +kernel
theorem dX3_applyTo_50 : decode cX3_applyTo 50 = .ok (.aload_n 0, 1) := by decide +kernel
theorem dX3_applyTo_51 : decode cX3_applyTo 51 = .ok (.getfield 11, 3) := by decide +kernel
theorem dX3_applyTo_54 : decode cX3_applyTo 54 = .ok (.iconst 0, 1) := by decide +kernel
theorem dX3_applyTo_55 : decode cX3_applyTo 55 = .ok (.iaload, 1) := by decide +kernel
theorem dX3_applyTo_56 : decode cX3_applyTo 56 = .ok (.putfield 44, 3) := by decide +kernel
theorem dX3_applyTo_59 : decode cX3_applyTo 59 = .ok (.goto 45, 3) := by decide +kernel
theorem dX3_applyTo_62 : decode cX3_applyTo 62 = .ok (.aload_n 1, 1) := by decide +kernel
theorem dX3_applyTo_63 : decode cX3_applyTo 63 = .ok (.aload_n 0, 1) := by decide +kernel
theorem dX3_applyTo_64 : decode cX3_applyTo 64 = .ok (.getfield 11, 3) := by decide +kernel
theorem dX3_applyTo_67 : decode cX3_applyTo 67 = .ok (.iconst 0, 1) := by decide +kernel
theorem dX3_applyTo_68 : decode cX3_applyTo 68 = .ok (.iaload, 1) := by decide +kernel
theorem dX3_applyTo_69 : decode cX3_applyTo 69 = .ok (.putfield 47, 3) := by decide +kernel
theorem dX3_applyTo_72 : decode cX3_applyTo 72 = .ok (.goto 32, 3) := by decide +kernel
theorem dX3_applyTo_75 : decode cX3_applyTo 75 = .ok (.aload_n 1, 1) := by decide +kernel
theorem dX3_applyTo_76 : decode cX3_applyTo 76 = .ok (.aload_n 0, 1) := by decide +kernel
theorem dX3_applyTo_77 : decode cX3_applyTo 77 = .ok (.getfield 19, 3) := by decide +kernel
theorem dX3_applyTo_80 : decode cX3_applyTo 80 = .ok (.aload_n 0, 1) := by decide +kernel
theorem dX3_applyTo_81 : decode cX3_applyTo 81 = .ok (.getfield 11, 3) := by decide +kernel
theorem dX3_applyTo_84 : decode cX3_applyTo 84 = .ok (.iconst 0, 1) := by decide +kernel
theorem dX3_applyTo_85 : decode cX3_applyTo 85 = .ok (.iaload, 1) := by decide +kernel
theorem dX3_applyTo_86 : decode cX3_applyTo 86 = .ok (.aload_n 0, 1) := by decide +kernel
theorem dX3_applyTo_87 : decode cX3_applyTo 87 = .ok (.getfield 11, 3) := by decide +kernel
theorem dX3_applyTo_90 : decode cX3_applyTo 90 = .ok (.iconst 1, 1) := by decide +kernel
theorem dX3_applyTo_91 : decode cX3_applyTo 91 = .ok (.iaload, 1) := by decide +kernel
theorem dX3_applyTo_92 : decode cX3_applyTo 92 = .ok (.aload_n 0, 1) := by decide +kernel
theorem dX3_applyTo_93 : decode cX3_applyTo 93 = .ok (.getfield 11, 3) := by decide +kernel
theorem dX3_applyTo_96 : decode cX3_applyTo 96 = .ok (.iconst 2, 1) := by decide +kernel
theorem dX3_applyTo_97 : decode cX3_applyTo 97 = .ok (.iaload, 1) := by decide +kernel
theorem dX3_applyTo_98 : decode cX3_applyTo 98 = .ok (.invokevirtual 50, 3) := by decide +kernel
theorem dX3_applyTo_101 : decode cX3_applyTo 101 = .ok (.goto 3, 3) := by decide +kernel
theorem dX3_applyTo_104 : decode cX3_applyTo 104 = .ok (.return_, 1) := by decide +kernel
theorem dX3_wantedPieces_0 : decode cX3_wantedPieces 0 = .ok (.aload_n 0, 1) := by decide +kernel
theorem dX3_wantedPieces_1 : decode cX3_wantedPieces 1 = .ok (.getfield 15, 3) := by decide +kernel
theorem dX3_wantedPieces_4 : decode cX3_wantedPieces 4 = .ok (.iconst 3, 1) := by decide +kernel
theorem dX3_wantedPieces_5 : decode cX3_wantedPieces 5 = .ok (.if_icmp .ne 7, 3) := by decide +kernel
theorem dX3_wantedPieces_8 : decode cX3_wantedPieces 8 = .ok (.iconst 5, 1) := by decide +kernel
theorem dX3_wantedPieces_9 : decode cX3_wantedPieces 9 = .ok (.goto 4, 3) := by decide +kernel
theorem dX3_wantedPieces_12 : decode cX3_wantedPieces 12 = .ok (.iconst 2, 1) := by decide +kernel
theorem dX3_wantedPieces_13 : decode cX3_wantedPieces 13 = .ok (.ireturn, 1) := by decide +kernel
theorem dX3_takePiece_0 : decode cX3_takePiece 0 = .ok (.iload_n 2, 1) := by decide +kernel
theorem dX3_takePiece_1 : decode cX3_takePiece 1 = .ok (.ifCond .ne 28, 3) := by decide +kernel
theorem dX3_takePiece_4 : decode cX3_takePiece 4 = .ok (.aload_n 0, 1) := by decide +kernel
theorem dX3_takePiece_5 : decode cX3_takePiece 5 = .ok (.aload_n 1, 1) := by decide +kernel
theorem dX3_takePiece_6 : decode cX3_takePiece 6 = .ok (.iload_n 3, 1) := by decide +kernel
theorem dX3_takePiece_7 : decode cX3_takePiece 7 = .ok (.iload 4, 2) := by decide +kernel
theorem dX3_takePiece_9 : decode cX3_takePiece 9 = .ok (.invokestatic 54, 3) := by decide +kernel
theorem dX3_takePiece_12 : decode cX3_takePiece 12 = .ok (.putfield 15, 3) := by decide +kernel
theorem dX3_takePiece_15 : decode cX3_takePiece 15 = .ok (.aload_n 0, 1) := by decide +kernel
theorem dX3_takePiece_16 : decode cX3_takePiece 16 = .ok (.getfield 15, 3) := by decide +kernel
theorem dX3_takePiece_19 : decode cX3_takePiece 19 = .ok (.iconst (-1), 1) := by decide +kernel
theorem dX3_takePiece_20 : decode cX3_takePiece 20 = .ok (.if_icmp .eq 7, 3) := by decide +kernel
theorem dX3_takePiece_23 : decode cX3_takePiece 23 = .ok (.iconst 1, 1) := by decide +kernel
theorem dX3_takePiece_24 : decode cX3_takePiece 24 = .ok (.goto 4, 3) := by decide +kernel
theorem dX3_takePiece_27 : decode cX3_takePiece 27 = .ok (.iconst 0, 1) := by decide +kernel
theorem dX3_takePiece_28 : decode cX3_takePiece 28 = .ok (.ireturn, 1) := by decide +kernel
theorem dX3_takePiece_29 : decode cX3_takePiece 29 = .ok (.iload_n 2, 1) := by decide +kernel
theorem dX3_takePiece_30 : decode cX3_takePiece 30 = .ok (.aload_n 0, 1) := by decide +kernel
theorem dX3_takePiece_31 : decode cX3_takePiece 31 = .ok (.invokevirtual 35, 3) := by decide +kernel
theorem dX3_takePiece_34 : decode cX3_takePiece 34 = .ok (.if_icmp .lt 5, 3) := by decide +kernel
theorem dX3_takePiece_37 : decode cX3_takePiece 37 = .ok (.iconst 0, 1) := by decide +kernel
theorem dX3_takePiece_38 : decode cX3_takePiece 38 = .ok (.ireturn, 1) := by decide +kernel
theorem dX3_takePiece_39 : decode cX3_takePiece 39 = .ok (.aload_n 0, 1) := by decide +kernel
theorem dX3_takePiece_40 : decode cX3_takePiece 40 = .ok (.getfield 15, 3) := by decide +kernel
theorem dX3_takePiece_43 : decode cX3_takePiece 43 = .ok (.iconst 3, 1) := by decide +kernel
theorem dX3_takePiece_44 : decode cX3_takePiece 44 = .ok (.if_icmp .eq 16, 3) := by decide +kernel
theorem dX3_takePiece_47 : decode cX3_takePiece 47 = .ok (.aload_n 0, 1) := by decide +kernel
theorem dX3_takePiece_48 : decode cX3_takePiece 48 = .ok (.iconst 0, 1) := by decide +kernel
theorem dX3_takePiece_49 : decode cX3_takePiece 49 = .ok (.aload_n 1, 1) := by decide +kernel
theorem dX3_takePiece_50 : decode cX3_takePiece 50 = .ok (.iload_n 3, 1) := by decide +kernel
theorem dX3_takePiece_51 : decode cX3_takePiece 51 = .ok (.iload 4, 2) := by decide +kernel
theorem dX3_takePiece_53 : decode cX3_takePiece 53 = .ok (.invokevirtual 58, 3) := by decide +kernel
theorem dX3_takePiece_56 : decode cX3_takePiece 56 = .ok (.invokevirtual 62, 3) := by decide +kernel
theorem dX3_takePiece_59 : decode cX3_takePiece 59 = .ok (.ireturn, 1) := by decide +kernel
theorem dX3_takePiece_60 : decode cX3_takePiece 60 = .ok (.iload_n 2, 1) := by decide +kernel
theorem dX3_takePiece_61 : decode cX3_takePiece 61 = .ok (.iconst 1, 1) := by decide +kernel
theorem dX3_takePiece_62 : decode cX3_takePiece 62 = .ok (.if_icmp .ne 28, 3) := by decide +kernel
theorem dX3_takePiece_65 : decode cX3_takePiece 65 = .ok (.aload_n 0, 1) := by decide +kernel
theorem dX3_takePiece_66 : decode cX3_takePiece 66 = .ok (.aload_n 1, 1) := by decide +kernel
theorem dX3_takePiece_67 : decode cX3_takePiece 67 = .ok (.iload_n 3, 1) := by decide +kernel
theorem dX3_takePiece_68 : decode cX3_takePiece 68 = .ok (.iload 4, 2) := by decide +kernel
theorem dX3_takePiece_70 : decode cX3_takePiece 70 = .ok (.invokestatic 66, 3) := by decide +kernel
theorem dX3_takePiece_73 : decode cX3_takePiece 73 = .ok (.putfield 19, 3) := by decide +kernel
theorem dX3_takePiece_76 : decode cX3_takePiece 76 = .ok (.aload_n 0, 1) := by decide +kernel
theorem dX3_takePiece_77 : decode cX3_takePiece 77 = .ok (.getfield 19, 3) := by decide +kernel
theorem dX3_takePiece_80 : decode cX3_takePiece 80 = .ok (.iconst (-1), 1) := by decide +kernel
theorem dX3_takePiece_81 : decode cX3_takePiece 81 = .ok (.if_icmp .eq 7, 3) := by decide +kernel
theorem dX3_takePiece_84 : decode cX3_takePiece 84 = .ok (.iconst 1, 1) := by decide +kernel
theorem dX3_takePiece_85 : decode cX3_takePiece 85 = .ok (.goto 4, 3) := by decide +kernel
theorem dX3_takePiece_88 : decode cX3_takePiece 88 = .ok (.iconst 0, 1) := by decide +kernel
theorem dX3_takePiece_89 : decode cX3_takePiece 89 = .ok (.ireturn, 1) := by decide +kernel
theorem dX3_takePiece_90 : decode cX3_takePiece 90 = .ok (.aload_n 0, 1) := by decide +kernel
theorem dX3_takePiece_91 : decode cX3_takePiece 91 = .ok (.iload_n 2, 1) := by decide +kernel
theorem dX3_takePiece_92 : decode cX3_takePiece 92 = .ok (.iconst 2, 1) := by decide +kernel
theorem dX3_takePiece_93 : decode cX3_takePiece 93 = .ok (.isub, 1) := by decide +kernel
theorem dX3_takePiece_94 : decode cX3_takePiece 94 = .ok (.aload_n 1, 1) := by decide +kernel
theorem dX3_takePiece_95 : decode cX3_takePiece 95 = .ok (.iload_n 3, 1) := by decide +kernel
theorem dX3_takePiece_96 : decode cX3_takePiece 96 = .ok (.iload 4, 2) := by decide +kernel
theorem dX3_takePiece_98 : decode cX3_takePiece 98 = .ok (.invokevirtual 58, 3) := by decide +kernel
theorem dX3_takePiece_101 : decode cX3_takePiece 101 = .ok (.invokevirtual 62, 3) := by decide +kernel
theorem dX3_takePiece_104 : decode cX3_takePiece 104 = .ok (.ireturn, 1) := by decide +kernel
theorem dX3_takeNumber_0 : decode cX3_takeNumber 0 = .ok (.iload_n 1, 1) := by decide +kernel
theorem dX3_takeNumber_1 : decode cX3_takeNumber 1 = .ok (.ifCond .lt 8, 3) := by decide +kernel
theorem dX3_takeNumber_4 : decode cX3_takeNumber 4 = .ok (.iload_n 1, 1) := by decide +kernel
theorem dX3_takeNumber_5 : decode cX3_takeNumber 5 = .ok (.iconst 3, 1) := by decide +kernel
theorem dX3_takeNumber_6 : decode cX3_takeNumber 6 = .ok (.if_icmp .lt 5, 3) := by decide +kernel
theorem dX3_takeNumber_9 : decode cX3_takeNumber 9 = .ok (.iconst 0, 1) := by decide +kernel
theorem dX3_takeNumber_10 : decode cX3_takeNumber 10 = .ok (.ireturn, 1) := by decide +kernel
theorem dX3_takeNumber_11 : decode cX3_takeNumber 11 = .ok (.iload_n 2, 1) := by decide +kernel
theorem dX3_takeNumber_12 : decode cX3_takeNumber 12 = .ok (.aload_n 0, 1) := by decide +kernel
theorem dX3_takeNumber_13 : decode cX3_takeNumber 13 = .ok (.iload_n 1, 1) := by decide +kernel
theorem dX3_takeNumber_14 : decode cX3_takeNumber 14 = .ok (.invokevirtual 69, 3) := by decide +kernel
theorem dX3_takeNumber_17 : decode cX3_takeNumber 17 = .ok (.if_icmp .lt 11, 3) := by decide +kernel
theorem dX3_takeNumber_20 : decode cX3_takeNumber 20 = .ok (.iload_n 2, 1) := by decide +kernel
theorem dX3_takeNumber_21 : decode cX3_takeNumber 21 = .ok (.aload_n 0, 1) := by decide +kernel
theorem dX3_takeNumber_22 : decode cX3_takeNumber 22 = .ok (.invokevirtual 72, 3) := by decide +kernel
theorem dX3_takeNumber_25 : decode cX3_takeNumber 25 = .ok (.if_icmp .le 5, 3) := by decide +kernel
theorem dX3_takeNumber_28 : decode cX3_takeNumber 28 = .ok (.iconst 0, 1) := by decide +kernel
theorem dX3_takeNumber_29 : decode cX3_takeNumber 29 = .ok (.ireturn, 1) := by decide +kernel
theorem dX3_takeNumber_30 : decode cX3_takeNumber 30 = .ok (.aload_n 0, 1) := by decide +kernel
theorem dX3_takeNumber_31 : decode cX3_takeNumber 31 = .ok (.getfield 11, 3) := by decide +kernel
theorem dX3_takeNumber_34 : decode cX3_takeNumber 34 = .ok (.iload_n 1, 1) := by decide +kernel
theorem dX3_takeNumber_35 : decode cX3_takeNumber 35 = .ok (.iload_n 2, 1) := by decide +kernel
theorem dX3_takeNumber_36 : decode cX3_takeNumber 36 = .ok (.iastore, 1) := by decide +kernel
theorem dX3_takeNumber_37 : decode cX3_takeNumber 37 = .ok (.iconst 1, 1) := by decide +kernel
theorem dX3_takeNumber_38 : decode cX3_takeNumber 38 = .ok (.ireturn, 1) := by decide +kernel
theorem dX3_leastNumber_0 : decode cX3_leastNumber 0 = .ok (.aload_n 0, 1) := by decide +kernel
theorem dX3_leastNumber_1 : decode cX3_leastNumber 1 = .ok (.getfield 15, 3) := by decide +kernel
theorem dX3_leastNumber_4 : decode cX3_leastNumber 4 = .ok (.iconst 3, 1) := by decide +kernel
theorem dX3_leastNumber_5 : decode cX3_leastNumber 5 = .ok (.if_icmp .ne 22, 3) := by decide +kernel
theorem dX3_leastNumber_8 : decode cX3_leastNumber 8 = .ok (.iload_n 1, 1) := by decide +kernel
theorem dX3_leastNumber_9 : decode cX3_leastNumber 9 = .ok (.ifCond .ne 7, 3) := by decide +kernel
theorem dX3_leastNumber_12 : decode cX3_leastNumber 12 = .ok (.iconst 1, 1) := by decide +kernel
theorem dX3_leastNumber_13 : decode cX3_leastNumber 13 = .ok (.goto 13, 3) := by decide +kernel
theorem dX3_leastNumber_16 : decode cX3_leastNumber 16 = .ok (.aload_n 0, 1) := by decide +kernel
theorem dX3_leastNumber_17 : decode cX3_leastNumber 17 = .ok (.getfield 11, 3) := by decide +kernel
theorem dX3_leastNumber_20 : decode cX3_leastNumber 20 = .ok (.iload_n 1, 1) := by decide +kernel
theorem dX3_leastNumber_21 : decode cX3_leastNumber 21 = .ok (.iconst 1, 1) := by decide +kernel
theorem dX3_leastNumber_22 : decode cX3_leastNumber 22 = .ok (.isub, 1) := by decide +kernel
theorem dX3_leastNumber_23 : decode cX3_leastNumber 23 = .ok (.invokestatic 75, 3) := by decide +kernel
theorem dX3_leastNumber_26 : decode cX3_leastNumber 26 = .ok (.ireturn, 1) := by decide +kernel
theorem dX3_leastNumber_27 : decode cX3_leastNumber 27 = .ok (.aload_n 0, 1) := by decide +kernel
theorem dX3_leastNumber_28 : decode cX3_leastNumber 28 = .ok (.getfield 15, 3) := by decide +kernel
theorem dX3_leastNumber_31 : decode cX3_leastNumber 31 = .ok (.ifCond .ne 8, 3) := by decide +kernel
theorem dX3_leastNumber_34 : decode cX3_leastNumber 34 = .ok (.bipush 10, 2) := by decide +kernel
theorem dX3_leastNumber_36 : decode cX3_leastNumber 36 = .ok (.goto 4, 3) := by decide +kernel
theorem dX3_leastNumber_39 : decode cX3_leastNumber 39 = .ok (.iconst 0, 1) := by decide +kernel
theorem dX3_leastNumber_40 : decode cX3_leastNumber 40 = .ok (.ireturn, 1) := by decide +kernel
theorem dX3_greatestNumber_0 : decode cX3_greatestNumber 0 = .ok (.aload_n 0, 1) := by decide +kernel
theorem dX3_greatestNumber_1 : decode cX3_greatestNumber 1 = .ok (.getfield 15, 3) := by decide +kernel
theorem dX3_greatestNumber_4 : decode cX3_greatestNumber 4 = .ok (.tableswitch 38 0 2 #[28, 32, 35], 28) := by decide +kernel
theorem dX3_greatestNumber_32 : decode cX3_greatestNumber 32 = .ok (.sipush 200, 3) := by decide +kernel
theorem dX3_greatestNumber_35 : decode cX3_greatestNumber 35 = .ok (.ireturn, 1) := by decide +kernel
theorem dX3_greatestNumber_36 : decode cX3_greatestNumber 36 = .ok (.bipush 100, 2) := by decide +kernel
theorem dX3_greatestNumber_38 : decode cX3_greatestNumber 38 = .ok (.ireturn, 1) := by decide +kernel
theorem dX3_greatestNumber_39 : decode cX3_greatestNumber 39 = .ok (.bipush 20, 2) := by decide +kernel
theorem dX3_greatestNumber_41 : decode cX3_greatestNumber 41 = .ok (.ireturn, 1) := by decide +kernel
theorem dX3_greatestNumber_42 : decode cX3_greatestNumber 42 = .ok (.bipush 40, 2) := by decide +kernel
theorem dX3_greatestNumber_44 : decode cX3_greatestNumber 44 = .ok (.ireturn, 1) := by decide +kernel
theorem dX3_subjectAt_0 : decode cX3_subjectAt 0 = .ok (.aload_n 0, 1) := by decide +kernel
theorem dX3_subjectAt_1 : decode cX3_subjectAt 1 = .ok (.iload_n 1, 1) := by decide +kernel
theorem dX3_subjectAt_2 : decode cX3_subjectAt 2 = .ok (.iload_n 2, 1) := by decide +kernel
theorem dX3_subjectAt_3 : decode cX3_subjectAt 3 = .ok (.ldc 79, 2) := by decide +kernel
theorem dX3_subjectAt_5 : decode cX3_subjectAt 5 = .ok (.invokevirtual 80, 3) := by decide +kernel
theorem dX3_subjectAt_8 : decode cX3_subjectAt 8 = .ok (.ifCond .eq 5, 3) := by decide +kernel
theorem dX3_subjectAt_11 : decode cX3_subjectAt 11 = .ok (.iconst 0, 1) := by decide +kernel
theorem dX3_subjectAt_12 : decode cX3_subjectAt 12 = .ok (.ireturn, 1) := by decide +kernel
theorem dX3_subjectAt_13 : decode cX3_subjectAt 13 = .ok (.aload_n 0, 1) := by decide +kernel
theorem dX3_subjectAt_14 : decode cX3_subjectAt 14 = .ok (.iload_n 1, 1) := by decide +kernel
theorem dX3_subjectAt_15 : decode cX3_subjectAt 15 = .ok (.iload_n 2, 1) := by decide +kernel
theorem dX3_subjectAt_16 : decode cX3_subjectAt 16 = .ok (.ldc 84, 2) := by decide +kernel
theorem dX3_subjectAt_18 : decode cX3_subjectAt 18 = .ok (.invokevirtual 80, 3) := by decide +kernel
theorem dX3_subjectAt_21 : decode cX3_subjectAt 21 = .ok (.ifCond .eq 5, 3) := by decide +kernel
theorem dX3_subjectAt_24 : decode cX3_subjectAt 24 = .ok (.iconst 1, 1) := by decide +kernel
theorem dX3_subjectAt_25 : decode cX3_subjectAt 25 = .ok (.ireturn, 1) := by decide +kernel
theorem dX3_subjectAt_26 : decode cX3_subjectAt 26 = .ok (.aload_n 0, 1) := by decide +kernel
theorem dX3_subjectAt_27 : decode cX3_subjectAt 27 = .ok (.iload_n 1, 1) := by decide +kernel
theorem dX3_subjectAt_28 : decode cX3_subjectAt 28 = .ok (.iload_n 2, 1) := by decide +kernel
theorem dX3_subjectAt_29 : decode cX3_subjectAt 29 = .ok (.ldc 85, 2) := by decide +kernel
theorem dX3_subjectAt_31 : decode cX3_subjectAt 31 = .ok (.invokevirtual 80, 3) := by decide +kernel
theorem dX3_subjectAt_34 : decode cX3_subjectAt 34 = .ok (.ifCond .eq 5, 3) := by decide +kernel
theorem dX3_subjectAt_37 : decode cX3_subjectAt 37 = .ok (.iconst 2, 1) := by decide +kernel
theorem dX3_subjectAt_38 : decode cX3_subjectAt 38 = .ok (.ireturn, 1) := by decide +kernel
theorem dX3_subjectAt_39 : decode cX3_subjectAt 39 = .ok (.aload_n 0, 1) := by decide +kernel
theorem dX3_subjectAt_40 : decode cX3_subjectAt 40 = .ok (.iload_n 1, 1) := by decide +kernel
theorem dX3_subjectAt_41 : decode cX3_subjectAt 41 = .ok (.iload_n 2, 1) := by decide +kernel
theorem dX3_subjectAt_42 : decode cX3_subjectAt 42 = .ok (.ldc 87, 2) := by decide +kernel
theorem dX3_subjectAt_44 : decode cX3_subjectAt 44 = .ok (.invokevirtual 80, 3) := by decide +kernel
theorem dX3_subjectAt_47 : decode cX3_subjectAt 47 = .ok (.ifCond .eq 7, 3) := by decide +kernel
theorem dX3_subjectAt_50 : decode cX3_subjectAt 50 = .ok (.iconst 3, 1) := by decide +kernel
theorem dX3_subjectAt_51 : decode cX3_subjectAt 51 = .ok (.goto 4, 3) := by decide +kernel
theorem dX3_subjectAt_54 : decode cX3_subjectAt 54 = .ok (.iconst (-1), 1) := by decide +kernel
theorem dX3_subjectAt_55 : decode cX3_subjectAt 55 = .ok (.ireturn, 1) := by decide +kernel
theorem dX3_kindAt_0 : decode cX3_kindAt 0 = .ok (.aload_n 0, 1) := by decide +kernel
theorem dX3_kindAt_1 : decode cX3_kindAt 1 = .ok (.iload_n 1, 1) := by decide +kernel
theorem dX3_kindAt_2 : decode cX3_kindAt 2 = .ok (.iload_n 2, 1) := by decide +kernel
theorem dX3_kindAt_3 : decode cX3_kindAt 3 = .ok (.ldc 89, 2) := by decide +kernel
theorem dX3_kindAt_5 : decode cX3_kindAt 5 = .ok (.invokevirtual 80, 3) := by decide +kernel
theorem dX3_kindAt_8 : decode cX3_kindAt 8 = .ok (.ifCond .eq 5, 3) := by decide +kernel
theorem dX3_kindAt_11 : decode cX3_kindAt 11 = .ok (.iconst 0, 1) := by decide +kernel
theorem dX3_kindAt_12 : decode cX3_kindAt 12 = .ok (.ireturn, 1) := by decide +kernel
theorem dX3_kindAt_13 : decode cX3_kindAt 13 = .ok (.aload_n 0, 1) := by decide +kernel
theorem dX3_kindAt_14 : decode cX3_kindAt 14 = .ok (.iload_n 1, 1) := by decide +kernel
theorem dX3_kindAt_15 : decode cX3_kindAt 15 = .ok (.iload_n 2, 1) := by decide +kernel
theorem dX3_kindAt_16 : decode cX3_kindAt 16 = .ok (.ldc 91, 2) := by decide +kernel
theorem dX3_kindAt_18 : decode cX3_kindAt 18 = .ok (.invokevirtual 80, 3) := by decide +kernel
theorem dX3_kindAt_21 : decode cX3_kindAt 21 = .ok (.ifCond .eq 5, 3) := by decide +kernel
theorem dX3_kindAt_24 : decode cX3_kindAt 24 = .ok (.iconst 1, 1) := by decide +kernel
theorem dX3_kindAt_25 : decode cX3_kindAt 25 = .ok (.ireturn, 1) := by decide +kernel
theorem dX3_kindAt_26 : decode cX3_kindAt 26 = .ok (.aload_n 0, 1) := by decide +kernel
theorem dX3_kindAt_27 : decode cX3_kindAt 27 = .ok (.iload_n 1, 1) := by decide +kernel
theorem dX3_kindAt_28 : decode cX3_kindAt 28 = .ok (.iload_n 2, 1) := by decide +kernel
theorem dX3_kindAt_29 : decode cX3_kindAt 29 = .ok (.ldc 93, 2) := by decide +kernel
theorem dX3_kindAt_31 : decode cX3_kindAt 31 = .ok (.invokevirtual 80, 3) := by decide +kernel
theorem dX3_kindAt_34 : decode cX3_kindAt 34 = .ok (.ifCond .eq 7, 3) := by decide +kernel
theorem dX3_kindAt_37 : decode cX3_kindAt 37 = .ok (.iconst 2, 1) := by decide +kernel
theorem dX3_kindAt_38 : decode cX3_kindAt 38 = .ok (.goto 4, 3) := by decide +kernel
theorem dX3_kindAt_41 : decode cX3_kindAt 41 = .ok (.iconst (-1), 1) := by decide +kernel
theorem dX3_kindAt_42 : decode cX3_kindAt 42 = .ok (.ireturn, 1) := by decide +kernel
theorem dX4_init_0 : decode cX4_init 0 = .ok (.aload_n 0, 1) := by decide +kernel
theorem dX4_init_1 : decode cX4_init 1 = .ok (.invokespecial 3, 3) := by decide +kernel
theorem dX4_init_4 : decode cX4_init 4 = .ok (.aload_n 0, 1) := by decide +kernel
theorem dX4_init_5 : decode cX4_init 5 = .ok (.iconst 0, 1) := by decide +kernel
theorem dX4_init_6 : decode cX4_init 6 = .ok (.putfield 9, 3) := by decide +kernel
theorem dX4_init_9 : decode cX4_init 9 = .ok (.aload_n 0, 1) := by decide +kernel
theorem dX4_init_10 : decode cX4_init 10 = .ok (.bipush 60, 2) := by decide +kernel
theorem dX4_init_12 : decode cX4_init 12 = .ok (.newarray .int, 2) := by decide +kernel
theorem dX4_init_14 : decode cX4_init 14 = .ok (.putfield 15, 3) := by decide +kernel
theorem dX4_init_17 : decode cX4_init 17 = .ok (.aload_n 0, 1) := by decide +kernel
theorem dX4_init_18 : decode cX4_init 18 = .ok (.bipush 60, 2) := by decide +kernel
theorem dX4_init_20 : decode cX4_init 20 = .ok (.newarray .int, 2) := by decide +kernel
theorem dX4_init_22 : decode cX4_init 22 = .ok (.putfield 19, 3) := by decide +kernel
theorem dX4_init_25 : decode cX4_init 25 = .ok (.aload_n 0, 1) := by decide +kernel
theorem dX4_init_26 : decode cX4_init 26 = .ok (.bipush 60, 2) := by decide +kernel
theorem dX4_init_28 : decode cX4_init 28 = .ok (.newarray .int, 2) := by decide +kernel
theorem dX4_init_30 : decode cX4_init 30 = .ok (.putfield 22, 3) := by decide +kernel
theorem dX4_init_33 : decode cX4_init 33 = .ok (.aload_n 0, 1) := by decide +kernel
theorem dX4_init_34 : decode cX4_init 34 = .ok (.bipush 60, 2) := by decide +kernel
theorem dX4_init_36 : decode cX4_init 36 = .ok (.newarray .int, 2) := by decide +kernel
theorem dX4_init_38 : decode cX4_init 38 = .ok (.putfield 25, 3) := by decide +kernel
theorem dX4_init_41 : decode cX4_init 41 = .ok (.aload_n 0, 1) := by decide +kernel
theorem dX4_init_42 : decode cX4_init 42 = .ok (.bipush 60, 2) := by decide +kernel
theorem dX4_init_44 : decode cX4_init 44 = .ok (.newarray .int, 2) := by decide +kernel
theorem dX4_init_46 : decode cX4_init 46 = .ok (.putfield 28, 3) := by decide +kernel
theorem dX4_init_49 : decode cX4_init 49 = .ok (.return_, 1) := by decide +kernel
theorem dX4_hasWord_0 : decode cX4_hasWord 0 = .ok (.iload_n 1, 1) := by decide +kernel
theorem dX4_hasWord_1 : decode cX4_hasWord 1 = .ok (.ifCond .lt 15, 3) := by decide +kernel
theorem dX4_hasWord_4 : decode cX4_hasWord 4 = .ok (.iload_n 1, 1) := by decide +kernel
theorem dX4_hasWord_5 : decode cX4_hasWord 5 = .ok (.aload_n 0, 1) := by decide +kernel
theorem dX4_hasWord_6 : decode cX4_hasWord 6 = .ok (.getfield 9, 3) := by decide +kernel
theorem dX4_hasWord_9 : decode cX4_hasWord 9 = .ok (.if_icmp .ge 7, 3) := by decide +kernel
theorem dX4_hasWord_12 : decode cX4_hasWord 12 = .ok (.iconst 1, 1) := by decide +kernel
theorem dX4_hasWord_13 : decode cX4_hasWord 13 = .ok (.goto 4, 3) := by decide +kernel
theorem dX4_hasWord_16 : decode cX4_hasWord 16 = .ok (.iconst 0, 1) := by decide +kernel
theorem dX4_hasWord_17 : decode cX4_hasWord 17 = .ok (.ireturn, 1) := by decide +kernel
theorem dX4_take_0 : decode cX4_take 0 = .ok (.aload_n 0, 1) := by decide +kernel
theorem dX4_take_1 : decode cX4_take 1 = .ok (.iconst 0, 1) := by decide +kernel
theorem dX4_take_2 : decode cX4_take 2 = .ok (.putfield 9, 3) := by decide +kernel
theorem dX4_take_5 : decode cX4_take 5 = .ok (.iconst 0, 1) := by decide +kernel
theorem dX4_take_6 : decode cX4_take 6 = .ok (.istore_n 2, 1) := by decide +kernel
theorem dX4_take_7 : decode cX4_take 7 = .ok (.iconst 0, 1) := by decide +kernel
theorem dX4_take_8 : decode cX4_take 8 = .ok (.istore_n 3, 1) := by decide +kernel
theorem dX4_take_9 : decode cX4_take 9 = .ok (.iload_n 3, 1) := by decide +kernel
theorem dX4_take_10 : decode cX4_take 10 = .ok (.aload_n 1, 1) := by decide +kernel
theorem dX4_take_11 : decode cX4_take 11 = .ok (.getfield 31, 3) := by decide +kernel
theorem dX4_take_14 : decode cX4_take 14 = .ok (.if_icmp .ge 68, 3) := by decide +kernel
theorem dX4_take_17 : decode cX4_take 17 = .ok (.aload_n 1, 1) := by decide +kernel
theorem dX4_take_18 : decode cX4_take 18 = .ok (.getfield 36, 3) := by decide +kernel
theorem dX4_take_21 : decode cX4_take 21 = .ok (.iload_n 3, 1) := by decide +kernel
theorem dX4_take_22 : decode cX4_take 22 = .ok (.caload, 1) := by decide +kernel
theorem dX4_take_23 : decode cX4_take 23 = .ok (.istore 4, 2) := by decide +kernel
theorem dX4_take_25 : decode cX4_take 25 = .ok (.iload 4, 2) := by decide +kernel
theorem dX4_take_27 : decode cX4_take 27 = .ok (.bipush 32, 2) := by decide +kernel
theorem dX4_take_29 : decode cX4_take 29 = .ok (.if_icmp .ne 7, 3) := by decide +kernel
theorem dX4_take_32 : decode cX4_take 32 = .ok (.iconst 1, 1) := by decide +kernel
theorem dX4_take_33 : decode cX4_take 33 = .ok (.goto 4, 3) := by decide +kernel
theorem dX4_take_36 : decode cX4_take 36 = .ok (.iconst 0, 1) := by decide +kernel
theorem dX4_take_37 : decode cX4_take 37 = .ok (.istore 5, 2) := by decide +kernel
theorem dX4_take_39 : decode cX4_take 39 = .ok (.iload 5, 2) := by decide +kernel
theorem dX4_take_41 : decode cX4_take 41 = .ok (.ifCond .ne 13, 3) := by decide +kernel
theorem dX4_take_44 : decode cX4_take 44 = .ok (.iload_n 2, 1) := by decide +kernel
theorem dX4_take_45 : decode cX4_take 45 = .ok (.ifCond .ne 9, 3) := by decide +kernel
theorem dX4_take_48 : decode cX4_take 48 = .ok (.aload_n 0, 1) := by decide +kernel
theorem dX4_take_49 : decode cX4_take 49 = .ok (.iload 4, 2) := by decide +kernel
theorem dX4_take_51 : decode cX4_take 51 = .ok (.invokevirtual 40, 3) := by decide +kernel
theorem dX4_take_54 : decode cX4_take 54 = .ok (.iload 5, 2) := by decide +kernel
theorem dX4_take_56 : decode cX4_take 56 = .ok (.ifCond .ne 9, 3) := by decide +kernel
theorem dX4_take_59 : decode cX4_take 59 = .ok (.aload_n 0, 1) := by decide +kernel
theorem dX4_take_60 : decode cX4_take 60 = .ok (.iload 4, 2) := by decide +kernel
theorem dX4_take_62 : decode cX4_take 62 = .ok (.invokevirtual 44, 3) := by decide +kernel
theorem dX4_take_65 : decode cX4_take 65 = .ok (.iload 5, 2) := by decide +kernel
theorem dX4_take_67 : decode cX4_take 67 = .ok (.ifCond .ne 7, 3) := by decide +kernel
theorem dX4_take_70 : decode cX4_take 70 = .ok (.iconst 1, 1) := by decide +kernel
theorem dX4_take_71 : decode cX4_take 71 = .ok (.goto 4, 3) := by decide +kernel
theorem dX4_take_74 : decode cX4_take 74 = .ok (.iconst 0, 1) := by decide +kernel
theorem dX4_take_75 : decode cX4_take 75 = .ok (.istore_n 2, 1) := by decide +kernel
theorem dX4_take_76 : decode cX4_take 76 = .ok (.iinc 3 1, 3) := by decide +kernel
theorem dX4_take_79 : decode cX4_take 79 = .ok (.goto (-70), 3) := by decide +kernel
theorem dX4_take_82 : decode cX4_take 82 = .ok (.return_, 1) := by decide +kernel
theorem dX4_openWord_0 : decode cX4_openWord 0 = .ok (.aload_n 0, 1) := by decide +kernel
theorem dX4_openWord_1 : decode cX4_openWord 1 = .ok (.getfield 9, 3) := by decide +kernel
theorem dX4_openWord_4 : decode cX4_openWord 4 = .ok (.bipush 60, 2) := by decide +kernel
theorem dX4_openWord_6 : decode cX4_openWord 6 = .ok (.if_icmp .lt 4, 3) := by decide +kernel
theorem dX4_openWord_9 : decode cX4_openWord 9 = .ok (.return_, 1) := by decide +kernel
theorem dX4_openWord_10 : decode cX4_openWord 10 = .ok (.aload_n 0, 1) := by decide +kernel
theorem dX4_openWord_11 : decode cX4_openWord 11 = .ok (.getfield 15, 3) := by decide +kernel
theorem dX4_openWord_14 : decode cX4_openWord 14 = .ok (.aload_n 0, 1) := by decide +kernel
theorem dX4_openWord_15 : decode cX4_openWord 15 = .ok (.getfield 9, 3) := by decide +kernel
theorem dX4_openWord_18 : decode cX4_openWord 18 = .ok (.iconst 0, 1) := by decide +kernel
theorem dX4_openWord_19 : decode cX4_openWord 19 = .ok (.iastore, 1) := by decide +kernel
theorem dX4_openWord_20 : decode cX4_openWord 20 = .ok (.aload_n 0, 1) := by decide +kernel
theorem dX4_openWord_21 : decode cX4_openWord 21 = .ok (.getfield 19, 3) := by decide +kernel
theorem dX4_openWord_24 : decode cX4_openWord 24 = .ok (.aload_n 0, 1) := by decide +kernel
theorem dX4_openWord_25 : decode cX4_openWord 25 = .ok (.getfield 9, 3) := by decide +kernel
theorem dX4_openWord_28 : decode cX4_openWord 28 = .ok (.iconst 0, 1) := by decide +kernel
theorem dX4_openWord_29 : decode cX4_openWord 29 = .ok (.iastore, 1) := by decide +kernel
theorem dX4_openWord_30 : decode cX4_openWord 30 = .ok (.aload_n 0, 1) := by decide +kernel
theorem dX4_openWord_31 : decode cX4_openWord 31 = .ok (.getfield 25, 3) := by decide +kernel
theorem dX4_openWord_34 : decode cX4_openWord 34 = .ok (.aload_n 0, 1) := by decide +kernel
theorem dX4_openWord_35 : decode cX4_openWord 35 = .ok (.getfield 9, 3) := by decide +kernel
theorem dX4_openWord_38 : decode cX4_openWord 38 = .ok (.iload_n 1, 1) := by decide +kernel
theorem dX4_openWord_39 : decode cX4_openWord 39 = .ok (.invokestatic 47, 3) := by decide +kernel
theorem dX4_openWord_42 : decode cX4_openWord 42 = .ok (.ifCond .eq 10, 3) := by decide +kernel
theorem dX4_openWord_45 : decode cX4_openWord 45 = .ok (.iload_n 1, 1) := by decide +kernel
theorem dX4_openWord_46 : decode cX4_openWord 46 = .ok (.invokestatic 53, 3) := by decide +kernel
theorem dX4_openWord_49 : decode cX4_openWord 49 = .ok (.goto 4, 3) := by decide +kernel
theorem dX4_openWord_52 : decode cX4_openWord 52 = .ok (.iconst 0, 1) := by decide +kernel
theorem dX4_openWord_53 : decode cX4_openWord 53 = .ok (.iastore, 1) := by decide +kernel
theorem dX4_openWord_54 : decode cX4_openWord 54 = .ok (.aload_n 0, 1) := by decide +kernel
theorem dX4_openWord_55 : decode cX4_openWord 55 = .ok (.dup, 1) := by decide +kernel
theorem dX4_openWord_56 : decode cX4_openWord 56 = .ok (.getfield 9, 3) := by decide +kernel
theorem dX4_openWord_59 : decode cX4_openWord 59 = .ok (.iconst 1, 1) := by decide +kernel
theorem dX4_openWord_60 : decode cX4_openWord 60 = .ok (.iadd, 1) := by decide +kernel
theorem dX4_openWord_61 : decode cX4_openWord 61 = .ok (.putfield 9, 3) := by decide +kernel
theorem dX4_openWord_64 : decode cX4_openWord 64 = .ok (.return_, 1) := by decide +kernel
theorem dX4_lengthenWord_0 : decode cX4_lengthenWord 0 = .ok (.aload_n 0, 1) := by decide +kernel
theorem dX4_lengthenWord_1 : decode cX4_lengthenWord 1 = .ok (.getfield 9, 3) := by decide +kernel
theorem dX4_lengthenWord_4 : decode cX4_lengthenWord 4 = .ok (.iconst 1, 1) := by decide +kernel
theorem dX4_lengthenWord_5 : decode cX4_lengthenWord 5 = .ok (.isub, 1) := by decide +kernel
theorem dX4_lengthenWord_6 : decode cX4_lengthenWord 6 = .ok (.istore_n 2, 1) := by decide +kernel
theorem dX4_lengthenWord_7 : decode cX4_lengthenWord 7 = .ok (.iload_n 2, 1) := by decide +kernel
theorem dX4_lengthenWord_8 : decode cX4_lengthenWord 8 = .ok (.ifCond .ge 4, 3) := by decide +kernel
theorem dX4_lengthenWord_11 : decode cX4_lengthenWord 11 = .ok (.return_, 1) := by decide +kernel
theorem dX4_lengthenWord_12 : decode cX4_lengthenWord 12 = .ok (.iload_n 1, 1) := by decide +kernel
theorem dX4_lengthenWord_13 : decode cX4_lengthenWord 13 = .ok (.invokestatic 53, 3) := by decide +kernel
theorem dX4_lengthenWord_16 : decode cX4_lengthenWord 16 = .ok (.istore_n 3, 1) := by decide +kernel
theorem dX4_lengthenWord_17 : decode cX4_lengthenWord 17 = .ok (.aload_n 0, 1) := by decide +kernel
theorem dX4_lengthenWord_18 : decode cX4_lengthenWord 18 = .ok (.getfield 15, 3) := by decide +kernel
theorem dX4_lengthenWord_21 : decode cX4_lengthenWord 21 = .ok (.iload_n 2, 1) := by decide +kernel
theorem dX4_lengthenWord_22 : decode cX4_lengthenWord 22 = .ok (.dup2, 1) := by decide +kernel
theorem dX4_lengthenWord_23 : decode cX4_lengthenWord 23 = .ok (.iaload, 1) := by decide +kernel
theorem dX4_lengthenWord_24 : decode cX4_lengthenWord 24 = .ok (.iload_n 3, 1) := by decide +kernel
theorem dX4_lengthenWord_25 : decode cX4_lengthenWord 25 = .ok (.iadd, 1) := by decide +kernel
theorem dX4_lengthenWord_26 : decode cX4_lengthenWord 26 = .ok (.iastore, 1) := by decide +kernel
theorem dX4_lengthenWord_27 : decode cX4_lengthenWord 27 = .ok (.aload_n 0, 1) := by decide +kernel
theorem dX4_lengthenWord_28 : decode cX4_lengthenWord 28 = .ok (.getfield 19, 3) := by decide +kernel
theorem dX4_lengthenWord_31 : decode cX4_lengthenWord 31 = .ok (.iload_n 2, 1) := by decide +kernel
theorem dX4_lengthenWord_32 : decode cX4_lengthenWord 32 = .ok (.dup2, 1) := by decide +kernel
theorem dX4_lengthenWord_33 : decode cX4_lengthenWord 33 = .ok (.iaload, 1) := by decide +kernel
theorem dX4_lengthenWord_34 : decode cX4_lengthenWord 34 = .ok (.iconst 1, 1) := by decide +kernel
theorem dX4_lengthenWord_35 : decode cX4_lengthenWord 35 = .ok (.iadd, 1) := by decide +kernel
theorem dX4_lengthenWord_36 : decode cX4_lengthenWord 36 = .ok (.iastore, 1) := by decide +kernel
theorem dX4_lengthenWord_37 : decode cX4_lengthenWord 37 = .ok (.aload_n 0, 1) := by decide +kernel
theorem dX4_lengthenWord_38 : decode cX4_lengthenWord 38 = .ok (.getfield 22, 3) := by decide +kernel
theorem dX4_lengthenWord_41 : decode cX4_lengthenWord 41 = .ok (.iload_n 2, 1) := by decide +kernel
theorem dX4_lengthenWord_42 : decode cX4_lengthenWord 42 = .ok (.iload_n 1, 1) := by decide +kernel
theorem dX4_lengthenWord_43 : decode cX4_lengthenWord 43 = .ok (.invokestatic 57, 3) := by decide +kernel
theorem dX4_lengthenWord_46 : decode cX4_lengthenWord 46 = .ok (.iastore, 1) := by decide +kernel
theorem dX4_lengthenWord_47 : decode cX4_lengthenWord 47 = .ok (.aload_n 0, 1) := by decide +kernel
theorem dX4_lengthenWord_48 : decode cX4_lengthenWord 48 = .ok (.getfield 28, 3) := by decide +kernel
theorem dX4_lengthenWord_51 : decode cX4_lengthenWord 51 = .ok (.iload_n 2, 1) := by decide +kernel
theorem dX4_lengthenWord_52 : decode cX4_lengthenWord 52 = .ok (.iload_n 1, 1) := by decide +kernel
theorem dX4_lengthenWord_53 : decode cX4_lengthenWord 53 = .ok (.invokestatic 60, 3) := by decide +kernel
theorem dX4_lengthenWord_56 : decode cX4_lengthenWord 56 = .ok (.ifCond .eq 7, 3) := by decide +kernel
theorem dX4_lengthenWord_59 : decode cX4_lengthenWord 59 = .ok (.iload_n 3, 1) := by decide +kernel
theorem dX4_lengthenWord_60 : decode cX4_lengthenWord 60 = .ok (.goto 4, 3) := by decide +kernel
theorem dX4_lengthenWord_63 : decode cX4_lengthenWord 63 = .ok (.iconst 0, 1) := by decide +kernel
theorem dX4_lengthenWord_64 : decode cX4_lengthenWord 64 = .ok (.iastore, 1) := by decide +kernel
theorem dX4_lengthenWord_65 : decode cX4_lengthenWord 65 = .ok (.return_, 1) := by decide +kernel
theorem dX5_init_0 : decode cX5_init 0 = .ok (.aload_n 0, 1) := by decide +kernel
theorem dX5_init_1 : decode cX5_init 1 = .ok (.invokespecial 3, 3) := by decide +kernel
theorem dX5_init_4 : decode cX5_init 4 = .ok (.aload_n 0, 1) := by decide +kernel
theorem dX5_init_5 : decode cX5_init 5 = .ok (.iconst 0, 1) := by decide +kernel
theorem dX5_init_6 : decode cX5_init 6 = .ok (.putfield 9, 3) := by decide +kernel
theorem dX5_init_9 : decode cX5_init 9 = .ok (.aload_n 0, 1) := by decide +kernel
theorem dX5_init_10 : decode cX5_init 10 = .ok (.iconst 0, 1) := by decide +kernel
theorem dX5_init_11 : decode cX5_init 11 = .ok (.putfield 15, 3) := by decide +kernel
theorem dX5_init_14 : decode cX5_init 14 = .ok (.aload_n 0, 1) := by decide +kernel
theorem dX5_init_15 : decode cX5_init 15 = .ok (.iconst 0, 1) := by decide +kernel
theorem dX5_init_16 : decode cX5_init 16 = .ok (.putfield 18, 3) := by decide +kernel
theorem dX5_init_19 : decode cX5_init 19 = .ok (.aload_n 0, 1) := by decide +kernel
theorem dX5_init_20 : decode cX5_init 20 = .ok (.bipush 60, 2) := by decide +kernel
theorem dX5_init_22 : decode cX5_init 22 = .ok (.newarray .int, 2) := by decide +kernel
theorem dX5_init_24 : decode cX5_init 24 = .ok (.putfield 21, 3) := by decide +kernel
theorem dX5_init_27 : decode cX5_init 27 = .ok (.aload_n 0, 1) := by decide +kernel
theorem dX5_init_28 : decode cX5_init 28 = .ok (.bipush 60, 2) := by decide +kernel
theorem dX5_init_30 : decode cX5_init 30 = .ok (.newarray .int, 2) := by decide +kernel
theorem dX5_init_32 : decode cX5_init 32 = .ok (.putfield 25, 3) := by decide +kernel
theorem dX5_init_35 : decode cX5_init 35 = .ok (.aload_n 0, 1) := by decide +kernel
theorem dX5_init_36 : decode cX5_init 36 = .ok (.bipush 60, 2) := by decide +kernel
theorem dX5_init_38 : decode cX5_init 38 = .ok (.newarray .int, 2) := by decide +kernel
theorem dX5_init_40 : decode cX5_init 40 = .ok (.putfield 28, 3) := by decide +kernel
theorem dX5_init_43 : decode cX5_init 43 = .ok (.aload_n 0, 1) := by decide +kernel
theorem dX5_init_44 : decode cX5_init 44 = .ok (.bipush 60, 2) := by decide +kernel
theorem dX5_init_46 : decode cX5_init 46 = .ok (.newarray .boolean, 2) := by decide +kernel
theorem dX5_init_48 : decode cX5_init 48 = .ok (.putfield 31, 3) := by decide +kernel
theorem dX5_init_51 : decode cX5_init 51 = .ok (.aload_n 0, 1) := by decide +kernel
theorem dX5_init_52 : decode cX5_init 52 = .ok (.bipush 60, 2) := by decide +kernel
theorem dX5_init_54 : decode cX5_init 54 = .ok (.newarray .int, 2) := by decide +kernel
theorem dX5_init_56 : decode cX5_init 56 = .ok (.putfield 35, 3) := by decide +kernel
theorem dX5_init_59 : decode cX5_init 59 = .ok (.return_, 1) := by decide +kernel
theorem dX5_spaceOf_0 : decode cX5_spaceOf 0 = .ok (.aload_n 0, 1) := by decide +kernel
theorem dX5_spaceOf_1 : decode cX5_spaceOf 1 = .ok (.getfield 35, 3) := by decide +kernel
theorem dX5_spaceOf_4 : decode cX5_spaceOf 4 = .ok (.iload_n 1, 1) := by decide +kernel
theorem dX5_spaceOf_5 : decode cX5_spaceOf 5 = .ok (.invokestatic 38, 3) := by decide +kernel
theorem dX5_spaceOf_8 : decode cX5_spaceOf 8 = .ok (.istore_n 3, 1) := by decide +kernel
theorem dX5_spaceOf_9 : decode cX5_spaceOf 9 = .ok (.iload_n 2, 1) := by decide +kernel
theorem dX5_spaceOf_10 : decode cX5_spaceOf 10 = .ok (.aload_n 0, 1) := by decide +kernel
theorem dX5_spaceOf_11 : decode cX5_spaceOf 11 = .ok (.getfield 21, 3) := by decide +kernel
theorem dX5_spaceOf_14 : decode cX5_spaceOf 14 = .ok (.iload_n 3, 1) := by decide +kernel
theorem dX5_spaceOf_15 : decode cX5_spaceOf 15 = .ok (.invokestatic 38, 3) := by decide +kernel
theorem dX5_spaceOf_18 : decode cX5_spaceOf 18 = .ok (.if_icmp .lt 5, 3) := by decide +kernel
theorem dX5_spaceOf_21 : decode cX5_spaceOf 21 = .ok (.iconst (-1), 1) := by decide +kernel
theorem dX5_spaceOf_22 : decode cX5_spaceOf 22 = .ok (.ireturn, 1) := by decide +kernel
theorem dX5_spaceOf_23 : decode cX5_spaceOf 23 = .ok (.iconst 0, 1) := by decide +kernel
theorem dX5_spaceOf_24 : decode cX5_spaceOf 24 = .ok (.istore 4, 2) := by decide +kernel
theorem dX5_spaceOf_26 : decode cX5_spaceOf 26 = .ok (.iload 4, 2) := by decide +kernel
theorem dX5_spaceOf_28 : decode cX5_spaceOf 28 = .ok (.iload_n 2, 1) := by decide +kernel
theorem dX5_spaceOf_29 : decode cX5_spaceOf 29 = .ok (.if_icmp .ge 23, 3) := by decide +kernel
theorem dX5_spaceOf_32 : decode cX5_spaceOf 32 = .ok (.iload_n 3, 1) := by decide +kernel
theorem dX5_spaceOf_33 : decode cX5_spaceOf 33 = .ok (.iconst (-1), 1) := by decide +kernel
theorem dX5_spaceOf_34 : decode cX5_spaceOf 34 = .ok (.if_icmp .eq 18, 3) := by decide +kernel
theorem dX5_spaceOf_37 : decode cX5_spaceOf 37 = .ok (.aload_n 0, 1) := by decide +kernel
theorem dX5_spaceOf_38 : decode cX5_spaceOf 38 = .ok (.getfield 28, 3) := by decide +kernel
theorem dX5_spaceOf_41 : decode cX5_spaceOf 41 = .ok (.iload_n 3, 1) := by decide +kernel
theorem dX5_spaceOf_42 : decode cX5_spaceOf 42 = .ok (.invokestatic 38, 3) := by decide +kernel
theorem dX5_spaceOf_45 : decode cX5_spaceOf 45 = .ok (.istore_n 3, 1) := by decide +kernel
theorem dX5_spaceOf_46 : decode cX5_spaceOf 46 = .ok (.iinc 4 1, 3) := by decide +kernel
theorem dX5_spaceOf_49 : decode cX5_spaceOf 49 = .ok (.goto (-23), 3) := by decide +kernel
theorem dX5_spaceOf_52 : decode cX5_spaceOf 52 = .ok (.iload_n 3, 1) := by decide +kernel
theorem dX5_spaceOf_53 : decode cX5_spaceOf 53 = .ok (.ireturn, 1) := by decide +kernel
theorem dX5_find_0 : decode cX5_find 0 = .ok (.aload_n 0, 1) := by decide +kernel
theorem dX5_find_1 : decode cX5_find 1 = .ok (.iconst 0, 1) := by decide +kernel
theorem dX5_find_2 : decode cX5_find 2 = .ok (.putfield 9, 3) := by decide +kernel
theorem dX5_find_5 : decode cX5_find 5 = .ok (.aload_n 0, 1) := by decide +kernel
theorem dX5_find_6 : decode cX5_find 6 = .ok (.iconst 0, 1) := by decide +kernel
theorem dX5_find_7 : decode cX5_find 7 = .ok (.putfield 15, 3) := by decide +kernel
theorem dX5_find_10 : decode cX5_find 10 = .ok (.aload_n 0, 1) := by decide +kernel
theorem dX5_find_11 : decode cX5_find 11 = .ok (.iconst 0, 1) := by decide +kernel
theorem dX5_find_12 : decode cX5_find 12 = .ok (.putfield 18, 3) := by decide +kernel
theorem dX5_find_15 : decode cX5_find 15 = .ok (.aload_n 1, 1) := by decide +kernel
theorem dX5_find_16 : decode cX5_find 16 = .ok (.getfield 42, 3) := by decide +kernel
theorem dX5_find_19 : decode cX5_find 19 = .ok (.ifCond .ne 4, 3) := by decide +kernel
theorem dX5_find_22 : decode cX5_find 22 = .ok (.return_, 1) := by decide +kernel
theorem dX5_find_23 : decode cX5_find 23 = .ok (.iconst 0, 1) := by decide +kernel
theorem dX5_find_24 : decode cX5_find 24 = .ok (.istore 4, 2) := by decide +kernel
theorem dX5_find_26 : decode cX5_find 26 = .ok (.iload 4, 2) := by decide +kernel
theorem dX5_find_28 : decode cX5_find 28 = .ok (.iload_n 2, 1) := by decide +kernel
theorem dX5_find_29 : decode cX5_find 29 = .ok (.iconst 1, 1) := by decide +kernel
theorem dX5_find_30 : decode cX5_find 30 = .ok (.isub, 1) := by decide +kernel
theorem dX5_find_31 : decode cX5_find 31 = .ok (.if_icmp .ge 124, 3) := by decide +kernel
theorem dX5_find_34 : decode cX5_find 34 = .ok (.aload_n 0, 1) := by decide +kernel
theorem dX5_find_35 : decode cX5_find 35 = .ok (.getfield 25, 3) := by decide +kernel
theorem dX5_find_38 : decode cX5_find 38 = .ok (.iload 4, 2) := by decide +kernel
theorem dX5_find_40 : decode cX5_find 40 = .ok (.iconst 2, 1) := by decide +kernel
theorem dX5_find_41 : decode cX5_find 41 = .ok (.aload_n 1, 1) := by decide +kernel
theorem dX5_find_42 : decode cX5_find 42 = .ok (.iload 4, 2) := by decide +kernel
theorem dX5_find_44 : decode cX5_find 44 = .ok (.invokevirtual 47, 3) := by decide +kernel
theorem dX5_find_47 : decode cX5_find 47 = .ok (.imul, 1) := by decide +kernel
theorem dX5_find_48 : decode cX5_find 48 = .ok (.aload_n 1, 1) := by decide +kernel
theorem dX5_find_49 : decode cX5_find 49 = .ok (.getfield 51, 3) := by decide +kernel
theorem dX5_find_52 : decode cX5_find 52 = .ok (.iload 4, 2) := by decide +kernel
theorem dX5_find_54 : decode cX5_find 54 = .ok (.iaload, 1) := by decide +kernel
theorem dX5_find_55 : decode cX5_find 55 = .ok (.iadd, 1) := by decide +kernel
theorem dX5_find_56 : decode cX5_find 56 = .ok (.iastore, 1) := by decide +kernel
theorem dX5_find_57 : decode cX5_find 57 = .ok (.aload_n 0, 1) := by decide +kernel
theorem dX5_find_58 : decode cX5_find 58 = .ok (.getfield 31, 3) := by decide +kernel
theorem dX5_find_61 : decode cX5_find 61 = .ok (.iload 4, 2) := by decide +kernel
theorem dX5_find_63 : decode cX5_find 63 = .ok (.iconst 0, 1) := by decide +kernel
theorem dX5_find_64 : decode cX5_find 64 = .ok (.bastore, 1) := by decide +kernel
theorem dX5_find_65 : decode cX5_find 65 = .ok (.aload_n 1, 1) := by decide +kernel
theorem dX5_find_66 : decode cX5_find 66 = .ok (.getfield 54, 3) := by decide +kernel
theorem dX5_find_69 : decode cX5_find 69 = .ok (.iload 4, 2) := by decide +kernel
theorem dX5_find_71 : decode cX5_find 71 = .ok (.iaload, 1) := by decide +kernel
theorem dX5_find_72 : decode cX5_find 72 = .ok (.iconst (-1), 1) := by decide +kernel
theorem dX5_find_73 : decode cX5_find 73 = .ok (.if_icmp .eq 76, 3) := by decide +kernel
theorem dX5_find_76 : decode cX5_find 76 = .ok (.aload_n 0, 1) := by decide +kernel
theorem dX5_find_77 : decode cX5_find 77 = .ok (.getfield 28, 3) := by decide +kernel
theorem dX5_find_80 : decode cX5_find 80 = .ok (.iload 4, 2) := by decide +kernel
theorem dX5_find_82 : decode cX5_find 82 = .ok (.aload_n 0, 1) := by decide +kernel
theorem dX5_find_83 : decode cX5_find 83 = .ok (.aload_n 1, 1) := by decide +kernel
theorem dX5_find_84 : decode cX5_find 84 = .ok (.iload 4, 2) := by decide +kernel
theorem dX5_find_86 : decode cX5_find 86 = .ok (.iconst 2, 1) := by decide +kernel
theorem dX5_find_87 : decode cX5_find 87 = .ok (.iload_n 3, 1) := by decide +kernel
theorem dX5_find_88 : decode cX5_find 88 = .ok (.imul, 1) := by decide +kernel
theorem dX5_find_89 : decode cX5_find 89 = .ok (.invokevirtual 57, 3) := by decide +kernel
theorem dX5_find_92 : decode cX5_find 92 = .ok (.iastore, 1) := by decide +kernel
theorem dX5_find_93 : decode cX5_find 93 = .ok (.aload_n 0, 1) := by decide +kernel
theorem dX5_find_94 : decode cX5_find 94 = .ok (.getfield 21, 3) := by decide +kernel
theorem dX5_find_97 : decode cX5_find 97 = .ok (.iload 4, 2) := by decide +kernel
theorem dX5_find_99 : decode cX5_find 99 = .ok (.aload_n 0, 1) := by decide +kernel
theorem dX5_find_100 : decode cX5_find 100 = .ok (.getfield 28, 3) := by decide +kernel
theorem dX5_find_103 : decode cX5_find 103 = .ok (.iload 4, 2) := by decide +kernel
theorem dX5_find_105 : decode cX5_find 105 = .ok (.iaload, 1) := by decide +kernel
theorem dX5_find_106 : decode cX5_find 106 = .ok (.iconst (-1), 1) := by decide +kernel
theorem dX5_find_107 : decode cX5_find 107 = .ok (.if_icmp .ne 7, 3) := by decide +kernel
theorem dX5_find_110 : decode cX5_find 110 = .ok (.iconst 1, 1) := by decide +kernel
theorem dX5_find_111 : decode cX5_find 111 = .ok (.goto 19, 3) := by decide +kernel
theorem dX5_find_114 : decode cX5_find 114 = .ok (.aload_n 0, 1) := by decide +kernel
theorem dX5_find_115 : decode cX5_find 115 = .ok (.getfield 21, 3) := by decide +kernel
theorem dX5_find_118 : decode cX5_find 118 = .ok (.aload_n 0, 1) := by decide +kernel
theorem dX5_find_119 : decode cX5_find 119 = .ok (.getfield 28, 3) := by decide +kernel
theorem dX5_find_122 : decode cX5_find 122 = .ok (.iload 4, 2) := by decide +kernel
theorem dX5_find_124 : decode cX5_find 124 = .ok (.iaload, 1) := by decide +kernel
theorem dX5_find_125 : decode cX5_find 125 = .ok (.invokestatic 38, 3) := by decide +kernel
theorem dX5_find_128 : decode cX5_find 128 = .ok (.iconst 1, 1) := by decide +kernel
theorem dX5_find_129 : decode cX5_find 129 = .ok (.iadd, 1) := by decide +kernel
theorem dX5_find_130 : decode cX5_find 130 = .ok (.iastore, 1) := by decide +kernel
theorem dX5_find_131 : decode cX5_find 131 = .ok (.aload_n 0, 1) := by decide +kernel
theorem dX5_find_132 : decode cX5_find 132 = .ok (.aload_n 0, 1) := by decide +kernel
theorem dX5_find_133 : decode cX5_find 133 = .ok (.getfield 18, 3) := by decide +kernel
theorem dX5_find_136 : decode cX5_find 136 = .ok (.aload_n 0, 1) := by decide +kernel
theorem dX5_find_137 : decode cX5_find 137 = .ok (.getfield 21, 3) := by decide +kernel
theorem dX5_find_140 : decode cX5_find 140 = .ok (.iload 4, 2) := by decide +kernel
theorem dX5_find_142 : decode cX5_find 142 = .ok (.iaload, 1) := by decide +kernel
theorem dX5_find_143 : decode cX5_find 143 = .ok (.invokestatic 61, 3) := by decide +kernel
theorem dX5_find_146 : decode cX5_find 146 = .ok (.putfield 18, 3) := by decide +kernel
theorem dX5_find_149 : decode cX5_find 149 = .ok (.iinc 4 1, 3) := by decide +kernel
theorem dX5_find_152 : decode cX5_find 152 = .ok (.goto (-126), 3) := by decide +kernel
theorem dX5_find_155 : decode cX5_find 155 = .ok (.aload_n 0, 1) := by decide +kernel
theorem dX5_find_156 : decode cX5_find 156 = .ok (.aload_n 1, 1) := by decide +kernel
theorem dX5_find_157 : decode cX5_find 157 = .ok (.iload_n 2, 1) := by decide +kernel
theorem dX5_find_158 : decode cX5_find 158 = .ok (.invokevirtual 67, 3) := by decide +kernel
theorem dX5_find_161 : decode cX5_find 161 = .ok (.return_, 1) := by decide +kernel
theorem dX5_spaceAbove_0 : decode cX5_spaceAbove 0 = .ok (.aload_n 1, 1) := by decide +kernel
theorem dX5_spaceAbove_1 : decode cX5_spaceAbove 1 = .ok (.getfield 71, 3) := by decide +kernel
theorem dX5_spaceAbove_4 : decode cX5_spaceAbove 4 = .ok (.iload_n 2, 1) := by decide +kernel
theorem dX5_spaceAbove_5 : decode cX5_spaceAbove 5 = .ok (.invokestatic 38, 3) := by decide +kernel
theorem dX5_spaceAbove_8 : decode cX5_spaceAbove 8 = .ok (.iconst 1, 1) := by decide +kernel
theorem dX5_spaceAbove_9 : decode cX5_spaceAbove 9 = .ok (.isub, 1) := by decide +kernel
theorem dX5_spaceAbove_10 : decode cX5_spaceAbove 10 = .ok (.istore 4, 2) := by decide +kernel
theorem dX5_spaceAbove_12 : decode cX5_spaceAbove 12 = .ok (.iload 4, 2) := by decide +kernel
theorem dX5_spaceAbove_14 : decode cX5_spaceAbove 14 = .ok (.ifCond .ge 5, 3) := by decide +kernel
theorem dX5_spaceAbove_17 : decode cX5_spaceAbove 17 = .ok (.iconst (-1), 1) := by decide +kernel
theorem dX5_spaceAbove_18 : decode cX5_spaceAbove 18 = .ok (.ireturn, 1) := by decide +kernel
theorem dX5_spaceAbove_19 : decode cX5_spaceAbove 19 = .ok (.aload_n 0, 1) := by decide +kernel
theorem dX5_spaceAbove_20 : decode cX5_spaceAbove 20 = .ok (.getfield 25, 3) := by decide +kernel
theorem dX5_spaceAbove_23 : decode cX5_spaceAbove 23 = .ok (.iload_n 2, 1) := by decide +kernel
theorem dX5_spaceAbove_24 : decode cX5_spaceAbove 24 = .ok (.invokestatic 38, 3) := by decide +kernel
theorem dX5_spaceAbove_27 : decode cX5_spaceAbove 27 = .ok (.istore 5, 2) := by decide +kernel
theorem dX5_spaceAbove_29 : decode cX5_spaceAbove 29 = .ok (.iconst (-1), 1) := by decide +kernel
theorem dX5_spaceAbove_30 : decode cX5_spaceAbove 30 = .ok (.istore 6, 2) := by decide +kernel
theorem dX5_spaceAbove_32 : decode cX5_spaceAbove 32 = .ok (.iload_n 2, 1) := by decide +kernel
theorem dX5_spaceAbove_33 : decode cX5_spaceAbove 33 = .ok (.bipush 60, 2) := by decide +kernel
theorem dX5_spaceAbove_35 : decode cX5_spaceAbove 35 = .ok (.invokestatic 74, 3) := by decide +kernel
theorem dX5_spaceAbove_38 : decode cX5_spaceAbove 38 = .ok (.iconst 1, 1) := by decide +kernel
theorem dX5_spaceAbove_39 : decode cX5_spaceAbove 39 = .ok (.isub, 1) := by decide +kernel
theorem dX5_spaceAbove_40 : decode cX5_spaceAbove 40 = .ok (.istore 7, 2) := by decide +kernel
theorem dX5_spaceAbove_42 : decode cX5_spaceAbove 42 = .ok (.iload 7, 2) := by decide +kernel
theorem dX5_spaceAbove_44 : decode cX5_spaceAbove 44 = .ok (.ifCond .lt 102, 3) := by decide +kernel
theorem dX5_spaceAbove_47 : decode cX5_spaceAbove 47 = .ok (.aload_n 1, 1) := by decide +kernel
theorem dX5_spaceAbove_48 : decode cX5_spaceAbove 48 = .ok (.getfield 71, 3) := by decide +kernel
theorem dX5_spaceAbove_51 : decode cX5_spaceAbove 51 = .ok (.iload 7, 2) := by decide +kernel
theorem dX5_spaceAbove_53 : decode cX5_spaceAbove 53 = .ok (.iaload, 1) := by decide +kernel
theorem dX5_spaceAbove_54 : decode cX5_spaceAbove 54 = .ok (.iload 4, 2) := by decide +kernel
theorem dX5_spaceAbove_56 : decode cX5_spaceAbove 56 = .ok (.if_icmp .lt 90, 3) := by decide +kernel
theorem dX5_spaceAbove_59 : decode cX5_spaceAbove 59 = .ok (.aload_n 0, 1) := by decide +kernel
theorem dX5_spaceAbove_60 : decode cX5_spaceAbove 60 = .ok (.getfield 25, 3) := by decide +kernel
theorem dX5_spaceAbove_63 : decode cX5_spaceAbove 63 = .ok (.iload 7, 2) := by decide +kernel
theorem dX5_spaceAbove_65 : decode cX5_spaceAbove 65 = .ok (.iaload, 1) := by decide +kernel
theorem dX5_spaceAbove_66 : decode cX5_spaceAbove 66 = .ok (.iload 5, 2) := by decide +kernel
theorem dX5_spaceAbove_68 : decode cX5_spaceAbove 68 = .ok (.isub, 1) := by decide +kernel
theorem dX5_spaceAbove_69 : decode cX5_spaceAbove 69 = .ok (.invokestatic 77, 3) := by decide +kernel
theorem dX5_spaceAbove_72 : decode cX5_spaceAbove 72 = .ok (.iload_n 3, 1) := by decide +kernel
theorem dX5_spaceAbove_73 : decode cX5_spaceAbove 73 = .ok (.if_icmp .gt 7, 3) := by decide +kernel
theorem dX5_spaceAbove_76 : decode cX5_spaceAbove 76 = .ok (.iconst 1, 1) := by decide +kernel
theorem dX5_spaceAbove_77 : decode cX5_spaceAbove 77 = .ok (.goto 4, 3) := by decide +kernel
theorem dX5_spaceAbove_80 : decode cX5_spaceAbove 80 = .ok (.iconst 0, 1) := by decide +kernel
theorem dX5_spaceAbove_81 : decode cX5_spaceAbove 81 = .ok (.istore 8, 2) := by decide +kernel
theorem dX5_spaceAbove_83 : decode cX5_spaceAbove 83 = .ok (.iload 8, 2) := by decide +kernel
theorem dX5_spaceAbove_85 : decode cX5_spaceAbove 85 = .ok (.ifCond .eq 55, 3) := by decide +kernel
theorem dX5_spaceAbove_88 : decode cX5_spaceAbove 88 = .ok (.aload_n 1, 1) := by decide +kernel
theorem dX5_spaceAbove_89 : decode cX5_spaceAbove 89 = .ok (.getfield 54, 3) := by decide +kernel
theorem dX5_spaceAbove_92 : decode cX5_spaceAbove 92 = .ok (.iload 7, 2) := by decide +kernel
theorem dX5_spaceAbove_94 : decode cX5_spaceAbove 94 = .ok (.iaload, 1) := by decide +kernel
theorem dX5_spaceAbove_95 : decode cX5_spaceAbove 95 = .ok (.iload 4, 2) := by decide +kernel
theorem dX5_spaceAbove_97 : decode cX5_spaceAbove 97 = .ok (.if_icmp .eq 6, 3) := by decide +kernel
theorem dX5_spaceAbove_100 : decode cX5_spaceAbove 100 = .ok (.goto 40, 3) := by decide +kernel
theorem dX5_spaceAbove_103 : decode cX5_spaceAbove 103 = .ok (.aload_n 0, 1) := by decide +kernel
theorem dX5_spaceAbove_104 : decode cX5_spaceAbove 104 = .ok (.getfield 31, 3) := by decide +kernel
theorem dX5_spaceAbove_107 : decode cX5_spaceAbove 107 = .ok (.iload 7, 2) := by decide +kernel
theorem dX5_spaceAbove_109 : decode cX5_spaceAbove 109 = .ok (.iconst 1, 1) := by decide +kernel
theorem dX5_spaceAbove_110 : decode cX5_spaceAbove 110 = .ok (.bastore, 1) := by decide +kernel
theorem dX5_spaceAbove_111 : decode cX5_spaceAbove 111 = .ok (.iload 6, 2) := by decide +kernel
theorem dX5_spaceAbove_113 : decode cX5_spaceAbove 113 = .ok (.iconst (-1), 1) := by decide +kernel
theorem dX5_spaceAbove_114 : decode cX5_spaceAbove 114 = .ok (.if_icmp .eq 22, 3) := by decide +kernel
theorem dX5_spaceAbove_117 : decode cX5_spaceAbove 117 = .ok (.aload_n 0, 1) := by decide +kernel
theorem dX5_spaceAbove_118 : decode cX5_spaceAbove 118 = .ok (.getfield 21, 3) := by decide +kernel
theorem dX5_spaceAbove_121 : decode cX5_spaceAbove 121 = .ok (.iload 7, 2) := by decide +kernel
theorem dX5_spaceAbove_123 : decode cX5_spaceAbove 123 = .ok (.iaload, 1) := by decide +kernel
theorem dX5_spaceAbove_124 : decode cX5_spaceAbove 124 = .ok (.aload_n 0, 1) := by decide +kernel
theorem dX5_spaceAbove_125 : decode cX5_spaceAbove 125 = .ok (.getfield 21, 3) := by decide +kernel
theorem dX5_spaceAbove_128 : decode cX5_spaceAbove 128 = .ok (.iload 6, 2) := by decide +kernel
theorem dX5_spaceAbove_130 : decode cX5_spaceAbove 130 = .ok (.invokestatic 38, 3) := by decide +kernel
theorem dX5_spaceAbove_133 : decode cX5_spaceAbove 133 = .ok (.if_icmp .lt 7, 3) := by decide +kernel
theorem dX5_spaceAbove_136 : decode cX5_spaceAbove 136 = .ok (.iload 7, 2) := by decide +kernel
theorem dX5_spaceAbove_138 : decode cX5_spaceAbove 138 = .ok (.istore 6, 2) := by decide +kernel
theorem dX5_spaceAbove_140 : decode cX5_spaceAbove 140 = .ok (.iinc 7 (-1), 3) := by decide +kernel
theorem dX5_spaceAbove_143 : decode cX5_spaceAbove 143 = .ok (.goto (-101), 3) := by decide +kernel
theorem dX5_spaceAbove_146 : decode cX5_spaceAbove 146 = .ok (.iload 6, 2) := by decide +kernel
theorem dX5_spaceAbove_148 : decode cX5_spaceAbove 148 = .ok (.ireturn, 1) := by decide +kernel
theorem dX5_collectEnds_0 : decode cX5_collectEnds 0 = .ok (.iconst 0, 1) := by decide +kernel
theorem dX5_collectEnds_1 : decode cX5_collectEnds 1 = .ok (.istore_n 3, 1) := by decide +kernel
theorem dX5_collectEnds_2 : decode cX5_collectEnds 2 = .ok (.iload_n 3, 1) := by decide +kernel
theorem dX5_collectEnds_3 : decode cX5_collectEnds 3 = .ok (.iload_n 2, 1) := by decide +kernel
theorem dX5_collectEnds_4 : decode cX5_collectEnds 4 = .ok (.iconst 1, 1) := by decide +kernel
theorem dX5_collectEnds_5 : decode cX5_collectEnds 5 = .ok (.isub, 1) := by decide +kernel
theorem dX5_collectEnds_6 : decode cX5_collectEnds 6 = .ok (.if_icmp .ge 87, 3) := by decide +kernel
theorem dX5_collectEnds_9 : decode cX5_collectEnds 9 = .ok (.aload_n 0, 1) := by decide +kernel
theorem dX5_collectEnds_10 : decode cX5_collectEnds 10 = .ok (.getfield 21, 3) := by decide +kernel
theorem dX5_collectEnds_13 : decode cX5_collectEnds 13 = .ok (.iload_n 3, 1) := by decide +kernel
theorem dX5_collectEnds_14 : decode cX5_collectEnds 14 = .ok (.iaload, 1) := by decide +kernel
theorem dX5_collectEnds_15 : decode cX5_collectEnds 15 = .ok (.iconst 3, 1) := by decide +kernel
theorem dX5_collectEnds_16 : decode cX5_collectEnds 16 = .ok (.if_icmp .lt 16, 3) := by decide +kernel
theorem dX5_collectEnds_19 : decode cX5_collectEnds 19 = .ok (.aload_n 0, 1) := by decide +kernel
theorem dX5_collectEnds_20 : decode cX5_collectEnds 20 = .ok (.getfield 31, 3) := by decide +kernel
theorem dX5_collectEnds_23 : decode cX5_collectEnds 23 = .ok (.iload_n 3, 1) := by decide +kernel
theorem dX5_collectEnds_24 : decode cX5_collectEnds 24 = .ok (.baload, 1) := by decide +kernel
theorem dX5_collectEnds_25 : decode cX5_collectEnds 25 = .ok (.ifCond .ne 7, 3) := by decide +kernel
theorem dX5_collectEnds_28 : decode cX5_collectEnds 28 = .ok (.iconst 1, 1) := by decide +kernel
theorem dX5_collectEnds_29 : decode cX5_collectEnds 29 = .ok (.goto 4, 3) := by decide +kernel
theorem dX5_collectEnds_32 : decode cX5_collectEnds 32 = .ok (.iconst 0, 1) := by decide +kernel
theorem dX5_collectEnds_33 : decode cX5_collectEnds 33 = .ok (.istore 4, 2) := by decide +kernel
theorem dX5_collectEnds_35 : decode cX5_collectEnds 35 = .ok (.iload 4, 2) := by decide +kernel
theorem dX5_collectEnds_37 : decode cX5_collectEnds 37 = .ok (.ifCond .eq 50, 3) := by decide +kernel
theorem dX5_collectEnds_40 : decode cX5_collectEnds 40 = .ok (.aload_n 1, 1) := by decide +kernel
theorem dX5_collectEnds_41 : decode cX5_collectEnds 41 = .ok (.getfield 54, 3) := by decide +kernel
theorem dX5_collectEnds_44 : decode cX5_collectEnds 44 = .ok (.iload_n 3, 1) := by decide +kernel
theorem dX5_collectEnds_45 : decode cX5_collectEnds 45 = .ok (.iaload, 1) := by decide +kernel
theorem dX5_collectEnds_46 : decode cX5_collectEnds 46 = .ok (.iconst (-1), 1) := by decide +kernel
theorem dX5_collectEnds_47 : decode cX5_collectEnds 47 = .ok (.if_icmp .eq 40, 3) := by decide +kernel
theorem dX5_collectEnds_50 : decode cX5_collectEnds 50 = .ok (.aload_n 0, 1) := by decide +kernel
theorem dX5_collectEnds_51 : decode cX5_collectEnds 51 = .ok (.getfield 35, 3) := by decide +kernel
theorem dX5_collectEnds_54 : decode cX5_collectEnds 54 = .ok (.aload_n 0, 1) := by decide +kernel
theorem dX5_collectEnds_55 : decode cX5_collectEnds 55 = .ok (.getfield 9, 3) := by decide +kernel
theorem dX5_collectEnds_58 : decode cX5_collectEnds 58 = .ok (.iload_n 3, 1) := by decide +kernel
theorem dX5_collectEnds_59 : decode cX5_collectEnds 59 = .ok (.iastore, 1) := by decide +kernel
theorem dX5_collectEnds_60 : decode cX5_collectEnds 60 = .ok (.aload_n 0, 1) := by decide +kernel
theorem dX5_collectEnds_61 : decode cX5_collectEnds 61 = .ok (.dup, 1) := by decide +kernel
theorem dX5_collectEnds_62 : decode cX5_collectEnds 62 = .ok (.getfield 9, 3) := by decide +kernel
theorem dX5_collectEnds_65 : decode cX5_collectEnds 65 = .ok (.iconst 1, 1) := by decide +kernel
theorem dX5_collectEnds_66 : decode cX5_collectEnds 66 = .ok (.iadd, 1) := by decide +kernel
theorem dX5_collectEnds_67 : decode cX5_collectEnds 67 = .ok (.putfield 9, 3) := by decide +kernel
theorem dX5_collectEnds_70 : decode cX5_collectEnds 70 = .ok (.aload_n 0, 1) := by decide +kernel
theorem dX5_collectEnds_71 : decode cX5_collectEnds 71 = .ok (.dup, 1) := by decide +kernel
theorem dX5_collectEnds_72 : decode cX5_collectEnds 72 = .ok (.getfield 15, 3) := by decide +kernel
theorem dX5_collectEnds_75 : decode cX5_collectEnds 75 = .ok (.aload_n 0, 1) := by decide +kernel
theorem dX5_collectEnds_76 : decode cX5_collectEnds 76 = .ok (.getfield 21, 3) := by decide +kernel
theorem dX5_collectEnds_79 : decode cX5_collectEnds 79 = .ok (.iload_n 3, 1) := by decide +kernel
theorem dX5_collectEnds_80 : decode cX5_collectEnds 80 = .ok (.iaload, 1) := by decide +kernel
theorem dX5_collectEnds_81 : decode cX5_collectEnds 81 = .ok (.iconst 2, 1) := by decide +kernel
theorem dX5_collectEnds_82 : decode cX5_collectEnds 82 = .ok (.isub, 1) := by decide +kernel
theorem dX5_collectEnds_83 : decode cX5_collectEnds 83 = .ok (.iadd, 1) := by decide +kernel
theorem dX5_collectEnds_84 : decode cX5_collectEnds 84 = .ok (.putfield 15, 3) := by decide +kernel
theorem dX5_collectEnds_87 : decode cX5_collectEnds 87 = .ok (.iinc 3 1, 3) := by decide +kernel
theorem dX5_collectEnds_90 : decode cX5_collectEnds 90 = .ok (.goto (-88), 3) := by decide +kernel
theorem dX5_collectEnds_93 : decode cX5_collectEnds 93 = .ok (.return_, 1) := by decide +kernel
theorem dX6_init_0 : decode cX6_init 0 = .ok (.aload_n 0, 1) := by decide +kernel
theorem dX6_init_1 : decode cX6_init 1 = .ok (.invokespecial 1, 3) := by decide +kernel
theorem dX6_init_4 : decode cX6_init 4 = .ok (.aload_n 0, 1) := by decide +kernel
theorem dX6_init_5 : decode cX6_init 5 = .ok (.bipush 60, 2) := by decide +kernel
theorem dX6_init_7 : decode cX6_init 7 = .ok (.putfield 7, 3) := by decide +kernel
theorem dX6_init_10 : decode cX6_init 10 = .ok (.aload_n 0, 1) := by decide +kernel
theorem dX6_init_11 : decode cX6_init 11 = .ok (.bipush 50, 2) := by decide +kernel
theorem dX6_init_13 : decode cX6_init 13 = .ok (.putfield 13, 3) := by decide +kernel
theorem dX6_init_16 : decode cX6_init 16 = .ok (.aload_n 0, 1) := by decide +kernel
theorem dX6_init_17 : decode cX6_init 17 = .ok (.iconst 2, 1) := by decide +kernel
theorem dX6_init_18 : decode cX6_init 18 = .ok (.putfield 16, 3) := by decide +kernel
theorem dX6_init_21 : decode cX6_init 21 = .ok (.aload_n 0, 1) := by decide +kernel
theorem dX6_init_22 : decode cX6_init 22 = .ok (.iconst 3, 1) := by decide +kernel
theorem dX6_init_23 : decode cX6_init 23 = .ok (.newarray .int, 2) := by decide +kernel
theorem dX6_init_25 : decode cX6_init 25 = .ok (.dup, 1) := by decide +kernel
theorem dX6_init_26 : decode cX6_init 26 = .ok (.iconst 0, 1) := by decide +kernel
theorem dX6_init_27 : decode cX6_init 27 = .ok (.iconst 2, 1) := by decide +kernel
theorem dX6_init_28 : decode cX6_init 28 = .ok (.iastore, 1) := by decide +kernel
theorem dX6_init_29 : decode cX6_init 29 = .ok (.dup, 1) := by decide +kernel
theorem dX6_init_30 : decode cX6_init 30 = .ok (.iconst 1, 1) := by decide +kernel
theorem dX6_init_31 : decode cX6_init 31 = .ok (.iconst 2, 1) := by decide +kernel
theorem dX6_init_32 : decode cX6_init 32 = .ok (.iastore, 1) := by decide +kernel
theorem dX6_init_33 : decode cX6_init 33 = .ok (.dup, 1) := by decide +kernel
theorem dX6_init_34 : decode cX6_init 34 = .ok (.iconst 2, 1) := by decide +kernel
theorem dX6_init_35 : decode cX6_init 35 = .ok (.iconst 3, 1) := by decide +kernel
theorem dX6_init_36 : decode cX6_init 36 = .ok (.iastore, 1) := by decide +kernel
theorem dX6_init_37 : decode cX6_init 37 = .ok (.putfield 19, 3) := by decide +kernel
theorem dX6_init_40 : decode cX6_init 40 = .ok (.aload_n 0, 1) := by decide +kernel
theorem dX6_init_41 : decode cX6_init 41 = .ok (.iconst 3, 1) := by decide +kernel
theorem dX6_init_42 : decode cX6_init 42 = .ok (.newarray .int, 2) := by decide +kernel
theorem dX6_init_44 : decode cX6_init 44 = .ok (.dup, 1) := by decide +kernel
theorem dX6_init_45 : decode cX6_init 45 = .ok (.iconst 0, 1) := by decide +kernel
theorem dX6_init_46 : decode cX6_init 46 = .ok (.iconst 3, 1) := by decide +kernel
theorem dX6_init_47 : decode cX6_init 47 = .ok (.iastore, 1) := by decide +kernel
theorem dX6_init_48 : decode cX6_init 48 = .ok (.dup, 1) := by decide +kernel
theorem dX6_init_49 : decode cX6_init 49 = .ok (.iconst 1, 1) := by decide +kernel
theorem dX6_init_50 : decode cX6_init 50 = .ok (.iconst 4, 1) := by decide +kernel
theorem dX6_init_51 : decode cX6_init 51 = .ok (.iastore, 1) := by decide +kernel
theorem dX6_init_52 : decode cX6_init 52 = .ok (.dup, 1) := by decide +kernel
theorem dX6_init_53 : decode cX6_init 53 = .ok (.iconst 2, 1) := by decide +kernel
theorem dX6_init_54 : decode cX6_init 54 = .ok (.iconst 5, 1) := by decide +kernel
theorem dX6_init_55 : decode cX6_init 55 = .ok (.iastore, 1) := by decide +kernel
theorem dX6_init_56 : decode cX6_init 56 = .ok (.putfield 23, 3) := by decide +kernel
theorem dX6_init_59 : decode cX6_init 59 = .ok (.aload_n 0, 1) := by decide +kernel
theorem dX6_init_60 : decode cX6_init 60 = .ok (.iconst 3, 1) := by decide +kernel
theorem dX6_init_61 : decode cX6_init 61 = .ok (.newarray .int, 2) := by decide +kernel
theorem dX6_init_63 : decode cX6_init 63 = .ok (.dup, 1) := by decide +kernel
theorem dX6_init_64 : decode cX6_init 64 = .ok (.iconst 0, 1) := by decide +kernel
theorem dX6_init_65 : decode cX6_init 65 = .ok (.bipush 6, 2) := by decide +kernel
theorem dX6_init_67 : decode cX6_init 67 = .ok (.iastore, 1) := by decide +kernel
theorem dX6_init_68 : decode cX6_init 68 = .ok (.dup, 1) := by decide +kernel
theorem dX6_init_69 : decode cX6_init 69 = .ok (.iconst 1, 1) := by decide +kernel
theorem dX6_init_70 : decode cX6_init 70 = .ok (.bipush 8, 2) := by decide +kernel
theorem dX6_init_72 : decode cX6_init 72 = .ok (.iastore, 1) := by decide +kernel
theorem dX6_init_73 : decode cX6_init 73 = .ok (.dup, 1) := by decide +kernel
theorem dX6_init_74 : decode cX6_init 74 = .ok (.iconst 2, 1) := by decide +kernel
theorem dX6_init_75 : decode cX6_init 75 = .ok (.bipush 10, 2) := by decide +kernel
theorem dX6_init_77 : decode cX6_init 77 = .ok (.iastore, 1) := by decide +kernel
theorem dX6_init_78 : decode cX6_init 78 = .ok (.putfield 26, 3) := by decide +kernel
theorem dX6_init_81 : decode cX6_init 81 = .ok (.return_, 1) := by decide +kernel
theorem dX6_putWidths_0 : decode cX6_putWidths 0 = .ok (.iload_n 1, 1) := by decide +kernel
theorem dX6_putWidths_1 : decode cX6_putWidths 1 = .ok (.invokestatic 29, 3) := by decide +kernel
theorem dX6_putWidths_4 : decode cX6_putWidths 4 = .ok (.ifCond .ne 4, 3) := by decide +kernel
theorem dX6_putWidths_7 : decode cX6_putWidths 7 = .ok (.return_, 1) := by decide +kernel
theorem dX6_putWidths_8 : decode cX6_putWidths 8 = .ok (.aload_n 0, 1) := by decide +kernel
theorem dX6_putWidths_9 : decode cX6_putWidths 9 = .ok (.getfield 19, 3) := by decide +kernel
theorem dX6_putWidths_12 : decode cX6_putWidths 12 = .ok (.iload_n 1, 1) := by decide +kernel
theorem dX6_putWidths_13 : decode cX6_putWidths 13 = .ok (.iload_n 2, 1) := by decide +kernel
theorem dX6_putWidths_14 : decode cX6_putWidths 14 = .ok (.iastore, 1) := by decide +kernel
theorem dX6_putWidths_15 : decode cX6_putWidths 15 = .ok (.aload_n 0, 1) := by decide +kernel
theorem dX6_putWidths_16 : decode cX6_putWidths 16 = .ok (.getfield 23, 3) := by decide +kernel
theorem dX6_putWidths_19 : decode cX6_putWidths 19 = .ok (.iload_n 1, 1) := by decide +kernel
theorem dX6_putWidths_20 : decode cX6_putWidths 20 = .ok (.iload_n 3, 1) := by decide +kernel
theorem dX6_putWidths_21 : decode cX6_putWidths 21 = .ok (.iastore, 1) := by decide +kernel
theorem dX6_putWidths_22 : decode cX6_putWidths 22 = .ok (.aload_n 0, 1) := by decide +kernel
theorem dX6_putWidths_23 : decode cX6_putWidths 23 = .ok (.getfield 26, 3) := by decide +kernel
theorem dX6_putWidths_26 : decode cX6_putWidths 26 = .ok (.iload_n 1, 1) := by decide +kernel
theorem dX6_putWidths_27 : decode cX6_putWidths 27 = .ok (.iload 4, 2) := by decide +kernel
theorem dX6_putWidths_29 : decode cX6_putWidths 29 = .ok (.iastore, 1) := by decide +kernel
theorem dX6_putWidths_30 : decode cX6_putWidths 30 = .ok (.return_, 1) := by decide +kernel
theorem dX7_widthOf_0 : decode cX7_widthOf 0 = .ok (.iload_n 0, 1) := by decide +kernel
theorem dX7_widthOf_1 : decode cX7_widthOf 1 = .ok (.bipush 97, 2) := by decide +kernel
theorem dX7_widthOf_3 : decode cX7_widthOf 3 = .ok (.if_icmp .lt 14, 3) := by decide +kernel
theorem dX7_widthOf_6 : decode cX7_widthOf 6 = .ok (.iload_n 0, 1) := by decide +kernel
theorem dX7_widthOf_7 : decode cX7_widthOf 7 = .ok (.bipush 122, 2) := by decide +kernel
theorem dX7_widthOf_9 : decode cX7_widthOf 9 = .ok (.if_icmp .gt 8, 3) := by decide +kernel
theorem dX7_widthOf_12 : decode cX7_widthOf 12 = .ok (.iload_n 0, 1) := by decide +kernel
theorem dX7_widthOf_13 : decode cX7_widthOf 13 = .ok (.invokestatic 7, 3) := by decide +kernel
theorem dX7_widthOf_16 : decode cX7_widthOf 16 = .ok (.ireturn, 1) := by decide +kernel
theorem dX7_widthOf_17 : decode cX7_widthOf 17 = .ok (.iload_n 0, 1) := by decide +kernel
theorem dX7_widthOf_18 : decode cX7_widthOf 18 = .ok (.bipush 65, 2) := by decide +kernel
theorem dX7_widthOf_20 : decode cX7_widthOf 20 = .ok (.if_icmp .lt 14, 3) := by decide +kernel
theorem dX7_widthOf_23 : decode cX7_widthOf 23 = .ok (.iload_n 0, 1) := by decide +kernel
theorem dX7_widthOf_24 : decode cX7_widthOf 24 = .ok (.bipush 90, 2) := by decide +kernel
theorem dX7_widthOf_26 : decode cX7_widthOf 26 = .ok (.if_icmp .gt 8, 3) := by decide +kernel
theorem dX7_widthOf_29 : decode cX7_widthOf 29 = .ok (.iload_n 0, 1) := by decide +kernel
theorem dX7_widthOf_30 : decode cX7_widthOf 30 = .ok (.invokestatic 13, 3) := by decide +kernel
theorem dX7_widthOf_33 : decode cX7_widthOf 33 = .ok (.ireturn, 1) := by decide +kernel
theorem dX7_widthOf_34 : decode cX7_widthOf 34 = .ok (.iload_n 0, 1) := by decide +kernel
theorem dX7_widthOf_35 : decode cX7_widthOf 35 = .ok (.invokestatic 16, 3) := by decide +kernel
theorem dX7_widthOf_38 : decode cX7_widthOf 38 = .ok (.ifCond .eq 5, 3) := by decide +kernel
theorem dX7_widthOf_41 : decode cX7_widthOf 41 = .ok (.iconst 3, 1) := by decide +kernel
theorem dX7_widthOf_42 : decode cX7_widthOf 42 = .ok (.ireturn, 1) := by decide +kernel
theorem dX7_widthOf_43 : decode cX7_widthOf 43 = .ok (.iload_n 0, 1) := by decide +kernel
theorem dX7_widthOf_44 : decode cX7_widthOf 44 = .ok (.ldc 20, 2) := by decide +kernel
theorem dX7_widthOf_46 : decode cX7_widthOf 46 = .ok (.invokestatic 22, 3) := by decide +kernel
theorem dX7_widthOf_49 : decode cX7_widthOf 49 = .ok (.ifCond .eq 5, 3) := by decide +kernel
theorem dX7_widthOf_52 : decode cX7_widthOf 52 = .ok (.iconst 1, 1) := by decide +kernel
theorem dX7_widthOf_53 : decode cX7_widthOf 53 = .ok (.ireturn, 1) := by decide +kernel
theorem dX7_widthOf_54 : decode cX7_widthOf 54 = .ok (.iload_n 0, 1) := by decide +kernel
theorem dX7_widthOf_55 : decode cX7_widthOf 55 = .ok (.ldc 26, 2) := by decide +kernel
theorem dX7_widthOf_57 : decode cX7_widthOf 57 = .ok (.invokestatic 22, 3) := by decide +kernel
theorem dX7_widthOf_60 : decode cX7_widthOf 60 = .ok (.ifCond .eq 7, 3) := by decide +kernel
theorem dX7_widthOf_63 : decode cX7_widthOf 63 = .ok (.iconst 2, 1) := by decide +kernel
theorem dX7_widthOf_64 : decode cX7_widthOf 64 = .ok (.goto 4, 3) := by decide +kernel
theorem dX7_widthOf_67 : decode cX7_widthOf 67 = .ok (.iconst 0, 1) := by decide +kernel
theorem dX7_widthOf_68 : decode cX7_widthOf 68 = .ok (.ireturn, 1) := by decide +kernel
theorem dX7_smallLetterWidth_0 : decode cX7_smallLetterWidth 0 = .ok (.iload_n 0, 1) := by decide +kernel
theorem dX7_smallLetterWidth_1 : decode cX7_smallLetterWidth 1 = .ok (.ldc 28, 2) := by decide +kernel
theorem dX7_smallLetterWidth_3 : decode cX7_smallLetterWidth 3 = .ok (.invokestatic 22, 3) := by decide +kernel
theorem dX7_smallLetterWidth_6 : decode cX7_smallLetterWidth 6 = .ok (.ifCond .eq 5, 3) := by decide +kernel
theorem dX7_smallLetterWidth_9 : decode cX7_smallLetterWidth 9 = .ok (.iconst 2, 1) := by decide +kernel
theorem dX7_smallLetterWidth_10 : decode cX7_smallLetterWidth 10 = .ok (.ireturn, 1) := by decide +kernel
theorem dX7_smallLetterWidth_11 : decode cX7_smallLetterWidth 11 = .ok (.iload_n 0, 1) := by decide +kernel
theorem dX7_smallLetterWidth_12 : decode cX7_smallLetterWidth 12 = .ok (.ldc 30, 2) := by decide +kernel
theorem dX7_smallLetterWidth_14 : decode cX7_smallLetterWidth 14 = .ok (.invokestatic 22, 3) := by decide +kernel
theorem dX7_smallLetterWidth_17 : decode cX7_smallLetterWidth 17 = .ok (.ifCond .eq 7, 3) := by decide +kernel
theorem dX7_smallLetterWidth_20 : decode cX7_smallLetterWidth 20 = .ok (.iconst 4, 1) := by decide +kernel
theorem dX7_smallLetterWidth_21 : decode cX7_smallLetterWidth 21 = .ok (.goto 4, 3) := by decide +kernel
theorem dX7_smallLetterWidth_24 : decode cX7_smallLetterWidth 24 = .ok (.iconst 3, 1) := by decide +kernel
theorem dX7_smallLetterWidth_25 : decode cX7_smallLetterWidth 25 = .ok (.ireturn, 1) := by decide +kernel
theorem dX7_capitalWidth_0 : decode cX7_capitalWidth 0 = .ok (.iload_n 0, 1) := by decide +kernel
theorem dX7_capitalWidth_1 : decode cX7_capitalWidth 1 = .ok (.bipush 73, 2) := by decide +kernel
theorem dX7_capitalWidth_3 : decode cX7_capitalWidth 3 = .ok (.if_icmp .ne 5, 3) := by decide +kernel
theorem dX7_capitalWidth_6 : decode cX7_capitalWidth 6 = .ok (.iconst 2, 1) := by decide +kernel
theorem dX7_capitalWidth_7 : decode cX7_capitalWidth 7 = .ok (.ireturn, 1) := by decide +kernel
theorem dX7_capitalWidth_8 : decode cX7_capitalWidth 8 = .ok (.iload_n 0, 1) := by decide +kernel
theorem dX7_capitalWidth_9 : decode cX7_capitalWidth 9 = .ok (.ldc 32, 2) := by decide +kernel
theorem dX7_capitalWidth_11 : decode cX7_capitalWidth 11 = .ok (.invokestatic 22, 3) := by decide +kernel
theorem dX7_capitalWidth_14 : decode cX7_capitalWidth 14 = .ok (.ifCond .eq 7, 3) := by decide +kernel
theorem dX7_capitalWidth_17 : decode cX7_capitalWidth 17 = .ok (.iconst 5, 1) := by decide +kernel
theorem dX7_capitalWidth_18 : decode cX7_capitalWidth 18 = .ok (.goto 4, 3) := by decide +kernel
theorem dX7_capitalWidth_21 : decode cX7_capitalWidth 21 = .ok (.iconst 4, 1) := by decide +kernel
theorem dX7_capitalWidth_22 : decode cX7_capitalWidth 22 = .ok (.ireturn, 1) := by decide +kernel
theorem dX7_kindBehind_0 : decode cX7_kindBehind 0 = .ok (.iload_n 0, 1) := by decide +kernel
theorem dX7_kindBehind_1 : decode cX7_kindBehind 1 = .ok (.ldc 34, 2) := by decide +kernel
theorem dX7_kindBehind_3 : decode cX7_kindBehind 3 = .ok (.invokestatic 22, 3) := by decide +kernel
theorem dX7_kindBehind_6 : decode cX7_kindBehind 6 = .ok (.ifCond .eq 5, 3) := by decide +kernel
theorem dX7_kindBehind_9 : decode cX7_kindBehind 9 = .ok (.iconst 2, 1) := by decide +kernel
theorem dX7_kindBehind_10 : decode cX7_kindBehind 10 = .ok (.ireturn, 1) := by decide +kernel
theorem dX7_kindBehind_11 : decode cX7_kindBehind 11 = .ok (.iload_n 0, 1) := by decide +kernel
theorem dX7_kindBehind_12 : decode cX7_kindBehind 12 = .ok (.ldc 36, 2) := by decide +kernel
theorem dX7_kindBehind_14 : decode cX7_kindBehind 14 = .ok (.invokestatic 22, 3) := by decide +kernel
theorem dX7_kindBehind_17 : decode cX7_kindBehind 17 = .ok (.ifCond .eq 7, 3) := by decide +kernel
theorem dX7_kindBehind_20 : decode cX7_kindBehind 20 = .ok (.iconst 1, 1) := by decide +kernel
theorem dX7_kindBehind_21 : decode cX7_kindBehind 21 = .ok (.goto 4, 3) := by decide +kernel
theorem dX7_kindBehind_24 : decode cX7_kindBehind 24 = .ok (.iconst 0, 1) := by decide +kernel
theorem dX7_kindBehind_25 : decode cX7_kindBehind 25 = .ok (.ireturn, 1) := by decide +kernel
theorem dX7_hangsLeft_0 : decode cX7_hangsLeft 0 = .ok (.iload_n 0, 1) := by decide +kernel
theorem dX7_hangsLeft_1 : decode cX7_hangsLeft 1 = .ok (.ldc 38, 2) := by decide +kernel
theorem dX7_hangsLeft_3 : decode cX7_hangsLeft 3 = .ok (.invokestatic 22, 3) := by decide +kernel
theorem dX7_hangsLeft_6 : decode cX7_hangsLeft 6 = .ok (.ireturn, 1) := by decide +kernel
theorem dX7_hangsRight_0 : decode cX7_hangsRight 0 = .ok (.iload_n 0, 1) := by decide +kernel
theorem dX7_hangsRight_1 : decode cX7_hangsRight 1 = .ok (.ldc 40, 2) := by decide +kernel
theorem dX7_hangsRight_3 : decode cX7_hangsRight 3 = .ok (.invokestatic 22, 3) := by decide +kernel
theorem dX7_hangsRight_6 : decode cX7_hangsRight 6 = .ok (.ireturn, 1) := by decide +kernel
theorem dX7_isDigit_0 : decode cX7_isDigit 0 = .ok (.iload_n 0, 1) := by decide +kernel
theorem dX7_isDigit_1 : decode cX7_isDigit 1 = .ok (.bipush 48, 2) := by decide +kernel
theorem dX7_isDigit_3 : decode cX7_isDigit 3 = .ok (.if_icmp .lt 13, 3) := by decide +kernel
theorem dX7_isDigit_6 : decode cX7_isDigit 6 = .ok (.iload_n 0, 1) := by decide +kernel
theorem dX7_isDigit_7 : decode cX7_isDigit 7 = .ok (.bipush 57, 2) := by decide +kernel
theorem dX7_isDigit_9 : decode cX7_isDigit 9 = .ok (.if_icmp .gt 7, 3) := by decide +kernel
theorem dX7_isDigit_12 : decode cX7_isDigit 12 = .ok (.iconst 1, 1) := by decide +kernel
theorem dX7_isDigit_13 : decode cX7_isDigit 13 = .ok (.goto 4, 3) := by decide +kernel
theorem dX7_isDigit_16 : decode cX7_isDigit 16 = .ok (.iconst 0, 1) := by decide +kernel
theorem dX7_isDigit_17 : decode cX7_isDigit 17 = .ok (.ireturn, 1) := by decide +kernel
theorem dX7_isOneOf_0 : decode cX7_isOneOf 0 = .ok (.aload_n 1, 1) := by decide +kernel
theorem dX7_isOneOf_1 : decode cX7_isOneOf 1 = .ok (.iload_n 0, 1) := by decide +kernel
theorem dX7_isOneOf_2 : decode cX7_isOneOf 2 = .ok (.invokevirtual 42, 3) := by decide +kernel
theorem dX7_isOneOf_5 : decode cX7_isOneOf 5 = .ok (.ifCond .lt 7, 3) := by decide +kernel
theorem dX7_isOneOf_8 : decode cX7_isOneOf 8 = .ok (.iconst 1, 1) := by decide +kernel
theorem dX7_isOneOf_9 : decode cX7_isOneOf 9 = .ok (.goto 4, 3) := by decide +kernel
theorem dX7_isOneOf_12 : decode cX7_isOneOf 12 = .ok (.iconst 0, 1) := by decide +kernel
theorem dX7_isOneOf_13 : decode cX7_isOneOf 13 = .ok (.ireturn, 1) := by decide +kernel
theorem dX8_init_0 : decode cX8_init 0 = .ok (.aload_n 0, 1) := by decide +kernel
theorem dX8_init_1 : decode cX8_init 1 = .ok (.invokespecial 3, 3) := by decide +kernel
theorem dX8_init_4 : decode cX8_init 4 = .ok (.aload_n 0, 1) := by decide +kernel
theorem dX8_init_5 : decode cX8_init 5 = .ok (.bipush 120, 2) := by decide +kernel
theorem dX8_init_7 : decode cX8_init 7 = .ok (.newarray .char, 2) := by decide +kernel
theorem dX8_init_9 : decode cX8_init 9 = .ok (.putfield 9, 3) := by decide +kernel
theorem dX8_init_12 : decode cX8_init 12 = .ok (.aload_n 0, 1) := by decide +kernel
theorem dX8_init_13 : decode cX8_init 13 = .ok (.iconst 0, 1) := by decide +kernel
theorem dX8_init_14 : decode cX8_init 14 = .ok (.putfield 15, 3) := by decide +kernel
theorem dX8_init_17 : decode cX8_init 17 = .ok (.return_, 1) := by decide +kernel
theorem dX8_append_0 : decode cX8_append 0 = .ok (.aload_n 0, 1) := by decide +kernel
theorem dX8_append_1 : decode cX8_append 1 = .ok (.getfield 15, 3) := by decide +kernel
theorem dX8_append_4 : decode cX8_append 4 = .ok (.bipush 120, 2) := by decide +kernel
theorem dX8_append_6 : decode cX8_append 6 = .ok (.if_icmp .lt 7, 3) := by decide +kernel
theorem dX8_append_9 : decode cX8_append 9 = .ok (.sipush (-1003), 3) := by decide +kernel
theorem dX8_append_12 : decode cX8_append 12 = .ok (.ireturn, 1) := by decide +kernel
theorem dX8_append_13 : decode cX8_append 13 = .ok (.aload_n 0, 1) := by decide +kernel
theorem dX8_append_14 : decode cX8_append 14 = .ok (.getfield 9, 3) := by decide +kernel
theorem dX8_append_17 : decode cX8_append 17 = .ok (.aload_n 0, 1) := by decide +kernel
theorem dX8_append_18 : decode cX8_append 18 = .ok (.getfield 15, 3) := by decide +kernel
theorem dX8_append_21 : decode cX8_append 21 = .ok (.iload_n 1, 1) := by decide +kernel
theorem dX8_append_22 : decode cX8_append 22 = .ok (.castore, 1) := by decide +kernel
theorem dX8_append_23 : decode cX8_append 23 = .ok (.aload_n 0, 1) := by decide +kernel
theorem dX8_append_24 : decode cX8_append 24 = .ok (.dup, 1) := by decide +kernel
theorem dX8_append_25 : decode cX8_append 25 = .ok (.getfield 15, 3) := by decide +kernel
theorem dX8_append_28 : decode cX8_append 28 = .ok (.iconst 1, 1) := by decide +kernel
theorem dX8_append_29 : decode cX8_append 29 = .ok (.iadd, 1) := by decide +kernel
theorem dX8_append_30 : decode cX8_append 30 = .ok (.putfield 15, 3) := by decide +kernel
theorem dX8_append_33 : decode cX8_append 33 = .ok (.aload_n 0, 1) := by decide +kernel
theorem dX8_append_34 : decode cX8_append 34 = .ok (.getfield 15, 3) := by decide +kernel
theorem dX8_append_37 : decode cX8_append 37 = .ok (.ireturn, 1) := by decide +kernel
theorem dX8_empty_0 : decode cX8_empty 0 = .ok (.aload_n 0, 1) := by decide +kernel
theorem dX8_empty_1 : decode cX8_empty 1 = .ok (.getfield 15, 3) := by decide +kernel
theorem dX8_empty_4 : decode cX8_empty 4 = .ok (.istore_n 1, 1) := by decide +kernel
theorem dX8_empty_5 : decode cX8_empty 5 = .ok (.aload_n 0, 1) := by decide +kernel
theorem dX8_empty_6 : decode cX8_empty 6 = .ok (.iconst 0, 1) := by decide +kernel
theorem dX8_empty_7 : decode cX8_empty 7 = .ok (.putfield 15, 3) := by decide +kernel
theorem dX8_empty_10 : decode cX8_empty 10 = .ok (.iload_n 1, 1) := by decide +kernel
theorem dX8_empty_11 : decode cX8_empty 11 = .ok (.ireturn, 1) := by decide +kernel
theorem dX8_paragraphFault_0 : decode cX8_paragraphFault 0 = .ok (.iconst 0, 1) := by decide +kernel
theorem dX8_paragraphFault_1 : decode cX8_paragraphFault 1 = .ok (.istore_n 1, 1) := by decide +kernel
theorem dX8_paragraphFault_2 : decode cX8_paragraphFault 2 = .ok (.iload_n 1, 1) := by decide +kernel
theorem dX8_paragraphFault_3 : decode cX8_paragraphFault 3 = .ok (.aload_n 0, 1) := by decide +kernel
theorem dX8_paragraphFault_4 : decode cX8_paragraphFault 4 = .ok (.getfield 15, 3) := by decide +kernel
theorem dX8_paragraphFault_7 : decode cX8_paragraphFault 7 = .ok (.if_icmp .ge 34, 3) := by decide +kernel
theorem dX8_paragraphFault_10 : decode cX8_paragraphFault 10 = .ok (.aload_n 0, 1) := by decide +kernel
theorem dX8_paragraphFault_11 : decode cX8_paragraphFault 11 = .ok (.getfield 9, 3) := by decide +kernel
theorem dX8_paragraphFault_14 : decode cX8_paragraphFault 14 = .ok (.iload_n 1, 1) := by decide +kernel
theorem dX8_paragraphFault_15 : decode cX8_paragraphFault 15 = .ok (.caload, 1) := by decide +kernel
theorem dX8_paragraphFault_16 : decode cX8_paragraphFault 16 = .ok (.bipush 32, 2) := by decide +kernel
theorem dX8_paragraphFault_18 : decode cX8_paragraphFault 18 = .ok (.if_icmp .eq 17, 3) := by decide +kernel
theorem dX8_paragraphFault_21 : decode cX8_paragraphFault 21 = .ok (.aload_n 0, 1) := by decide +kernel
theorem dX8_paragraphFault_22 : decode cX8_paragraphFault 22 = .ok (.getfield 9, 3) := by decide +kernel
theorem dX8_paragraphFault_25 : decode cX8_paragraphFault 25 = .ok (.iload_n 1, 1) := by decide +kernel
theorem dX8_paragraphFault_26 : decode cX8_paragraphFault 26 = .ok (.caload, 1) := by decide +kernel
theorem dX8_paragraphFault_27 : decode cX8_paragraphFault 27 = .ok (.invokestatic 19, 3) := by decide +kernel
theorem dX8_paragraphFault_30 : decode cX8_paragraphFault 30 = .ok (.ifCond .ne 5, 3) := by decide +kernel
theorem dX8_paragraphFault_33 : decode cX8_paragraphFault 33 = .ok (.iload_n 1, 1) := by decide +kernel
theorem dX8_paragraphFault_34 : decode cX8_paragraphFault 34 = .ok (.ireturn, 1) := by decide +kernel
theorem dX8_paragraphFault_35 : decode cX8_paragraphFault 35 = .ok (.iinc 1 1, 3) := by decide +kernel
theorem dX8_paragraphFault_38 : decode cX8_paragraphFault 38 = .ok (.goto (-36), 3) := by decide +kernel
theorem dX8_paragraphFault_41 : decode cX8_paragraphFault 41 = .ok (.iconst (-1), 1) := by decide +kernel
theorem dX8_paragraphFault_42 : decode cX8_paragraphFault 42 = .ok (.ireturn, 1) := by decide +kernel
theorem dX8_endOfPiece_0 : decode cX8_endOfPiece 0 = .ok (.iload_n 1, 1) := by decide +kernel
theorem dX8_endOfPiece_1 : decode cX8_endOfPiece 1 = .ok (.istore_n 2, 1) := by decide +kernel
theorem dX8_endOfPiece_2 : decode cX8_endOfPiece 2 = .ok (.iload_n 2, 1) := by decide +kernel
theorem dX8_endOfPiece_3 : decode cX8_endOfPiece 3 = .ok (.aload_n 0, 1) := by decide +kernel
theorem dX8_endOfPiece_4 : decode cX8_endOfPiece 4 = .ok (.getfield 15, 3) := by decide +kernel
theorem dX8_endOfPiece_7 : decode cX8_endOfPiece 7 = .ok (.if_icmp .ge 22, 3) := by decide +kernel
theorem dX8_endOfPiece_10 : decode cX8_endOfPiece 10 = .ok (.aload_n 0, 1) := by decide +kernel
theorem dX8_endOfPiece_11 : decode cX8_endOfPiece 11 = .ok (.getfield 9, 3) := by decide +kernel
theorem dX8_endOfPiece_14 : decode cX8_endOfPiece 14 = .ok (.iload_n 2, 1) := by decide +kernel
theorem dX8_endOfPiece_15 : decode cX8_endOfPiece 15 = .ok (.caload, 1) := by decide +kernel
theorem dX8_endOfPiece_16 : decode cX8_endOfPiece 16 = .ok (.bipush 32, 2) := by decide +kernel
theorem dX8_endOfPiece_18 : decode cX8_endOfPiece 18 = .ok (.if_icmp .ne 5, 3) := by decide +kernel
theorem dX8_endOfPiece_21 : decode cX8_endOfPiece 21 = .ok (.iload_n 2, 1) := by decide +kernel
theorem dX8_endOfPiece_22 : decode cX8_endOfPiece 22 = .ok (.ireturn, 1) := by decide +kernel
theorem dX8_endOfPiece_23 : decode cX8_endOfPiece 23 = .ok (.iinc 2 1, 3) := by decide +kernel
theorem dX8_endOfPiece_26 : decode cX8_endOfPiece 26 = .ok (.goto (-24), 3) := by decide +kernel
theorem dX8_endOfPiece_29 : decode cX8_endOfPiece 29 = .ok (.aload_n 0, 1) := by decide +kernel
theorem dX8_endOfPiece_30 : decode cX8_endOfPiece 30 = .ok (.getfield 15, 3) := by decide +kernel
theorem dX8_endOfPiece_33 : decode cX8_endOfPiece 33 = .ok (.ireturn, 1) := by decide +kernel
theorem dX8_isName_0 : decode cX8_isName 0 = .ok (.iload_n 1, 1) := by decide +kernel
theorem dX8_isName_1 : decode cX8_isName 1 = .ok (.ifCond .lt 21, 3) := by decide +kernel
theorem dX8_isName_4 : decode cX8_isName 4 = .ok (.iload_n 2, 1) := by decide +kernel
theorem dX8_isName_5 : decode cX8_isName 5 = .ok (.aload_n 0, 1) := by decide +kernel
theorem dX8_isName_6 : decode cX8_isName 6 = .ok (.getfield 15, 3) := by decide +kernel
theorem dX8_isName_9 : decode cX8_isName 9 = .ok (.if_icmp .gt 13, 3) := by decide +kernel
theorem dX8_isName_12 : decode cX8_isName 12 = .ok (.iload_n 2, 1) := by decide +kernel
theorem dX8_isName_13 : decode cX8_isName 13 = .ok (.iload_n 1, 1) := by decide +kernel
theorem dX8_isName_14 : decode cX8_isName 14 = .ok (.isub, 1) := by decide +kernel
theorem dX8_isName_15 : decode cX8_isName 15 = .ok (.aload_n 3, 1) := by decide +kernel
theorem dX8_isName_16 : decode cX8_isName 16 = .ok (.invokevirtual 25, 3) := by decide +kernel
theorem dX8_isName_19 : decode cX8_isName 19 = .ok (.if_icmp .eq 5, 3) := by decide +kernel
theorem dX8_isName_22 : decode cX8_isName 22 = .ok (.iconst 0, 1) := by decide +kernel
theorem dX8_isName_23 : decode cX8_isName 23 = .ok (.ireturn, 1) := by decide +kernel
theorem dX8_isName_24 : decode cX8_isName 24 = .ok (.iload_n 1, 1) := by decide +kernel
theorem dX8_isName_25 : decode cX8_isName 25 = .ok (.istore 4, 2) := by decide +kernel
theorem dX8_isName_27 : decode cX8_isName 27 = .ok (.iload 4, 2) := by decide +kernel
theorem dX8_isName_29 : decode cX8_isName 29 = .ok (.iload_n 2, 1) := by decide +kernel
theorem dX8_isName_30 : decode cX8_isName 30 = .ok (.if_icmp .ge 29, 3) := by decide +kernel
theorem dX8_isName_33 : decode cX8_isName 33 = .ok (.aload_n 0, 1) := by decide +kernel
theorem dX8_isName_34 : decode cX8_isName 34 = .ok (.getfield 9, 3) := by decide +kernel
theorem dX8_isName_37 : decode cX8_isName 37 = .ok (.iload 4, 2) := by decide +kernel
theorem dX8_isName_39 : decode cX8_isName 39 = .ok (.caload, 1) := by decide +kernel
theorem dX8_isName_40 : decode cX8_isName 40 = .ok (.aload_n 3, 1) := by decide +kernel
theorem dX8_isName_41 : decode cX8_isName 41 = .ok (.iload 4, 2) := by decide +kernel
theorem dX8_isName_43 : decode cX8_isName 43 = .ok (.iload_n 1, 1) := by decide +kernel
theorem dX8_isName_44 : decode cX8_isName 44 = .ok (.isub, 1) := by decide +kernel
theorem dX8_isName_45 : decode cX8_isName 45 = .ok (.invokevirtual 30, 3) := by decide +kernel
theorem dX8_isName_48 : decode cX8_isName 48 = .ok (.if_icmp .eq 5, 3) := by decide +kernel
theorem dX8_isName_51 : decode cX8_isName 51 = .ok (.iconst 0, 1) := by decide +kernel
theorem dX8_isName_52 : decode cX8_isName 52 = .ok (.ireturn, 1) := by decide +kernel
theorem dX8_isName_53 : decode cX8_isName 53 = .ok (.iinc 4 1, 3) := by decide +kernel
theorem dX8_isName_56 : decode cX8_isName 56 = .ok (.goto (-29), 3) := by decide +kernel
theorem dX8_isName_59 : decode cX8_isName 59 = .ok (.iconst 1, 1) := by decide +kernel
theorem dX8_isName_60 : decode cX8_isName 60 = .ok (.ireturn, 1) := by decide +kernel
theorem dX8_numberAt_0 : decode cX8_numberAt 0 = .ok (.iload_n 1, 1) := by decide +kernel
theorem dX8_numberAt_1 : decode cX8_numberAt 1 = .ok (.ifCond .lt 25, 3) := by decide +kernel
theorem dX8_numberAt_4 : decode cX8_numberAt 4 = .ok (.iload_n 2, 1) := by decide +kernel
theorem dX8_numberAt_5 : decode cX8_numberAt 5 = .ok (.aload_n 0, 1) := by decide +kernel
theorem dX8_numberAt_6 : decode cX8_numberAt 6 = .ok (.getfield 15, 3) := by decide +kernel
theorem dX8_numberAt_9 : decode cX8_numberAt 9 = .ok (.if_icmp .gt 17, 3) := by decide +kernel
theorem dX8_numberAt_12 : decode cX8_numberAt 12 = .ok (.iload_n 2, 1) := by decide +kernel
theorem dX8_numberAt_13 : decode cX8_numberAt 13 = .ok (.iload_n 1, 1) := by decide +kernel
theorem dX8_numberAt_14 : decode cX8_numberAt 14 = .ok (.isub, 1) := by decide +kernel
theorem dX8_numberAt_15 : decode cX8_numberAt 15 = .ok (.iconst 1, 1) := by decide +kernel
theorem dX8_numberAt_16 : decode cX8_numberAt 16 = .ok (.if_icmp .lt 10, 3) := by decide +kernel
theorem dX8_numberAt_19 : decode cX8_numberAt 19 = .ok (.iload_n 2, 1) := by decide +kernel
theorem dX8_numberAt_20 : decode cX8_numberAt 20 = .ok (.iload_n 1, 1) := by decide +kernel
theorem dX8_numberAt_21 : decode cX8_numberAt 21 = .ok (.isub, 1) := by decide +kernel
theorem dX8_numberAt_22 : decode cX8_numberAt 22 = .ok (.iconst 3, 1) := by decide +kernel
theorem dX8_numberAt_23 : decode cX8_numberAt 23 = .ok (.if_icmp .le 5, 3) := by decide +kernel
theorem dX8_numberAt_26 : decode cX8_numberAt 26 = .ok (.iconst (-1), 1) := by decide +kernel
theorem dX8_numberAt_27 : decode cX8_numberAt 27 = .ok (.ireturn, 1) := by decide +kernel
theorem dX8_numberAt_28 : decode cX8_numberAt 28 = .ok (.iconst 0, 1) := by decide +kernel
theorem dX8_numberAt_29 : decode cX8_numberAt 29 = .ok (.istore_n 3, 1) := by decide +kernel
theorem dX8_numberAt_30 : decode cX8_numberAt 30 = .ok (.iload_n 1, 1) := by decide +kernel
theorem dX8_numberAt_31 : decode cX8_numberAt 31 = .ok (.istore 4, 2) := by decide +kernel
theorem dX8_numberAt_33 : decode cX8_numberAt 33 = .ok (.iload 4, 2) := by decide +kernel
theorem dX8_numberAt_35 : decode cX8_numberAt 35 = .ok (.iload_n 2, 1) := by decide +kernel
theorem dX8_numberAt_36 : decode cX8_numberAt 36 = .ok (.if_icmp .ge 40, 3) := by decide +kernel
theorem dX8_numberAt_39 : decode cX8_numberAt 39 = .ok (.aload_n 0, 1) := by decide +kernel
theorem dX8_numberAt_40 : decode cX8_numberAt 40 = .ok (.getfield 9, 3) := by decide +kernel
theorem dX8_numberAt_43 : decode cX8_numberAt 43 = .ok (.iload 4, 2) := by decide +kernel
theorem dX8_numberAt_45 : decode cX8_numberAt 45 = .ok (.caload, 1) := by decide +kernel
theorem dX8_numberAt_46 : decode cX8_numberAt 46 = .ok (.invokestatic 34, 3) := by decide +kernel
theorem dX8_numberAt_49 : decode cX8_numberAt 49 = .ok (.ifCond .ne 5, 3) := by decide +kernel
theorem dX8_numberAt_52 : decode cX8_numberAt 52 = .ok (.iconst (-1), 1) := by decide +kernel
theorem dX8_numberAt_53 : decode cX8_numberAt 53 = .ok (.ireturn, 1) := by decide +kernel
theorem dX8_numberAt_54 : decode cX8_numberAt 54 = .ok (.iload_n 3, 1) := by decide +kernel
theorem dX8_numberAt_55 : decode cX8_numberAt 55 = .ok (.bipush 10, 2) := by decide +kernel
theorem dX8_numberAt_57 : decode cX8_numberAt 57 = .ok (.imul, 1) := by decide +kernel
theorem dX8_numberAt_58 : decode cX8_numberAt 58 = .ok (.aload_n 0, 1) := by decide +kernel
theorem dX8_numberAt_59 : decode cX8_numberAt 59 = .ok (.getfield 9, 3) := by decide +kernel
theorem dX8_numberAt_62 : decode cX8_numberAt 62 = .ok (.iload 4, 2) := by decide +kernel
theorem dX8_numberAt_64 : decode cX8_numberAt 64 = .ok (.caload, 1) := by decide +kernel
theorem dX8_numberAt_65 : decode cX8_numberAt 65 = .ok (.bipush 48, 2) := by decide +kernel
theorem dX8_numberAt_67 : decode cX8_numberAt 67 = .ok (.isub, 1) := by decide +kernel
theorem dX8_numberAt_68 : decode cX8_numberAt 68 = .ok (.iadd, 1) := by decide +kernel
theorem dX8_numberAt_69 : decode cX8_numberAt 69 = .ok (.istore_n 3, 1) := by decide +kernel
theorem dX8_numberAt_70 : decode cX8_numberAt 70 = .ok (.iinc 4 1, 3) := by decide +kernel
theorem dX8_numberAt_73 : decode cX8_numberAt 73 = .ok (.goto (-40), 3) := by decide +kernel
theorem dX8_numberAt_76 : decode cX8_numberAt 76 = .ok (.iload_n 3, 1) := by decide +kernel
theorem dX8_numberAt_77 : decode cX8_numberAt 77 = .ok (.ireturn, 1) := by decide +kernel
theorem dX9_init_0 : decode cX9_init 0 = .ok (.aload_n 0, 1) := by decide +kernel
theorem dX9_init_1 : decode cX9_init 1 = .ok (.invokespecial 1, 3) := by decide +kernel
theorem dX9_init_4 : decode cX9_init 4 = .ok (.new 7, 3) := by decide +kernel
theorem dX9_init_7 : decode cX9_init 7 = .ok (.dup, 1) := by decide +kernel
theorem dX9_init_8 : decode cX9_init 8 = .ok (.invokespecial 9, 3) := by decide +kernel
theorem dX9_init_11 : decode cX9_init 11 = .ok (.astore_n 1, 1) := by decide +kernel
theorem dX9_init_12 : decode cX9_init 12 = .ok (.new 10, 3) := by decide +kernel
theorem dX9_init_15 : decode cX9_init 15 = .ok (.dup, 1) := by decide +kernel
theorem dX9_init_16 : decode cX9_init 16 = .ok (.invokespecial 12, 3) := by decide +kernel
theorem dX9_init_19 : decode cX9_init 19 = .ok (.astore_n 2, 1) := by decide +kernel
theorem dX9_init_20 : decode cX9_init 20 = .ok (.new 13, 3) := by decide +kernel
theorem dX9_init_23 : decode cX9_init 23 = .ok (.dup, 1) := by decide +kernel
theorem dX9_init_24 : decode cX9_init 24 = .ok (.aload_n 2, 1) := by decide +kernel
theorem dX9_init_25 : decode cX9_init 25 = .ok (.aload_n 1, 1) := by decide +kernel
theorem dX9_init_26 : decode cX9_init 26 = .ok (.invokespecial 15, 3) := by decide +kernel
theorem dX9_init_29 : decode cX9_init 29 = .ok (.astore_n 3, 1) := by decide +kernel
theorem dX9_init_30 : decode cX9_init 30 = .ok (.new 18, 3) := by decide +kernel
theorem dX9_init_33 : decode cX9_init 33 = .ok (.dup, 1) := by decide +kernel
theorem dX9_init_34 : decode cX9_init 34 = .ok (.aload_n 2, 1) := by decide +kernel
theorem dX9_init_35 : decode cX9_init 35 = .ok (.aload_n 3, 1) := by decide +kernel
theorem dX9_init_36 : decode cX9_init 36 = .ok (.invokespecial 20, 3) := by decide +kernel
theorem dX9_init_39 : decode cX9_init 39 = .ok (.astore 4, 2) := by decide +kernel
theorem dX9_init_41 : decode cX9_init 41 = .ok (.aload_n 0, 1) := by decide +kernel
theorem dX9_init_42 : decode cX9_init 42 = .ok (.new 23, 3) := by decide +kernel
theorem dX9_init_45 : decode cX9_init 45 = .ok (.dup, 1) := by decide +kernel
theorem dX9_init_46 : decode cX9_init 46 = .ok (.invokespecial 25, 3) := by decide +kernel
theorem dX9_init_49 : decode cX9_init 49 = .ok (.putfield 26, 3) := by decide +kernel
theorem dX9_init_52 : decode cX9_init 52 = .ok (.aload_n 0, 1) := by decide +kernel
theorem dX9_init_53 : decode cX9_init 53 = .ok (.new 32, 3) := by decide +kernel
theorem dX9_init_56 : decode cX9_init 56 = .ok (.dup, 1) := by decide +kernel
theorem dX9_init_57 : decode cX9_init 57 = .ok (.invokespecial 34, 3) := by decide +kernel
theorem dX9_init_60 : decode cX9_init 60 = .ok (.putfield 35, 3) := by decide +kernel
theorem dX9_init_63 : decode cX9_init 63 = .ok (.aload_n 0, 1) := by decide +kernel
theorem dX9_init_64 : decode cX9_init 64 = .ok (.aload_n 1, 1) := by decide +kernel
theorem dX9_init_65 : decode cX9_init 65 = .ok (.putfield 39, 3) := by decide +kernel
theorem dX9_init_68 : decode cX9_init 68 = .ok (.aload_n 0, 1) := by decide +kernel
theorem dX9_init_69 : decode cX9_init 69 = .ok (.aload_n 2, 1) := by decide +kernel
theorem dX9_init_70 : decode cX9_init 70 = .ok (.putfield 43, 3) := by decide +kernel
theorem dX9_init_73 : decode cX9_init 73 = .ok (.aload_n 0, 1) := by decide +kernel
theorem dX9_init_74 : decode cX9_init 74 = .ok (.aload_n 3, 1) := by decide +kernel
theorem dX9_init_75 : decode cX9_init 75 = .ok (.putfield 47, 3) := by decide +kernel
theorem dX9_init_78 : decode cX9_init 78 = .ok (.aload_n 0, 1) := by decide +kernel
theorem dX9_init_79 : decode cX9_init 79 = .ok (.aload 4, 2) := by decide +kernel
theorem dX9_init_81 : decode cX9_init 81 = .ok (.putfield 51, 3) := by decide +kernel
theorem dX9_init_84 : decode cX9_init 84 = .ok (.aload_n 0, 1) := by decide +kernel
theorem dX9_init_85 : decode cX9_init 85 = .ok (.new 55, 3) := by decide +kernel
theorem dX9_init_88 : decode cX9_init 88 = .ok (.dup, 1) := by decide +kernel
theorem dX9_init_89 : decode cX9_init 89 = .ok (.aload_n 2, 1) := by decide +kernel
theorem dX9_init_90 : decode cX9_init 90 = .ok (.aload_n 1, 1) := by decide +kernel
theorem dX9_init_91 : decode cX9_init 91 = .ok (.aload_n 3, 1) := by decide +kernel
theorem dX9_init_92 : decode cX9_init 92 = .ok (.aload 4, 2) := by decide +kernel
theorem dX9_init_94 : decode cX9_init 94 = .ok (.invokespecial 57, 3) := by decide +kernel
theorem dX9_init_97 : decode cX9_init 97 = .ok (.putfield 60, 3) := by decide +kernel
theorem dX9_init_100 : decode cX9_init 100 = .ok (.aload_n 0, 1) := by decide +kernel
theorem dX9_init_101 : decode cX9_init 101 = .ok (.new 55, 3) := by decide +kernel
theorem dX9_init_104 : decode cX9_init 104 = .ok (.dup, 1) := by decide +kernel
theorem dX9_init_105 : decode cX9_init 105 = .ok (.aload_n 2, 1) := by decide +kernel
theorem dX9_init_106 : decode cX9_init 106 = .ok (.aload_n 1, 1) := by decide +kernel
theorem dX9_init_107 : decode cX9_init 107 = .ok (.aload_n 3, 1) := by decide +kernel
theorem dX9_init_108 : decode cX9_init 108 = .ok (.aload 4, 2) := by decide +kernel
theorem dX9_init_110 : decode cX9_init 110 = .ok (.invokespecial 57, 3) := by decide +kernel
theorem dX9_init_113 : decode cX9_init 113 = .ok (.putfield 64, 3) := by decide +kernel
theorem dX9_init_116 : decode cX9_init 116 = .ok (.return_, 1) := by decide +kernel
theorem dX9_type_0 : decode cX9_type 0 = .ok (.aload_n 0, 1) := by decide +kernel
theorem dX9_type_1 : decode cX9_type 1 = .ok (.getfield 26, 3) := by decide +kernel
theorem dX9_type_4 : decode cX9_type 4 = .ok (.iload_n 1, 1) := by decide +kernel
theorem dX9_type_5 : decode cX9_type 5 = .ok (.invokevirtual 67, 3) := by decide +kernel
theorem dX9_type_8 : decode cX9_type 8 = .ok (.ireturn, 1) := by decide +kernel
theorem dX9_clearText_0 : decode cX9_clearText 0 = .ok (.aload_n 0, 1) := by decide +kernel
theorem dX9_clearText_1 : decode cX9_clearText 1 = .ok (.getfield 26, 3) := by decide +kernel
theorem dX9_clearText_4 : decode cX9_clearText 4 = .ok (.invokevirtual 71, 3) := by decide +kernel
theorem dX9_clearText_7 : decode cX9_clearText 7 = .ok (.ireturn, 1) := by decide +kernel
theorem dX9_readParagraph_0 : decode cX9_readParagraph 0 = .ok (.aload_n 0, 1) := by decide +kernel
theorem dX9_readParagraph_1 : decode cX9_readParagraph 1 = .ok (.getfield 26, 3) := by decide +kernel
theorem dX9_readParagraph_4 : decode cX9_readParagraph 4 = .ok (.invokevirtual 75, 3) := by decide +kernel
theorem dX9_readParagraph_7 : decode cX9_readParagraph 7 = .ok (.istore_n 1, 1) := by decide +kernel
theorem dX9_readParagraph_8 : decode cX9_readParagraph 8 = .ok (.iload_n 1, 1) := by decide +kernel
theorem dX9_readParagraph_9 : decode cX9_readParagraph 9 = .ok (.iconst (-1), 1) := by decide +kernel
theorem dX9_readParagraph_10 : decode cX9_readParagraph 10 = .ok (.if_icmp .eq 8, 3) := by decide +kernel
theorem dX9_readParagraph_13 : decode cX9_readParagraph 13 = .ok (.bipush (-100), 2) := by decide +kernel
theorem dX9_readParagraph_15 : decode cX9_readParagraph 15 = .ok (.iload_n 1, 1) := by decide +kernel
theorem dX9_readParagraph_16 : decode cX9_readParagraph 16 = .ok (.isub, 1) := by decide +kernel
theorem dX9_readParagraph_17 : decode cX9_readParagraph 17 = .ok (.ireturn, 1) := by decide +kernel
theorem dX9_readParagraph_18 : decode cX9_readParagraph 18 = .ok (.aload_n 0, 1) := by decide +kernel
theorem dX9_readParagraph_19 : decode cX9_readParagraph 19 = .ok (.getfield 43, 3) := by decide +kernel
theorem dX9_readParagraph_22 : decode cX9_readParagraph 22 = .ok (.aload_n 0, 1) := by decide +kernel
theorem dX9_readParagraph_23 : decode cX9_readParagraph 23 = .ok (.getfield 26, 3) := by decide +kernel
theorem dX9_readParagraph_26 : decode cX9_readParagraph 26 = .ok (.invokevirtual 78, 3) := by decide +kernel
theorem dX9_readParagraph_29 : decode cX9_readParagraph 29 = .ok (.aload_n 0, 1) := by decide +kernel
theorem dX9_readParagraph_30 : decode cX9_readParagraph 30 = .ok (.invokevirtual 82, 3) := by decide +kernel
theorem dX9_readParagraph_33 : decode cX9_readParagraph 33 = .ok (.pop, 1) := by decide +kernel
theorem dX9_readParagraph_34 : decode cX9_readParagraph 34 = .ok (.aload_n 0, 1) := by decide +kernel
theorem dX9_readParagraph_35 : decode cX9_readParagraph 35 = .ok (.getfield 43, 3) := by decide +kernel
theorem dX9_readParagraph_38 : decode cX9_readParagraph 38 = .ok (.getfield 85, 3) := by decide +kernel
theorem dX9_readParagraph_41 : decode cX9_readParagraph 41 = .ok (.ireturn, 1) := by decide +kernel
theorem dX9_command_0 : decode cX9_command 0 = .ok (.aload_n 0, 1) := by decide +kernel
theorem dX9_command_1 : decode cX9_command 1 = .ok (.getfield 35, 3) := by decide +kernel
theorem dX9_command_4 : decode cX9_command 4 = .ok (.aload_n 0, 1) := by decide +kernel
theorem dX9_command_5 : decode cX9_command 5 = .ok (.getfield 26, 3) := by decide +kernel
theorem dX9_command_8 : decode cX9_command 8 = .ok (.invokevirtual 89, 3) := by decide +kernel
theorem dX9_command_11 : decode cX9_command 11 = .ok (.istore_n 1, 1) := by decide +kernel
theorem dX9_command_12 : decode cX9_command 12 = .ok (.iload_n 1, 1) := by decide +kernel
theorem dX9_command_13 : decode cX9_command 13 = .ok (.iconst (-1), 1) := by decide +kernel
theorem dX9_command_14 : decode cX9_command 14 = .ok (.if_icmp .eq 8, 3) := by decide +kernel
theorem dX9_command_17 : decode cX9_command 17 = .ok (.bipush (-100), 2) := by decide +kernel
theorem dX9_command_19 : decode cX9_command 19 = .ok (.iload_n 1, 1) := by decide +kernel
theorem dX9_command_20 : decode cX9_command 20 = .ok (.isub, 1) := by decide +kernel
theorem dX9_command_21 : decode cX9_command 21 = .ok (.ireturn, 1) := by decide +kernel
theorem dX9_command_22 : decode cX9_command 22 = .ok (.aload_n 0, 1) := by decide +kernel
theorem dX9_command_23 : decode cX9_command 23 = .ok (.getfield 35, 3) := by decide +kernel
theorem dX9_command_26 : decode cX9_command 26 = .ok (.aload_n 0, 1) := by decide +kernel
theorem dX9_command_27 : decode cX9_command 27 = .ok (.getfield 39, 3) := by decide +kernel
theorem dX9_command_30 : decode cX9_command 30 = .ok (.invokevirtual 93, 3) := by decide +kernel
theorem dX9_command_33 : decode cX9_command 33 = .ok (.aload_n 0, 1) := by decide +kernel
theorem dX9_command_34 : decode cX9_command 34 = .ok (.invokevirtual 82, 3) := by decide +kernel
theorem dX9_command_37 : decode cX9_command 37 = .ok (.ireturn, 1) := by decide +kernel
theorem dX9_setMeasure_0 : decode cX9_setMeasure 0 = .ok (.iload_n 1, 1) := by decide +kernel
theorem dX9_setMeasure_1 : decode cX9_setMeasure 1 = .ok (.bipush 10, 2) := by decide +kernel
theorem dX9_setMeasure_3 : decode cX9_setMeasure 3 = .ok (.if_icmp .lt 10, 3) := by decide +kernel
theorem dX9_setMeasure_6 : decode cX9_setMeasure 6 = .ok (.iload_n 1, 1) := by decide +kernel
theorem dX9_setMeasure_7 : decode cX9_setMeasure 7 = .ok (.sipush 200, 3) := by decide +kernel
theorem dX9_setMeasure_10 : decode cX9_setMeasure 10 = .ok (.if_icmp .le 7, 3) := by decide +kernel
theorem dX9_setMeasure_13 : decode cX9_setMeasure 13 = .ok (.sipush (-1002), 3) := by decide +kernel
theorem dX9_setMeasure_16 : decode cX9_setMeasure 16 = .ok (.ireturn, 1) := by decide +kernel
theorem dX9_setMeasure_17 : decode cX9_setMeasure 17 = .ok (.aload_n 0, 1) := by decide +kernel
theorem dX9_setMeasure_18 : decode cX9_setMeasure 18 = .ok (.getfield 39, 3) := by decide +kernel
theorem dX9_setMeasure_21 : decode cX9_setMeasure 21 = .ok (.getfield 97, 3) := by decide +kernel
theorem dX9_setMeasure_24 : decode cX9_setMeasure 24 = .ok (.istore_n 2, 1) := by decide +kernel
theorem dX9_setMeasure_25 : decode cX9_setMeasure 25 = .ok (.aload_n 0, 1) := by decide +kernel
theorem dX9_setMeasure_26 : decode cX9_setMeasure 26 = .ok (.getfield 39, 3) := by decide +kernel
theorem dX9_setMeasure_29 : decode cX9_setMeasure 29 = .ok (.iload_n 1, 1) := by decide +kernel
theorem dX9_setMeasure_30 : decode cX9_setMeasure 30 = .ok (.putfield 97, 3) := by decide +kernel
theorem dX9_setMeasure_33 : decode cX9_setMeasure 33 = .ok (.aload_n 0, 1) := by decide +kernel
theorem dX9_setMeasure_34 : decode cX9_setMeasure 34 = .ok (.invokevirtual 82, 3) := by decide +kernel
theorem dX9_setMeasure_37 : decode cX9_setMeasure 37 = .ok (.pop, 1) := by decide +kernel
theorem dX9_setMeasure_38 : decode cX9_setMeasure 38 = .ok (.iload_n 2, 1) := by decide +kernel
theorem dX9_setMeasure_39 : decode cX9_setMeasure 39 = .ok (.ireturn, 1) := by decide +kernel
theorem dX9_setHang_0 : decode cX9_setHang 0 = .ok (.iload_n 1, 1) := by decide +kernel
theorem dX9_setHang_1 : decode cX9_setHang 1 = .ok (.ifCond .lt 9, 3) := by decide +kernel
theorem dX9_setHang_4 : decode cX9_setHang 4 = .ok (.iload_n 1, 1) := by decide +kernel
theorem dX9_setHang_5 : decode cX9_setHang 5 = .ok (.bipush 100, 2) := by decide +kernel
theorem dX9_setHang_7 : decode cX9_setHang 7 = .ok (.if_icmp .le 7, 3) := by decide +kernel
theorem dX9_setHang_10 : decode cX9_setHang 10 = .ok (.sipush (-1002), 3) := by decide +kernel
theorem dX9_setHang_13 : decode cX9_setHang 13 = .ok (.ireturn, 1) := by decide +kernel
theorem dX9_setHang_14 : decode cX9_setHang 14 = .ok (.aload_n 0, 1) := by decide +kernel
theorem dX9_setHang_15 : decode cX9_setHang 15 = .ok (.getfield 39, 3) := by decide +kernel
theorem dX9_setHang_18 : decode cX9_setHang 18 = .ok (.getfield 100, 3) := by decide +kernel
theorem dX9_setHang_21 : decode cX9_setHang 21 = .ok (.istore_n 2, 1) := by decide +kernel
theorem dX9_setHang_22 : decode cX9_setHang 22 = .ok (.aload_n 0, 1) := by decide +kernel
theorem dX9_setHang_23 : decode cX9_setHang 23 = .ok (.getfield 39, 3) := by decide +kernel
theorem dX9_setHang_26 : decode cX9_setHang 26 = .ok (.iload_n 1, 1) := by decide +kernel
theorem dX9_setHang_27 : decode cX9_setHang 27 = .ok (.putfield 100, 3) := by decide +kernel
theorem dX9_setHang_30 : decode cX9_setHang 30 = .ok (.aload_n 0, 1) := by decide +kernel
theorem dX9_setHang_31 : decode cX9_setHang 31 = .ok (.invokevirtual 82, 3) := by decide +kernel
theorem dX9_setHang_34 : decode cX9_setHang 34 = .ok (.pop, 1) := by decide +kernel
theorem dX9_setHang_35 : decode cX9_setHang 35 = .ok (.iload_n 2, 1) := by decide +kernel
theorem dX9_setHang_36 : decode cX9_setHang 36 = .ok (.ireturn, 1) := by decide +kernel
theorem dX9_setTolerance_0 : decode cX9_setTolerance 0 = .ok (.iload_n 1, 1) := by decide +kernel
theorem dX9_setTolerance_1 : decode cX9_setTolerance 1 = .ok (.ifCond .lt 9, 3) := by decide +kernel
theorem dX9_setTolerance_4 : decode cX9_setTolerance 4 = .ok (.iload_n 1, 1) := by decide +kernel
theorem dX9_setTolerance_5 : decode cX9_setTolerance 5 = .ok (.bipush 20, 2) := by decide +kernel
theorem dX9_setTolerance_7 : decode cX9_setTolerance 7 = .ok (.if_icmp .le 7, 3) := by decide +kernel
theorem dX9_setTolerance_10 : decode cX9_setTolerance 10 = .ok (.sipush (-1002), 3) := by decide +kernel
theorem dX9_setTolerance_13 : decode cX9_setTolerance 13 = .ok (.ireturn, 1) := by decide +kernel
theorem dX9_setTolerance_14 : decode cX9_setTolerance 14 = .ok (.aload_n 0, 1) := by decide +kernel
theorem dX9_setTolerance_15 : decode cX9_setTolerance 15 = .ok (.getfield 39, 3) := by decide +kernel
theorem dX9_setTolerance_18 : decode cX9_setTolerance 18 = .ok (.getfield 103, 3) := by decide +kernel
theorem dX9_setTolerance_21 : decode cX9_setTolerance 21 = .ok (.istore_n 2, 1) := by decide +kernel
theorem dX9_setTolerance_22 : decode cX9_setTolerance 22 = .ok (.aload_n 0, 1) := by decide +kernel
theorem dX9_setTolerance_23 : decode cX9_setTolerance 23 = .ok (.getfield 39, 3) := by decide +kernel
theorem dX9_setTolerance_26 : decode cX9_setTolerance 26 = .ok (.iload_n 1, 1) := by decide +kernel
theorem dX9_setTolerance_27 : decode cX9_setTolerance 27 = .ok (.putfield 103, 3) := by decide +kernel
theorem dX9_setTolerance_30 : decode cX9_setTolerance 30 = .ok (.aload_n 0, 1) := by decide +kernel
theorem dX9_setTolerance_31 : decode cX9_setTolerance 31 = .ok (.invokevirtual 82, 3) := by decide +kernel
theorem dX9_setTolerance_34 : decode cX9_setTolerance 34 = .ok (.pop, 1) := by decide +kernel
theorem dX9_setTolerance_35 : decode cX9_setTolerance 35 = .ok (.iload_n 2, 1) := by decide +kernel
theorem dX9_setTolerance_36 : decode cX9_setTolerance 36 = .ok (.ireturn, 1) := by decide +kernel
theorem dX9_setSpace_0 : decode cX9_setSpace 0 = .ok (.iload_n 1, 1) := by decide +kernel
theorem dX9_setSpace_1 : decode cX9_setSpace 1 = .ok (.invokestatic 106, 3) := by decide +kernel
theorem dX9_setSpace_4 : decode cX9_setSpace 4 = .ok (.ifCond .ne 7, 3) := by decide +kernel
theorem dX9_setSpace_7 : decode cX9_setSpace 7 = .ok (.sipush (-1001), 3) := by decide +kernel
theorem dX9_setSpace_10 : decode cX9_setSpace 10 = .ok (.ireturn, 1) := by decide +kernel
theorem dX9_setSpace_11 : decode cX9_setSpace 11 = .ok (.iload_n 2, 1) := by decide +kernel
theorem dX9_setSpace_12 : decode cX9_setSpace 12 = .ok (.iconst 1, 1) := by decide +kernel
theorem dX9_setSpace_13 : decode cX9_setSpace 13 = .ok (.if_icmp .lt 21, 3) := by decide +kernel
theorem dX9_setSpace_16 : decode cX9_setSpace 16 = .ok (.iload_n 3, 1) := by decide +kernel
theorem dX9_setSpace_17 : decode cX9_setSpace 17 = .ok (.iload_n 2, 1) := by decide +kernel
theorem dX9_setSpace_18 : decode cX9_setSpace 18 = .ok (.if_icmp .lt 16, 3) := by decide +kernel
theorem dX9_setSpace_21 : decode cX9_setSpace 21 = .ok (.iload 4, 2) := by decide +kernel
theorem dX9_setSpace_23 : decode cX9_setSpace 23 = .ok (.iload_n 3, 1) := by decide +kernel
theorem dX9_setSpace_24 : decode cX9_setSpace 24 = .ok (.if_icmp .lt 10, 3) := by decide +kernel
theorem dX9_setSpace_27 : decode cX9_setSpace 27 = .ok (.iload 4, 2) := by decide +kernel
theorem dX9_setSpace_29 : decode cX9_setSpace 29 = .ok (.bipush 40, 2) := by decide +kernel
theorem dX9_setSpace_31 : decode cX9_setSpace 31 = .ok (.if_icmp .le 7, 3) := by decide +kernel
theorem dX9_setSpace_34 : decode cX9_setSpace 34 = .ok (.sipush (-1002), 3) := by decide +kernel
theorem dX9_setSpace_37 : decode cX9_setSpace 37 = .ok (.ireturn, 1) := by decide +kernel
theorem dX9_setSpace_38 : decode cX9_setSpace 38 = .ok (.aload_n 0, 1) := by decide +kernel
theorem dX9_setSpace_39 : decode cX9_setSpace 39 = .ok (.getfield 39, 3) := by decide +kernel
theorem dX9_setSpace_42 : decode cX9_setSpace 42 = .ok (.getfield 110, 3) := by decide +kernel
theorem dX9_setSpace_45 : decode cX9_setSpace 45 = .ok (.iload_n 1, 1) := by decide +kernel
theorem dX9_setSpace_46 : decode cX9_setSpace 46 = .ok (.iaload, 1) := by decide +kernel
theorem dX9_setSpace_47 : decode cX9_setSpace 47 = .ok (.istore 5, 2) := by decide +kernel
theorem dX9_setSpace_49 : decode cX9_setSpace 49 = .ok (.aload_n 0, 1) := by decide +kernel
theorem dX9_setSpace_50 : decode cX9_setSpace 50 = .ok (.getfield 39, 3) := by decide +kernel
theorem dX9_setSpace_53 : decode cX9_setSpace 53 = .ok (.iload_n 1, 1) := by decide +kernel
theorem dX9_setSpace_54 : decode cX9_setSpace 54 = .ok (.iload_n 2, 1) := by decide +kernel
theorem dX9_setSpace_55 : decode cX9_setSpace 55 = .ok (.iload_n 3, 1) := by decide +kernel
theorem dX9_setSpace_56 : decode cX9_setSpace 56 = .ok (.iload 4, 2) := by decide +kernel
theorem dX9_setSpace_58 : decode cX9_setSpace 58 = .ok (.invokevirtual 114, 3) := by decide +kernel
theorem dX9_setSpace_61 : decode cX9_setSpace 61 = .ok (.aload_n 0, 1) := by decide +kernel
theorem dX9_setSpace_62 : decode cX9_setSpace 62 = .ok (.invokevirtual 82, 3) := by decide +kernel
theorem dX9_setSpace_65 : decode cX9_setSpace 65 = .ok (.pop, 1) := by decide +kernel
theorem dX9_setSpace_66 : decode cX9_setSpace 66 = .ok (.iload 5, 2) := by decide +kernel
theorem dX9_setSpace_68 : decode cX9_setSpace 68 = .ok (.ireturn, 1) := by decide +kernel
theorem dX9_layBest_0 : decode cX9_layBest 0 = .ok (.aload_n 0, 1) := by decide +kernel
theorem dX9_layBest_1 : decode cX9_layBest 1 = .ok (.getfield 60, 3) := by decide +kernel
theorem dX9_layBest_4 : decode cX9_layBest 4 = .ok (.invokevirtual 118, 3) := by decide +kernel
theorem dX9_layBest_7 : decode cX9_layBest 7 = .ok (.aload_n 0, 1) := by decide +kernel
theorem dX9_layBest_8 : decode cX9_layBest 8 = .ok (.getfield 60, 3) := by decide +kernel
theorem dX9_layBest_11 : decode cX9_layBest 11 = .ok (.getfield 121, 3) := by decide +kernel
theorem dX9_layBest_14 : decode cX9_layBest 14 = .ok (.ifCond .ne 9, 3) := by decide +kernel
theorem dX9_layBest_17 : decode cX9_layBest 17 = .ok (.sipush (-1004), 3) := by decide +kernel
theorem dX9_layBest_20 : decode cX9_layBest 20 = .ok (.goto 10, 3) := by decide +kernel
theorem dX9_layBest_23 : decode cX9_layBest 23 = .ok (.aload_n 0, 1) := by decide +kernel
theorem dX9_layBest_24 : decode cX9_layBest 24 = .ok (.getfield 60, 3) := by decide +kernel
theorem dX9_layBest_27 : decode cX9_layBest 27 = .ok (.getfield 121, 3) := by decide +kernel
theorem dX9_layBest_30 : decode cX9_layBest 30 = .ok (.ireturn, 1) := by decide +kernel
theorem dX9_takeSecond_0 : decode cX9_takeSecond 0 = .ok (.aload_n 0, 1) := by decide +kernel
theorem dX9_takeSecond_1 : decode cX9_takeSecond 1 = .ok (.getfield 60, 3) := by decide +kernel
theorem dX9_takeSecond_4 : decode cX9_takeSecond 4 = .ok (.iload_n 1, 1) := by decide +kernel
theorem dX9_takeSecond_5 : decode cX9_takeSecond 5 = .ok (.invokevirtual 124, 3) := by decide +kernel
theorem dX9_takeSecond_8 : decode cX9_takeSecond 8 = .ok (.ifCond .ne 7, 3) := by decide +kernel
theorem dX9_takeSecond_11 : decode cX9_takeSecond 11 = .ok (.sipush (-1001), 3) := by decide +kernel
theorem dX9_takeSecond_14 : decode cX9_takeSecond 14 = .ok (.ireturn, 1) := by decide +kernel
theorem dX9_takeSecond_15 : decode cX9_takeSecond 15 = .ok (.aload_n 0, 1) := by decide +kernel
theorem dX9_takeSecond_16 : decode cX9_takeSecond 16 = .ok (.getfield 60, 3) := by decide +kernel
theorem dX9_takeSecond_19 : decode cX9_takeSecond 19 = .ok (.iload_n 1, 1) := by decide +kernel
theorem dX9_takeSecond_20 : decode cX9_takeSecond 20 = .ok (.invokevirtual 127, 3) := by decide +kernel
theorem dX9_takeSecond_23 : decode cX9_takeSecond 23 = .ok (.istore_n 2, 1) := by decide +kernel
theorem dX9_takeSecond_24 : decode cX9_takeSecond 24 = .ok (.iload_n 2, 1) := by decide +kernel
theorem dX9_takeSecond_25 : decode cX9_takeSecond 25 = .ok (.iconst (-1), 1) := by decide +kernel
theorem dX9_takeSecond_26 : decode cX9_takeSecond 26 = .ok (.if_icmp .ne 7, 3) := by decide +kernel
theorem dX9_takeSecond_29 : decode cX9_takeSecond 29 = .ok (.sipush (-1004), 3) := by decide +kernel
theorem dX9_takeSecond_32 : decode cX9_takeSecond 32 = .ok (.ireturn, 1) := by decide +kernel
theorem dX9_takeSecond_33 : decode cX9_takeSecond 33 = .ok (.aload_n 0, 1) := by decide +kernel
theorem dX9_takeSecond_34 : decode cX9_takeSecond 34 = .ok (.getfield 60, 3) := by decide +kernel
theorem dX9_takeSecond_37 : decode cX9_takeSecond 37 = .ok (.iload_n 1, 1) := by decide +kernel
theorem dX9_takeSecond_38 : decode cX9_takeSecond 38 = .ok (.iload_n 2, 1) := by decide +kernel
theorem dX9_takeSecond_39 : decode cX9_takeSecond 39 = .ok (.invokevirtual 131, 3) := by decide +kernel
theorem dX9_takeSecond_42 : decode cX9_takeSecond 42 = .ok (.aload_n 0, 1) := by decide +kernel
theorem dX9_takeSecond_43 : decode cX9_takeSecond 43 = .ok (.getfield 60, 3) := by decide +kernel
theorem dX9_takeSecond_46 : decode cX9_takeSecond 46 = .ok (.getfield 121, 3) := by decide +kernel
theorem dX9_takeSecond_49 : decode cX9_takeSecond 49 = .ok (.ireturn, 1) := by decide +kernel
theorem dX9_breakRivers_0 : decode cX9_breakRivers 0 = .ok (.iconst 0, 1) := by decide +kernel
theorem dX9_breakRivers_1 : decode cX9_breakRivers 1 = .ok (.istore_n 1, 1) := by decide +kernel
theorem dX9_breakRivers_2 : decode cX9_breakRivers 2 = .ok (.iload_n 1, 1) := by decide +kernel
theorem dX9_breakRivers_3 : decode cX9_breakRivers 3 = .ok (.bipush 10, 2) := by decide +kernel
theorem dX9_breakRivers_5 : decode cX9_breakRivers 5 = .ok (.if_icmp .ge 38, 3) := by decide +kernel
theorem dX9_breakRivers_8 : decode cX9_breakRivers 8 = .ok (.aload_n 0, 1) := by decide +kernel
theorem dX9_breakRivers_9 : decode cX9_breakRivers 9 = .ok (.invokevirtual 135, 3) := by decide +kernel
theorem dX9_breakRivers_12 : decode cX9_breakRivers 12 = .ok (.istore_n 2, 1) := by decide +kernel
theorem dX9_breakRivers_13 : decode cX9_breakRivers 13 = .ok (.iload_n 2, 1) := by decide +kernel
theorem dX9_breakRivers_14 : decode cX9_breakRivers 14 = .ok (.iconst (-1), 1) := by decide +kernel
theorem dX9_breakRivers_15 : decode cX9_breakRivers 15 = .ok (.if_icmp .ne 6, 3) := by decide +kernel
theorem dX9_breakRivers_18 : decode cX9_breakRivers 18 = .ok (.goto 25, 3) := by decide +kernel
theorem dX9_breakRivers_21 : decode cX9_breakRivers 21 = .ok (.aload_n 0, 1) := by decide +kernel
theorem dX9_breakRivers_22 : decode cX9_breakRivers 22 = .ok (.getfield 60, 3) := by decide +kernel
theorem dX9_breakRivers_25 : decode cX9_breakRivers 25 = .ok (.iload_n 2, 1) := by decide +kernel
theorem dX9_breakRivers_26 : decode cX9_breakRivers 26 = .ok (.aload_n 0, 1) := by decide +kernel
theorem dX9_breakRivers_27 : decode cX9_breakRivers 27 = .ok (.getfield 60, 3) := by decide +kernel
theorem dX9_breakRivers_30 : decode cX9_breakRivers 30 = .ok (.iload_n 2, 1) := by decide +kernel
theorem dX9_breakRivers_31 : decode cX9_breakRivers 31 = .ok (.invokevirtual 127, 3) := by decide +kernel
theorem dX9_breakRivers_34 : decode cX9_breakRivers 34 = .ok (.invokevirtual 131, 3) := by decide +kernel
theorem dX9_breakRivers_37 : decode cX9_breakRivers 37 = .ok (.iinc 1 1, 3) := by decide +kernel
theorem dX9_breakRivers_40 : decode cX9_breakRivers 40 = .ok (.goto (-38), 3) := by decide +kernel
theorem dX9_breakRivers_43 : decode cX9_breakRivers 43 = .ok (.iload_n 1, 1) := by decide +kernel
theorem dX9_breakRivers_44 : decode cX9_breakRivers 44 = .ok (.ireturn, 1) := by decide +kernel
theorem dX9_count_0 : decode cX9_count 0 = .ok (.iload_n 1, 1) := by decide +kernel
theorem dX9_count_1 : decode cX9_count 1 = .ok (.tableswitch 160 0 9 #[55, 63, 71, 79, 103, 114, 125, 136, 144, 152], 55) := by decide +kernel
theorem dX9_count_56 : decode cX9_count 56 = .ok (.aload_n 0, 1) := by decide +kernel
theorem dX9_count_57 : decode cX9_count 57 = .ok (.getfield 43, 3) := by decide +kernel
theorem dX9_count_60 : decode cX9_count 60 = .ok (.getfield 85, 3) := by decide +kernel
theorem dX9_count_63 : decode cX9_count 63 = .ok (.ireturn, 1) := by decide +kernel
theorem dX9_count_64 : decode cX9_count 64 = .ok (.aload_n 0, 1) := by decide +kernel
theorem dX9_count_65 : decode cX9_count 65 = .ok (.getfield 60, 3) := by decide +kernel
theorem dX9_count_68 : decode cX9_count 68 = .ok (.getfield 121, 3) := by decide +kernel
theorem dX9_count_71 : decode cX9_count 71 = .ok (.ireturn, 1) := by decide +kernel
theorem dX9_count_72 : decode cX9_count 72 = .ok (.aload_n 0, 1) := by decide +kernel
theorem dX9_count_73 : decode cX9_count 73 = .ok (.getfield 60, 3) := by decide +kernel
theorem dX9_count_76 : decode cX9_count 76 = .ok (.getfield 138, 3) := by decide +kernel
theorem dX9_count_79 : decode cX9_count 79 = .ok (.ireturn, 1) := by decide +kernel
theorem dX9_count_80 : decode cX9_count 80 = .ok (.aload_n 0, 1) := by decide +kernel
theorem dX9_count_81 : decode cX9_count 81 = .ok (.getfield 51, 3) := by decide +kernel
theorem dX9_count_84 : decode cX9_count 84 = .ok (.invokevirtual 141, 3) := by decide +kernel
theorem dX9_count_87 : decode cX9_count 87 = .ok (.ifCond .eq 15, 3) := by decide +kernel
theorem dX9_count_90 : decode cX9_count 90 = .ok (.aload_n 0, 1) := by decide +kernel
theorem dX9_count_91 : decode cX9_count 91 = .ok (.getfield 51, 3) := by decide +kernel
theorem dX9_count_94 : decode cX9_count 94 = .ok (.getfield 145, 3) := by decide +kernel
theorem dX9_count_97 : decode cX9_count 97 = .ok (.iconst 0, 1) := by decide +kernel
theorem dX9_count_98 : decode cX9_count 98 = .ok (.iaload, 1) := by decide +kernel
theorem dX9_count_99 : decode cX9_count 99 = .ok (.goto 4, 3) := by decide +kernel
theorem dX9_count_102 : decode cX9_count 102 = .ok (.iconst 0, 1) := by decide +kernel
theorem dX9_count_103 : decode cX9_count 103 = .ok (.ireturn, 1) := by decide +kernel
theorem dX9_count_104 : decode cX9_count 104 = .ok (.aload_n 0, 1) := by decide +kernel
theorem dX9_count_105 : decode cX9_count 105 = .ok (.getfield 60, 3) := by decide +kernel
theorem dX9_count_108 : decode cX9_count 108 = .ok (.getfield 148, 3) := by decide +kernel
theorem dX9_count_111 : decode cX9_count 111 = .ok (.getfield 152, 3) := by decide +kernel
theorem dX9_count_114 : decode cX9_count 114 = .ok (.ireturn, 1) := by decide +kernel
theorem dX9_count_115 : decode cX9_count 115 = .ok (.aload_n 0, 1) := by decide +kernel
theorem dX9_count_116 : decode cX9_count 116 = .ok (.getfield 60, 3) := by decide +kernel
theorem dX9_count_119 : decode cX9_count 119 = .ok (.getfield 148, 3) := by decide +kernel
theorem dX9_count_122 : decode cX9_count 122 = .ok (.getfield 157, 3) := by decide +kernel
theorem dX9_count_125 : decode cX9_count 125 = .ok (.ireturn, 1) := by decide +kernel
theorem dX9_count_126 : decode cX9_count 126 = .ok (.aload_n 0, 1) := by decide +kernel
theorem dX9_count_127 : decode cX9_count 127 = .ok (.getfield 60, 3) := by decide +kernel
theorem dX9_count_130 : decode cX9_count 130 = .ok (.getfield 148, 3) := by decide +kernel
theorem dX9_count_133 : decode cX9_count 133 = .ok (.getfield 160, 3) := by decide +kernel
theorem dX9_count_136 : decode cX9_count 136 = .ok (.ireturn, 1) := by decide +kernel
theorem dX9_count_137 : decode cX9_count 137 = .ok (.aload_n 0, 1) := by decide +kernel
theorem dX9_count_138 : decode cX9_count 138 = .ok (.getfield 39, 3) := by decide +kernel
theorem dX9_count_141 : decode cX9_count 141 = .ok (.getfield 97, 3) := by decide +kernel
theorem dX9_count_144 : decode cX9_count 144 = .ok (.ireturn, 1) := by decide +kernel
theorem dX9_count_145 : decode cX9_count 145 = .ok (.aload_n 0, 1) := by decide +kernel
theorem dX9_count_146 : decode cX9_count 146 = .ok (.getfield 39, 3) := by decide +kernel
theorem dX9_count_149 : decode cX9_count 149 = .ok (.getfield 100, 3) := by decide +kernel
theorem dX9_count_152 : decode cX9_count 152 = .ok (.ireturn, 1) := by decide +kernel
theorem dX9_count_153 : decode cX9_count 153 = .ok (.aload_n 0, 1) := by decide +kernel
theorem dX9_count_154 : decode cX9_count 154 = .ok (.getfield 39, 3) := by decide +kernel
theorem dX9_count_157 : decode cX9_count 157 = .ok (.getfield 103, 3) := by decide +kernel
theorem dX9_count_160 : decode cX9_count 160 = .ok (.ireturn, 1) := by decide +kernel
theorem dX9_count_161 : decode cX9_count 161 = .ok (.sipush (-1002), 3) := by decide +kernel
theorem dX9_count_164 : decode cX9_count 164 = .ok (.ireturn, 1) := by decide +kernel
theorem dX9_spaceWidth_0 : decode cX9_spaceWidth 0 = .ok (.iload_n 1, 1) := by decide +kernel
theorem dX9_spaceWidth_1 : decode cX9_spaceWidth 1 = .ok (.invokestatic 106, 3) := by decide +kernel
theorem dX9_spaceWidth_4 : decode cX9_spaceWidth 4 = .ok (.ifCond .ne 7, 3) := by decide +kernel
theorem dX9_spaceWidth_7 : decode cX9_spaceWidth 7 = .ok (.sipush (-1001), 3) := by decide +kernel
theorem dX9_spaceWidth_10 : decode cX9_spaceWidth 10 = .ok (.ireturn, 1) := by decide +kernel
theorem dX9_spaceWidth_11 : decode cX9_spaceWidth 11 = .ok (.iload_n 2, 1) := by decide +kernel
theorem dX9_spaceWidth_12 : decode cX9_spaceWidth 12 = .ok (.tableswitch 58 0 2 #[28, 38, 48], 28) := by decide +kernel
theorem dX9_spaceWidth_40 : decode cX9_spaceWidth 40 = .ok (.aload_n 0, 1) := by decide +kernel
theorem dX9_spaceWidth_41 : decode cX9_spaceWidth 41 = .ok (.getfield 39, 3) := by decide +kernel
theorem dX9_spaceWidth_44 : decode cX9_spaceWidth 44 = .ok (.getfield 163, 3) := by decide +kernel
theorem dX9_spaceWidth_47 : decode cX9_spaceWidth 47 = .ok (.iload_n 1, 1) := by decide +kernel
theorem dX9_spaceWidth_48 : decode cX9_spaceWidth 48 = .ok (.iaload, 1) := by decide +kernel
theorem dX9_spaceWidth_49 : decode cX9_spaceWidth 49 = .ok (.ireturn, 1) := by decide +kernel
theorem dX9_spaceWidth_50 : decode cX9_spaceWidth 50 = .ok (.aload_n 0, 1) := by decide +kernel
theorem dX9_spaceWidth_51 : decode cX9_spaceWidth 51 = .ok (.getfield 39, 3) := by decide +kernel
theorem dX9_spaceWidth_54 : decode cX9_spaceWidth 54 = .ok (.getfield 110, 3) := by decide +kernel
theorem dX9_spaceWidth_57 : decode cX9_spaceWidth 57 = .ok (.iload_n 1, 1) := by decide +kernel
theorem dX9_spaceWidth_58 : decode cX9_spaceWidth 58 = .ok (.iaload, 1) := by decide +kernel
theorem dX9_spaceWidth_59 : decode cX9_spaceWidth 59 = .ok (.ireturn, 1) := by decide +kernel
theorem dX9_spaceWidth_60 : decode cX9_spaceWidth 60 = .ok (.aload_n 0, 1) := by decide +kernel
theorem dX9_spaceWidth_61 : decode cX9_spaceWidth 61 = .ok (.getfield 39, 3) := by decide +kernel
theorem dX9_spaceWidth_64 : decode cX9_spaceWidth 64 = .ok (.getfield 166, 3) := by decide +kernel
theorem dX9_spaceWidth_67 : decode cX9_spaceWidth 67 = .ok (.iload_n 1, 1) := by decide +kernel
theorem dX9_spaceWidth_68 : decode cX9_spaceWidth 68 = .ok (.iaload, 1) := by decide +kernel
theorem dX9_spaceWidth_69 : decode cX9_spaceWidth 69 = .ok (.ireturn, 1) := by decide +kernel
theorem dX9_spaceWidth_70 : decode cX9_spaceWidth 70 = .ok (.sipush (-1002), 3) := by decide +kernel
theorem dX9_spaceWidth_73 : decode cX9_spaceWidth 73 = .ok (.ireturn, 1) := by decide +kernel
theorem dX9_word_0 : decode cX9_word 0 = .ok (.aload_n 0, 1) := by decide +kernel
theorem dX9_word_1 : decode cX9_word 1 = .ok (.getfield 43, 3) := by decide +kernel
theorem dX9_word_4 : decode cX9_word 4 = .ok (.iload_n 1, 1) := by decide +kernel
theorem dX9_word_5 : decode cX9_word 5 = .ok (.invokevirtual 169, 3) := by decide +kernel
theorem dX9_word_8 : decode cX9_word 8 = .ok (.ifCond .ne 7, 3) := by decide +kernel
theorem dX9_word_11 : decode cX9_word 11 = .ok (.sipush (-1001), 3) := by decide +kernel
theorem dX9_word_14 : decode cX9_word 14 = .ok (.ireturn, 1) := by decide +kernel
theorem dX9_word_15 : decode cX9_word 15 = .ok (.iload_n 2, 1) := by decide +kernel
theorem dX9_word_16 : decode cX9_word 16 = .ok (.tableswitch 88 0 3 #[32, 42, 52, 62], 32) := by decide +kernel
theorem dX9_word_48 : decode cX9_word 48 = .ok (.aload_n 0, 1) := by decide +kernel
theorem dX9_word_49 : decode cX9_word 49 = .ok (.getfield 43, 3) := by decide +kernel
theorem dX9_word_52 : decode cX9_word 52 = .ok (.getfield 172, 3) := by decide +kernel
theorem dX9_word_55 : decode cX9_word 55 = .ok (.iload_n 1, 1) := by decide +kernel
theorem dX9_word_56 : decode cX9_word 56 = .ok (.iaload, 1) := by decide +kernel
theorem dX9_word_57 : decode cX9_word 57 = .ok (.ireturn, 1) := by decide +kernel
theorem dX9_word_58 : decode cX9_word 58 = .ok (.aload_n 0, 1) := by decide +kernel
theorem dX9_word_59 : decode cX9_word 59 = .ok (.getfield 43, 3) := by decide +kernel
theorem dX9_word_62 : decode cX9_word 62 = .ok (.getfield 175, 3) := by decide +kernel
theorem dX9_word_65 : decode cX9_word 65 = .ok (.iload_n 1, 1) := by decide +kernel
theorem dX9_word_66 : decode cX9_word 66 = .ok (.iaload, 1) := by decide +kernel
theorem dX9_word_67 : decode cX9_word 67 = .ok (.ireturn, 1) := by decide +kernel
theorem dX9_word_68 : decode cX9_word 68 = .ok (.aload_n 0, 1) := by decide +kernel
theorem dX9_word_69 : decode cX9_word 69 = .ok (.getfield 43, 3) := by decide +kernel
theorem dX9_word_72 : decode cX9_word 72 = .ok (.getfield 178, 3) := by decide +kernel
theorem dX9_word_75 : decode cX9_word 75 = .ok (.iload_n 1, 1) := by decide +kernel
theorem dX9_word_76 : decode cX9_word 76 = .ok (.iaload, 1) := by decide +kernel
theorem dX9_word_77 : decode cX9_word 77 = .ok (.ireturn, 1) := by decide +kernel
theorem dX9_word_78 : decode cX9_word 78 = .ok (.aload_n 0, 1) := by decide +kernel
theorem dX9_word_79 : decode cX9_word 79 = .ok (.getfield 60, 3) := by decide +kernel
theorem dX9_word_82 : decode cX9_word 82 = .ok (.getfield 121, 3) := by decide +kernel
theorem dX9_word_85 : decode cX9_word 85 = .ok (.ifCond .ne 9, 3) := by decide +kernel
theorem dX9_word_88 : decode cX9_word 88 = .ok (.sipush (-1004), 3) := by decide +kernel
theorem dX9_word_91 : decode cX9_word 91 = .ok (.goto 12, 3) := by decide +kernel
theorem dX9_word_94 : decode cX9_word 94 = .ok (.aload_n 0, 1) := by decide +kernel
theorem dX9_word_95 : decode cX9_word 95 = .ok (.getfield 60, 3) := by decide +kernel
theorem dX9_word_98 : decode cX9_word 98 = .ok (.getfield 181, 3) := by decide +kernel
theorem dX9_word_101 : decode cX9_word 101 = .ok (.iload_n 1, 1) := by decide +kernel
theorem dX9_word_102 : decode cX9_word 102 = .ok (.iaload, 1) := by decide +kernel
theorem dX9_word_103 : decode cX9_word 103 = .ok (.ireturn, 1) := by decide +kernel
theorem dX9_word_104 : decode cX9_word 104 = .ok (.sipush (-1002), 3) := by decide +kernel
theorem dX9_word_107 : decode cX9_word 107 = .ok (.ireturn, 1) := by decide +kernel
theorem dX9_line_0 : decode cX9_line 0 = .ok (.aload_n 0, 1) := by decide +kernel
theorem dX9_line_1 : decode cX9_line 1 = .ok (.getfield 60, 3) := by decide +kernel
theorem dX9_line_4 : decode cX9_line 4 = .ok (.iload_n 1, 1) := by decide +kernel
theorem dX9_line_5 : decode cX9_line 5 = .ok (.invokevirtual 124, 3) := by decide +kernel
theorem dX9_line_8 : decode cX9_line 8 = .ok (.ifCond .ne 7, 3) := by decide +kernel
theorem dX9_line_11 : decode cX9_line 11 = .ok (.sipush (-1001), 3) := by decide +kernel
theorem dX9_line_14 : decode cX9_line 14 = .ok (.ireturn, 1) := by decide +kernel
theorem dX9_line_15 : decode cX9_line 15 = .ok (.aload_n 0, 1) := by decide +kernel
theorem dX9_line_16 : decode cX9_line 16 = .ok (.getfield 60, 3) := by decide +kernel
theorem dX9_line_19 : decode cX9_line 19 = .ok (.iload_n 1, 1) := by decide +kernel
theorem dX9_line_20 : decode cX9_line 20 = .ok (.invokevirtual 184, 3) := by decide +kernel
theorem dX9_line_23 : decode cX9_line 23 = .ok (.istore_n 3, 1) := by decide +kernel
theorem dX9_line_24 : decode cX9_line 24 = .ok (.aload_n 0, 1) := by decide +kernel
theorem dX9_line_25 : decode cX9_line 25 = .ok (.getfield 60, 3) := by decide +kernel
theorem dX9_line_28 : decode cX9_line 28 = .ok (.iload_n 1, 1) := by decide +kernel
theorem dX9_line_29 : decode cX9_line 29 = .ok (.invokevirtual 187, 3) := by decide +kernel
theorem dX9_line_32 : decode cX9_line 32 = .ok (.istore 4, 2) := by decide +kernel
theorem dX9_line_34 : decode cX9_line 34 = .ok (.iload_n 2, 1) := by decide +kernel
theorem dX9_line_35 : decode cX9_line 35 = .ok (.tableswitch 178 0 8 #[49, 51, 54, 65, 84, 95, 106, 118, 131], 49) := by decide +kernel
theorem dX9_line_84 : decode cX9_line 84 = .ok (.iload_n 3, 1) := by decide +kernel
theorem dX9_line_85 : decode cX9_line 85 = .ok (.ireturn, 1) := by decide +kernel
theorem dX9_line_86 : decode cX9_line 86 = .ok (.iload 4, 2) := by decide +kernel
theorem dX9_line_88 : decode cX9_line 88 = .ok (.ireturn, 1) := by decide +kernel
theorem dX9_line_89 : decode cX9_line 89 = .ok (.aload_n 0, 1) := by decide +kernel
theorem dX9_line_90 : decode cX9_line 90 = .ok (.getfield 47, 3) := by decide +kernel
theorem dX9_line_93 : decode cX9_line 93 = .ok (.iload_n 3, 1) := by decide +kernel
theorem dX9_line_94 : decode cX9_line 94 = .ok (.iload 4, 2) := by decide +kernel
theorem dX9_line_96 : decode cX9_line 96 = .ok (.invokevirtual 190, 3) := by decide +kernel
theorem dX9_line_99 : decode cX9_line 99 = .ok (.ireturn, 1) := by decide +kernel
theorem dX9_line_100 : decode cX9_line 100 = .ok (.aload_n 0, 1) := by decide +kernel
theorem dX9_line_101 : decode cX9_line 101 = .ok (.getfield 39, 3) := by decide +kernel
theorem dX9_line_104 : decode cX9_line 104 = .ok (.getfield 97, 3) := by decide +kernel
theorem dX9_line_107 : decode cX9_line 107 = .ok (.aload_n 0, 1) := by decide +kernel
theorem dX9_line_108 : decode cX9_line 108 = .ok (.getfield 47, 3) := by decide +kernel
theorem dX9_line_111 : decode cX9_line 111 = .ok (.iload_n 3, 1) := by decide +kernel
theorem dX9_line_112 : decode cX9_line 112 = .ok (.iload 4, 2) := by decide +kernel
theorem dX9_line_114 : decode cX9_line 114 = .ok (.invokevirtual 190, 3) := by decide +kernel
theorem dX9_line_117 : decode cX9_line 117 = .ok (.isub, 1) := by decide +kernel
theorem dX9_line_118 : decode cX9_line 118 = .ok (.ireturn, 1) := by decide +kernel
theorem dX9_line_119 : decode cX9_line 119 = .ok (.aload_n 0, 1) := by decide +kernel
theorem dX9_line_120 : decode cX9_line 120 = .ok (.getfield 47, 3) := by decide +kernel
theorem dX9_line_123 : decode cX9_line 123 = .ok (.iload_n 3, 1) := by decide +kernel
theorem dX9_line_124 : decode cX9_line 124 = .ok (.iload 4, 2) := by decide +kernel
theorem dX9_line_126 : decode cX9_line 126 = .ok (.invokevirtual 194, 3) := by decide +kernel
theorem dX9_line_129 : decode cX9_line 129 = .ok (.ireturn, 1) := by decide +kernel
theorem dX9_line_130 : decode cX9_line 130 = .ok (.aload_n 0, 1) := by decide +kernel
theorem dX9_line_131 : decode cX9_line 131 = .ok (.getfield 47, 3) := by decide +kernel
theorem dX9_line_134 : decode cX9_line 134 = .ok (.iload_n 3, 1) := by decide +kernel
theorem dX9_line_135 : decode cX9_line 135 = .ok (.iload 4, 2) := by decide +kernel
theorem dX9_line_137 : decode cX9_line 137 = .ok (.invokevirtual 197, 3) := by decide +kernel
theorem dX9_line_140 : decode cX9_line 140 = .ok (.ireturn, 1) := by decide +kernel
theorem dX9_line_141 : decode cX9_line 141 = .ok (.aload_n 0, 1) := by decide +kernel
theorem dX9_line_142 : decode cX9_line 142 = .ok (.getfield 47, 3) := by decide +kernel
theorem dX9_line_145 : decode cX9_line 145 = .ok (.getfield 199, 3) := by decide +kernel
theorem dX9_line_148 : decode cX9_line 148 = .ok (.iload_n 3, 1) := by decide +kernel
theorem dX9_line_149 : decode cX9_line 149 = .ok (.invokestatic 202, 3) := by decide +kernel
theorem dX9_line_152 : decode cX9_line 152 = .ok (.ireturn, 1) := by decide +kernel
theorem dX9_line_153 : decode cX9_line 153 = .ok (.aload_n 0, 1) := by decide +kernel
theorem dX9_line_154 : decode cX9_line 154 = .ok (.getfield 47, 3) := by decide +kernel
theorem dX9_line_157 : decode cX9_line 157 = .ok (.getfield 206, 3) := by decide +kernel
theorem dX9_line_160 : decode cX9_line 160 = .ok (.iload 4, 2) := by decide +kernel
theorem dX9_line_162 : decode cX9_line 162 = .ok (.invokestatic 202, 3) := by decide +kernel
theorem dX9_line_165 : decode cX9_line 165 = .ok (.ireturn, 1) := by decide +kernel
theorem dX9_line_166 : decode cX9_line 166 = .ok (.aload_n 0, 1) := by decide +kernel
theorem dX9_line_167 : decode cX9_line 167 = .ok (.getfield 60, 3) := by decide +kernel
theorem dX9_line_170 : decode cX9_line 170 = .ok (.iload 4, 2) := by decide +kernel
theorem dX9_line_172 : decode cX9_line 172 = .ok (.invokevirtual 209, 3) := by decide +kernel
theorem dX9_line_175 : decode cX9_line 175 = .ok (.aload_n 0, 1) := by decide +kernel
theorem dX9_line_176 : decode cX9_line 176 = .ok (.getfield 60, 3) := by decide +kernel
theorem dX9_line_179 : decode cX9_line 179 = .ok (.getfield 212, 3) := by decide +kernel
theorem dX9_line_182 : decode cX9_line 182 = .ok (.iload_n 3, 1) := by decide +kernel
theorem dX9_line_183 : decode cX9_line 183 = .ok (.invokestatic 202, 3) := by decide +kernel
theorem dX9_line_186 : decode cX9_line 186 = .ok (.isub, 1) := by decide +kernel
theorem dX9_line_187 : decode cX9_line 187 = .ok (.aload_n 0, 1) := by decide +kernel
theorem dX9_line_188 : decode cX9_line 188 = .ok (.getfield 47, 3) := by decide +kernel
theorem dX9_line_191 : decode cX9_line 191 = .ok (.getfield 199, 3) := by decide +kernel
theorem dX9_line_194 : decode cX9_line 194 = .ok (.iload_n 3, 1) := by decide +kernel
theorem dX9_line_195 : decode cX9_line 195 = .ok (.invokestatic 202, 3) := by decide +kernel
theorem dX9_line_198 : decode cX9_line 198 = .ok (.isub, 1) := by decide +kernel
theorem dX9_line_199 : decode cX9_line 199 = .ok (.aload_n 0, 1) := by decide +kernel
theorem dX9_line_200 : decode cX9_line 200 = .ok (.getfield 47, 3) := by decide +kernel
theorem dX9_line_203 : decode cX9_line 203 = .ok (.getfield 206, 3) := by decide +kernel
theorem dX9_line_206 : decode cX9_line 206 = .ok (.iload 4, 2) := by decide +kernel
theorem dX9_line_208 : decode cX9_line 208 = .ok (.invokestatic 202, 3) := by decide +kernel
theorem dX9_line_211 : decode cX9_line 211 = .ok (.isub, 1) := by decide +kernel
theorem dX9_line_212 : decode cX9_line 212 = .ok (.ireturn, 1) := by decide +kernel
theorem dX9_line_213 : decode cX9_line 213 = .ok (.sipush (-1002), 3) := by decide +kernel
theorem dX9_line_216 : decode cX9_line 216 = .ok (.ireturn, 1) := by decide +kernel
theorem dX9_space_0 : decode cX9_space 0 = .ok (.aload_n 0, 1) := by decide +kernel
theorem dX9_space_1 : decode cX9_space 1 = .ok (.getfield 60, 3) := by decide +kernel
theorem dX9_space_4 : decode cX9_space 4 = .ok (.iload_n 1, 1) := by decide +kernel
theorem dX9_space_5 : decode cX9_space 5 = .ok (.invokevirtual 124, 3) := by decide +kernel
theorem dX9_space_8 : decode cX9_space 8 = .ok (.ifCond .ne 7, 3) := by decide +kernel
theorem dX9_space_11 : decode cX9_space 11 = .ok (.sipush (-1001), 3) := by decide +kernel
theorem dX9_space_14 : decode cX9_space 14 = .ok (.ireturn, 1) := by decide +kernel
theorem dX9_space_15 : decode cX9_space 15 = .ok (.aload_n 0, 1) := by decide +kernel
theorem dX9_space_16 : decode cX9_space 16 = .ok (.getfield 60, 3) := by decide +kernel
theorem dX9_space_19 : decode cX9_space 19 = .ok (.iload_n 1, 1) := by decide +kernel
theorem dX9_space_20 : decode cX9_space 20 = .ok (.invokevirtual 184, 3) := by decide +kernel
theorem dX9_space_23 : decode cX9_space 23 = .ok (.istore 4, 2) := by decide +kernel
theorem dX9_space_25 : decode cX9_space 25 = .ok (.iload_n 2, 1) := by decide +kernel
theorem dX9_space_26 : decode cX9_space 26 = .ok (.ifCond .lt 18, 3) := by decide +kernel
theorem dX9_space_29 : decode cX9_space 29 = .ok (.iload_n 2, 1) := by decide +kernel
theorem dX9_space_30 : decode cX9_space 30 = .ok (.aload_n 0, 1) := by decide +kernel
theorem dX9_space_31 : decode cX9_space 31 = .ok (.getfield 60, 3) := by decide +kernel
theorem dX9_space_34 : decode cX9_space 34 = .ok (.iload_n 1, 1) := by decide +kernel
theorem dX9_space_35 : decode cX9_space 35 = .ok (.invokevirtual 187, 3) := by decide +kernel
theorem dX9_space_38 : decode cX9_space 38 = .ok (.iload 4, 2) := by decide +kernel
theorem dX9_space_40 : decode cX9_space 40 = .ok (.isub, 1) := by decide +kernel
theorem dX9_space_41 : decode cX9_space 41 = .ok (.if_icmp .lt 7, 3) := by decide +kernel
theorem dX9_space_44 : decode cX9_space 44 = .ok (.sipush (-1001), 3) := by decide +kernel
theorem dX9_space_47 : decode cX9_space 47 = .ok (.ireturn, 1) := by decide +kernel
theorem dX9_space_48 : decode cX9_space 48 = .ok (.iload 4, 2) := by decide +kernel
theorem dX9_space_50 : decode cX9_space 50 = .ok (.iload_n 2, 1) := by decide +kernel
theorem dX9_space_51 : decode cX9_space 51 = .ok (.iadd, 1) := by decide +kernel
theorem dX9_space_52 : decode cX9_space 52 = .ok (.istore 5, 2) := by decide +kernel
theorem dX9_space_54 : decode cX9_space 54 = .ok (.iload_n 3, 1) := by decide +kernel
theorem dX9_space_55 : decode cX9_space 55 = .ok (.tableswitch 81 0 3 #[29, 42, 52, 65], 29) := by decide +kernel
theorem dX9_space_84 : decode cX9_space 84 = .ok (.aload_n 0, 1) := by decide +kernel
theorem dX9_space_85 : decode cX9_space 85 = .ok (.getfield 60, 3) := by decide +kernel
theorem dX9_space_88 : decode cX9_space 88 = .ok (.getfield 215, 3) := by decide +kernel
theorem dX9_space_91 : decode cX9_space 91 = .ok (.iload 5, 2) := by decide +kernel
theorem dX9_space_93 : decode cX9_space 93 = .ok (.invokestatic 202, 3) := by decide +kernel
theorem dX9_space_96 : decode cX9_space 96 = .ok (.ireturn, 1) := by decide +kernel
theorem dX9_space_97 : decode cX9_space 97 = .ok (.aload_n 0, 1) := by decide +kernel
theorem dX9_space_98 : decode cX9_space 98 = .ok (.getfield 60, 3) := by decide +kernel
theorem dX9_space_101 : decode cX9_space 101 = .ok (.iload 5, 2) := by decide +kernel
theorem dX9_space_103 : decode cX9_space 103 = .ok (.invokevirtual 209, 3) := by decide +kernel
theorem dX9_space_106 : decode cX9_space 106 = .ok (.ireturn, 1) := by decide +kernel
theorem dX9_space_107 : decode cX9_space 107 = .ok (.aload_n 0, 1) := by decide +kernel
theorem dX9_space_108 : decode cX9_space 108 = .ok (.getfield 43, 3) := by decide +kernel
theorem dX9_space_111 : decode cX9_space 111 = .ok (.getfield 178, 3) := by decide +kernel
theorem dX9_space_114 : decode cX9_space 114 = .ok (.iload 5, 2) := by decide +kernel
theorem dX9_space_116 : decode cX9_space 116 = .ok (.invokestatic 202, 3) := by decide +kernel
theorem dX9_space_119 : decode cX9_space 119 = .ok (.ireturn, 1) := by decide +kernel
theorem dX9_space_120 : decode cX9_space 120 = .ok (.aload_n 0, 1) := by decide +kernel
theorem dX9_space_121 : decode cX9_space 121 = .ok (.getfield 60, 3) := by decide +kernel
theorem dX9_space_124 : decode cX9_space 124 = .ok (.getfield 148, 3) := by decide +kernel
theorem dX9_space_127 : decode cX9_space 127 = .ok (.getfield 218, 3) := by decide +kernel
theorem dX9_space_130 : decode cX9_space 130 = .ok (.iload 5, 2) := by decide +kernel
theorem dX9_space_132 : decode cX9_space 132 = .ok (.invokestatic 202, 3) := by decide +kernel
theorem dX9_space_135 : decode cX9_space 135 = .ok (.ireturn, 1) := by decide +kernel
theorem dX9_space_136 : decode cX9_space 136 = .ok (.sipush (-1002), 3) := by decide +kernel
theorem dX9_space_139 : decode cX9_space 139 = .ok (.ireturn, 1) := by decide +kernel
theorem dX9_begin_0 : decode cX9_begin 0 = .ok (.aload_n 0, 1) := by decide +kernel
theorem dX9_begin_1 : decode cX9_begin 1 = .ok (.getfield 43, 3) := by decide +kernel
theorem dX9_begin_4 : decode cX9_begin 4 = .ok (.iload_n 1, 1) := by decide +kernel
theorem dX9_begin_5 : decode cX9_begin 5 = .ok (.invokevirtual 169, 3) := by decide +kernel
theorem dX9_begin_8 : decode cX9_begin 8 = .ok (.ifCond .ne 7, 3) := by decide +kernel
theorem dX9_begin_11 : decode cX9_begin 11 = .ok (.sipush (-1001), 3) := by decide +kernel
theorem dX9_begin_14 : decode cX9_begin 14 = .ok (.ireturn, 1) := by decide +kernel
theorem dX9_begin_15 : decode cX9_begin 15 = .ok (.aload_n 0, 1) := by decide +kernel
theorem dX9_begin_16 : decode cX9_begin 16 = .ok (.getfield 60, 3) := by decide +kernel
theorem dX9_begin_19 : decode cX9_begin 19 = .ok (.getfield 121, 3) := by decide +kernel
theorem dX9_begin_22 : decode cX9_begin 22 = .ok (.ifCond .ne 9, 3) := by decide +kernel
theorem dX9_begin_25 : decode cX9_begin 25 = .ok (.sipush (-1004), 3) := by decide +kernel
theorem dX9_begin_28 : decode cX9_begin 28 = .ok (.goto 12, 3) := by decide +kernel
theorem dX9_begin_31 : decode cX9_begin 31 = .ok (.aload_n 0, 1) := by decide +kernel
theorem dX9_begin_32 : decode cX9_begin 32 = .ok (.getfield 60, 3) := by decide +kernel
theorem dX9_begin_35 : decode cX9_begin 35 = .ok (.getfield 212, 3) := by decide +kernel
theorem dX9_begin_38 : decode cX9_begin 38 = .ok (.iload_n 1, 1) := by decide +kernel
theorem dX9_begin_39 : decode cX9_begin 39 = .ok (.iaload, 1) := by decide +kernel
theorem dX9_begin_40 : decode cX9_begin 40 = .ok (.ireturn, 1) := by decide +kernel
theorem dX9_second_0 : decode cX9_second 0 = .ok (.aload_n 0, 1) := by decide +kernel
theorem dX9_second_1 : decode cX9_second 1 = .ok (.getfield 60, 3) := by decide +kernel
theorem dX9_second_4 : decode cX9_second 4 = .ok (.iload_n 1, 1) := by decide +kernel
theorem dX9_second_5 : decode cX9_second 5 = .ok (.invokevirtual 124, 3) := by decide +kernel
theorem dX9_second_8 : decode cX9_second 8 = .ok (.ifCond .ne 7, 3) := by decide +kernel
theorem dX9_second_11 : decode cX9_second 11 = .ok (.sipush (-1001), 3) := by decide +kernel
theorem dX9_second_14 : decode cX9_second 14 = .ok (.ireturn, 1) := by decide +kernel
theorem dX9_second_15 : decode cX9_second 15 = .ok (.iload_n 2, 1) := by decide +kernel
theorem dX9_second_16 : decode cX9_second 16 = .ok (.ifCond .lt 8, 3) := by decide +kernel
theorem dX9_second_19 : decode cX9_second 19 = .ok (.iload_n 2, 1) := by decide +kernel
theorem dX9_second_20 : decode cX9_second 20 = .ok (.iconst 1, 1) := by decide +kernel
theorem dX9_second_21 : decode cX9_second 21 = .ok (.if_icmp .le 7, 3) := by decide +kernel
theorem dX9_second_24 : decode cX9_second 24 = .ok (.sipush (-1002), 3) := by decide +kernel
theorem dX9_second_27 : decode cX9_second 27 = .ok (.ireturn, 1) := by decide +kernel
theorem dX9_second_28 : decode cX9_second 28 = .ok (.aload_n 0, 1) := by decide +kernel
theorem dX9_second_29 : decode cX9_second 29 = .ok (.getfield 60, 3) := by decide +kernel
theorem dX9_second_32 : decode cX9_second 32 = .ok (.iload_n 1, 1) := by decide +kernel
theorem dX9_second_33 : decode cX9_second 33 = .ok (.invokevirtual 127, 3) := by decide +kernel
theorem dX9_second_36 : decode cX9_second 36 = .ok (.istore_n 3, 1) := by decide +kernel
theorem dX9_second_37 : decode cX9_second 37 = .ok (.iload_n 3, 1) := by decide +kernel
theorem dX9_second_38 : decode cX9_second 38 = .ok (.iconst (-1), 1) := by decide +kernel
theorem dX9_second_39 : decode cX9_second 39 = .ok (.if_icmp .ne 7, 3) := by decide +kernel
theorem dX9_second_42 : decode cX9_second 42 = .ok (.sipush (-1004), 3) := by decide +kernel
theorem dX9_second_45 : decode cX9_second 45 = .ok (.ireturn, 1) := by decide +kernel
theorem dX9_second_46 : decode cX9_second 46 = .ok (.iload_n 2, 1) := by decide +kernel
theorem dX9_second_47 : decode cX9_second 47 = .ok (.ifCond .ne 5, 3) := by decide +kernel
theorem dX9_second_50 : decode cX9_second 50 = .ok (.iload_n 3, 1) := by decide +kernel
theorem dX9_second_51 : decode cX9_second 51 = .ok (.ireturn, 1) := by decide +kernel
theorem dX9_second_52 : decode cX9_second 52 = .ok (.aload_n 0, 1) := by decide +kernel
theorem dX9_second_53 : decode cX9_second 53 = .ok (.getfield 60, 3) := by decide +kernel
theorem dX9_second_56 : decode cX9_second 56 = .ok (.iload_n 1, 1) := by decide +kernel
theorem dX9_second_57 : decode cX9_second 57 = .ok (.invokevirtual 221, 3) := by decide +kernel
theorem dX9_second_60 : decode cX9_second 60 = .ok (.aload_n 0, 1) := by decide +kernel
theorem dX9_second_61 : decode cX9_second 61 = .ok (.getfield 51, 3) := by decide +kernel
theorem dX9_second_64 : decode cX9_second 64 = .ok (.aload_n 0, 1) := by decide +kernel
theorem dX9_second_65 : decode cX9_second 65 = .ok (.getfield 60, 3) := by decide +kernel
theorem dX9_second_68 : decode cX9_second 68 = .ok (.iload_n 1, 1) := by decide +kernel
theorem dX9_second_69 : decode cX9_second 69 = .ok (.invokevirtual 184, 3) := by decide +kernel
theorem dX9_second_72 : decode cX9_second 72 = .ok (.iload_n 3, 1) := by decide +kernel
theorem dX9_second_73 : decode cX9_second 73 = .ok (.invokevirtual 224, 3) := by decide +kernel
theorem dX9_second_76 : decode cX9_second 76 = .ok (.iadd, 1) := by decide +kernel
theorem dX9_second_77 : decode cX9_second 77 = .ok (.ireturn, 1) := by decide +kernel
theorem dX9_worst_0 : decode cX9_worst 0 = .ok (.iload_n 1, 1) := by decide +kernel
theorem dX9_worst_1 : decode cX9_worst 1 = .ok (.ifCond .ge 7, 3) := by decide +kernel
theorem dX9_worst_4 : decode cX9_worst 4 = .ok (.sipush (-1002), 3) := by decide +kernel
theorem dX9_worst_7 : decode cX9_worst 7 = .ok (.ireturn, 1) := by decide +kernel
theorem dX9_worst_8 : decode cX9_worst 8 = .ok (.iconst 0, 1) := by decide +kernel
theorem dX9_worst_9 : decode cX9_worst 9 = .ok (.istore_n 2, 1) := by decide +kernel
theorem dX9_worst_10 : decode cX9_worst 10 = .ok (.iload_n 2, 1) := by decide +kernel
theorem dX9_worst_11 : decode cX9_worst 11 = .ok (.aload_n 0, 1) := by decide +kernel
theorem dX9_worst_12 : decode cX9_worst 12 = .ok (.getfield 60, 3) := by decide +kernel
theorem dX9_worst_15 : decode cX9_worst 15 = .ok (.getfield 121, 3) := by decide +kernel
theorem dX9_worst_18 : decode cX9_worst 18 = .ok (.if_icmp .ge 23, 3) := by decide +kernel
theorem dX9_worst_21 : decode cX9_worst 21 = .ok (.aload_n 0, 1) := by decide +kernel
theorem dX9_worst_22 : decode cX9_worst 22 = .ok (.getfield 60, 3) := by decide +kernel
theorem dX9_worst_25 : decode cX9_worst 25 = .ok (.iload_n 2, 1) := by decide +kernel
theorem dX9_worst_26 : decode cX9_worst 26 = .ok (.invokevirtual 227, 3) := by decide +kernel
theorem dX9_worst_29 : decode cX9_worst 29 = .ok (.iload_n 1, 1) := by decide +kernel
theorem dX9_worst_30 : decode cX9_worst 30 = .ok (.if_icmp .ne 5, 3) := by decide +kernel
theorem dX9_worst_33 : decode cX9_worst 33 = .ok (.iload_n 2, 1) := by decide +kernel
theorem dX9_worst_34 : decode cX9_worst 34 = .ok (.ireturn, 1) := by decide +kernel
theorem dX9_worst_35 : decode cX9_worst 35 = .ok (.iinc 2 1, 3) := by decide +kernel
theorem dX9_worst_38 : decode cX9_worst 38 = .ok (.goto (-28), 3) := by decide +kernel
theorem dX9_worst_41 : decode cX9_worst 41 = .ok (.sipush (-1004), 3) := by decide +kernel
theorem dX9_worst_44 : decode cX9_worst 44 = .ok (.ireturn, 1) := by decide +kernel
theorem dX9_river_0 : decode cX9_river 0 = .ok (.iload_n 1, 1) := by decide +kernel
theorem dX9_river_1 : decode cX9_river 1 = .ok (.ifCond .lt 17, 3) := by decide +kernel
theorem dX9_river_4 : decode cX9_river 4 = .ok (.iload_n 1, 1) := by decide +kernel
theorem dX9_river_5 : decode cX9_river 5 = .ok (.aload_n 0, 1) := by decide +kernel
theorem dX9_river_6 : decode cX9_river 6 = .ok (.getfield 60, 3) := by decide +kernel
theorem dX9_river_9 : decode cX9_river 9 = .ok (.getfield 148, 3) := by decide +kernel
theorem dX9_river_12 : decode cX9_river 12 = .ok (.getfield 152, 3) := by decide +kernel
theorem dX9_river_15 : decode cX9_river 15 = .ok (.if_icmp .lt 7, 3) := by decide +kernel
theorem dX9_river_18 : decode cX9_river 18 = .ok (.sipush (-1001), 3) := by decide +kernel
theorem dX9_river_21 : decode cX9_river 21 = .ok (.ireturn, 1) := by decide +kernel
theorem dX9_river_22 : decode cX9_river 22 = .ok (.iload_n 2, 1) := by decide +kernel
theorem dX9_river_23 : decode cX9_river 23 = .ok (.ifCond .ge 7, 3) := by decide +kernel
theorem dX9_river_26 : decode cX9_river 26 = .ok (.sipush (-1002), 3) := by decide +kernel
theorem dX9_river_29 : decode cX9_river 29 = .ok (.ireturn, 1) := by decide +kernel
theorem dX9_river_30 : decode cX9_river 30 = .ok (.aload_n 0, 1) := by decide +kernel
theorem dX9_river_31 : decode cX9_river 31 = .ok (.getfield 60, 3) := by decide +kernel
theorem dX9_river_34 : decode cX9_river 34 = .ok (.getfield 148, 3) := by decide +kernel
theorem dX9_river_37 : decode cX9_river 37 = .ok (.iload_n 1, 1) := by decide +kernel
theorem dX9_river_38 : decode cX9_river 38 = .ok (.iload_n 2, 1) := by decide +kernel
theorem dX9_river_39 : decode cX9_river 39 = .ok (.invokevirtual 230, 3) := by decide +kernel
theorem dX9_river_42 : decode cX9_river 42 = .ok (.istore_n 3, 1) := by decide +kernel
theorem dX9_river_43 : decode cX9_river 43 = .ok (.iload_n 3, 1) := by decide +kernel
theorem dX9_river_44 : decode cX9_river 44 = .ok (.iconst (-1), 1) := by decide +kernel
theorem dX9_river_45 : decode cX9_river 45 = .ok (.if_icmp .ne 7, 3) := by decide +kernel
theorem dX9_river_48 : decode cX9_river 48 = .ok (.sipush (-1004), 3) := by decide +kernel
theorem dX9_river_51 : decode cX9_river 51 = .ok (.ireturn, 1) := by decide +kernel
theorem dX9_river_52 : decode cX9_river 52 = .ok (.aload_n 0, 1) := by decide +kernel
theorem dX9_river_53 : decode cX9_river 53 = .ok (.getfield 60, 3) := by decide +kernel
theorem dX9_river_56 : decode cX9_river 56 = .ok (.getfield 181, 3) := by decide +kernel
theorem dX9_river_59 : decode cX9_river 59 = .ok (.iload_n 3, 1) := by decide +kernel
theorem dX9_river_60 : decode cX9_river 60 = .ok (.invokestatic 202, 3) := by decide +kernel
theorem dX9_river_63 : decode cX9_river 63 = .ok (.istore 4, 2) := by decide +kernel
theorem dX9_river_65 : decode cX9_river 65 = .ok (.iload 4, 2) := by decide +kernel
theorem dX9_river_67 : decode cX9_river 67 = .ok (.bipush 100, 2) := by decide +kernel
theorem dX9_river_69 : decode cX9_river 69 = .ok (.imul, 1) := by decide +kernel
theorem dX9_river_70 : decode cX9_river 70 = .ok (.iload_n 3, 1) := by decide +kernel
theorem dX9_river_71 : decode cX9_river 71 = .ok (.iadd, 1) := by decide +kernel
theorem dX9_river_72 : decode cX9_river 72 = .ok (.aload_n 0, 1) := by decide +kernel
theorem dX9_river_73 : decode cX9_river 73 = .ok (.getfield 60, 3) := by decide +kernel
theorem dX9_river_76 : decode cX9_river 76 = .ok (.iload 4, 2) := by decide +kernel
theorem dX9_river_78 : decode cX9_river 78 = .ok (.invokevirtual 184, 3) := by decide +kernel
theorem dX9_river_81 : decode cX9_river 81 = .ok (.isub, 1) := by decide +kernel
theorem dX9_river_82 : decode cX9_river 82 = .ok (.ireturn, 1) := by decide +kernel
theorem dX9_at_0 : decode cX9_at 0 = .ok (.iload_n 1, 1) := by decide +kernel
theorem dX9_at_1 : decode cX9_at 1 = .ok (.ifCond .lt 15, 3) := by decide +kernel
theorem dX9_at_4 : decode cX9_at 4 = .ok (.iload_n 1, 1) := by decide +kernel
theorem dX9_at_5 : decode cX9_at 5 = .ok (.aload_n 0, 1) := by decide +kernel
theorem dX9_at_6 : decode cX9_at 6 = .ok (.arraylength, 1) := by decide +kernel
theorem dX9_at_7 : decode cX9_at 7 = .ok (.if_icmp .ge 9, 3) := by decide +kernel
theorem dX9_at_10 : decode cX9_at 10 = .ok (.aload_n 0, 1) := by decide +kernel
theorem dX9_at_11 : decode cX9_at 11 = .ok (.iload_n 1, 1) := by decide +kernel
theorem dX9_at_12 : decode cX9_at 12 = .ok (.iaload, 1) := by decide +kernel
theorem dX9_at_13 : decode cX9_at 13 = .ok (.goto 4, 3) := by decide +kernel
theorem dX9_at_16 : decode cX9_at 16 = .ok (.iconst 0, 1) := by decide +kernel
theorem dX9_at_17 : decode cX9_at 17 = .ok (.ireturn, 1) := by decide +kernel
theorem dX9_isKind_0 : decode cX9_isKind 0 = .ok (.iload_n 0, 1) := by decide +kernel
theorem dX9_isKind_1 : decode cX9_isKind 1 = .ok (.ifCond .lt 12, 3) := by decide +kernel
theorem dX9_isKind_4 : decode cX9_isKind 4 = .ok (.iload_n 0, 1) := by decide +kernel
theorem dX9_isKind_5 : decode cX9_isKind 5 = .ok (.iconst 3, 1) := by decide +kernel
theorem dX9_isKind_6 : decode cX9_isKind 6 = .ok (.if_icmp .ge 7, 3) := by decide +kernel
theorem dX9_isKind_9 : decode cX9_isKind 9 = .ok (.iconst 1, 1) := by decide +kernel
theorem dX9_isKind_10 : decode cX9_isKind 10 = .ok (.goto 4, 3) := by decide +kernel
theorem dX9_isKind_13 : decode cX9_isKind 13 = .ok (.iconst 0, 1) := by decide +kernel
theorem dX9_isKind_14 : decode cX9_isKind 14 = .ok (.ireturn, 1) := by decide +kernel
theorem dX9_restoreBest_0 : decode cX9_restoreBest 0 = .ok (.aload_n 0, 1) := by decide +kernel
theorem dX9_restoreBest_1 : decode cX9_restoreBest 1 = .ok (.getfield 47, 3) := by decide +kernel
theorem dX9_restoreBest_4 : decode cX9_restoreBest 4 = .ok (.invokevirtual 233, 3) := by decide +kernel
theorem dX9_restoreBest_7 : decode cX9_restoreBest 7 = .ok (.aload_n 0, 1) := by decide +kernel
theorem dX9_restoreBest_8 : decode cX9_restoreBest 8 = .ok (.getfield 51, 3) := by decide +kernel
theorem dX9_restoreBest_11 : decode cX9_restoreBest 11 = .ok (.invokevirtual 236, 3) := by decide +kernel
theorem dX9_restoreBest_14 : decode cX9_restoreBest 14 = .ok (.aload_n 0, 1) := by decide +kernel
theorem dX9_restoreBest_15 : decode cX9_restoreBest 15 = .ok (.getfield 60, 3) := by decide +kernel
theorem dX9_restoreBest_18 : decode cX9_restoreBest 18 = .ok (.invokevirtual 118, 3) := by decide +kernel
theorem dX9_restoreBest_21 : decode cX9_restoreBest 21 = .ok (.aload_n 0, 1) := by decide +kernel
theorem dX9_restoreBest_22 : decode cX9_restoreBest 22 = .ok (.getfield 60, 3) := by decide +kernel
theorem dX9_restoreBest_25 : decode cX9_restoreBest 25 = .ok (.getfield 121, 3) := by decide +kernel
theorem dX9_restoreBest_28 : decode cX9_restoreBest 28 = .ok (.ireturn, 1) := by decide +kernel
theorem dX9_calmingLine_0 : decode cX9_calmingLine 0 = .ok (.iconst (-1), 1) := by decide +kernel
theorem dX9_calmingLine_1 : decode cX9_calmingLine 1 = .ok (.istore_n 1, 1) := by decide +kernel
theorem dX9_calmingLine_2 : decode cX9_calmingLine 2 = .ok (.aload_n 0, 1) := by decide +kernel
theorem dX9_calmingLine_3 : decode cX9_calmingLine 3 = .ok (.getfield 60, 3) := by decide +kernel
theorem dX9_calmingLine_6 : decode cX9_calmingLine 6 = .ok (.getfield 148, 3) := by decide +kernel
theorem dX9_calmingLine_9 : decode cX9_calmingLine 9 = .ok (.getfield 160, 3) := by decide +kernel
theorem dX9_calmingLine_12 : decode cX9_calmingLine 12 = .ok (.istore_n 2, 1) := by decide +kernel
theorem dX9_calmingLine_13 : decode cX9_calmingLine 13 = .ok (.iconst 0, 1) := by decide +kernel
theorem dX9_calmingLine_14 : decode cX9_calmingLine 14 = .ok (.istore_n 3, 1) := by decide +kernel
theorem dX9_calmingLine_15 : decode cX9_calmingLine 15 = .ok (.iconst 0, 1) := by decide +kernel
theorem dX9_calmingLine_16 : decode cX9_calmingLine 16 = .ok (.istore 4, 2) := by decide +kernel
theorem dX9_calmingLine_18 : decode cX9_calmingLine 18 = .ok (.iload 4, 2) := by decide +kernel
theorem dX9_calmingLine_20 : decode cX9_calmingLine 20 = .ok (.aload_n 0, 1) := by decide +kernel
theorem dX9_calmingLine_21 : decode cX9_calmingLine 21 = .ok (.getfield 60, 3) := by decide +kernel
theorem dX9_calmingLine_24 : decode cX9_calmingLine 24 = .ok (.getfield 121, 3) := by decide +kernel
theorem dX9_calmingLine_27 : decode cX9_calmingLine 27 = .ok (.if_icmp .ge 117, 3) := by decide +kernel
theorem dX9_calmingLine_30 : decode cX9_calmingLine 30 = .ok (.aload_n 0, 1) := by decide +kernel
theorem dX9_calmingLine_31 : decode cX9_calmingLine 31 = .ok (.getfield 60, 3) := by decide +kernel
theorem dX9_calmingLine_34 : decode cX9_calmingLine 34 = .ok (.iload 4, 2) := by decide +kernel
theorem dX9_calmingLine_36 : decode cX9_calmingLine 36 = .ok (.invokevirtual 127, 3) := by decide +kernel
theorem dX9_calmingLine_39 : decode cX9_calmingLine 39 = .ok (.istore 5, 2) := by decide +kernel
theorem dX9_calmingLine_41 : decode cX9_calmingLine 41 = .ok (.iload 5, 2) := by decide +kernel
theorem dX9_calmingLine_43 : decode cX9_calmingLine 43 = .ok (.iconst (-1), 1) := by decide +kernel
theorem dX9_calmingLine_44 : decode cX9_calmingLine 44 = .ok (.if_icmp .ne 6, 3) := by decide +kernel
theorem dX9_calmingLine_47 : decode cX9_calmingLine 47 = .ok (.goto 91, 3) := by decide +kernel
theorem dX9_calmingLine_50 : decode cX9_calmingLine 50 = .ok (.aload_n 0, 1) := by decide +kernel
theorem dX9_calmingLine_51 : decode cX9_calmingLine 51 = .ok (.getfield 64, 3) := by decide +kernel
theorem dX9_calmingLine_54 : decode cX9_calmingLine 54 = .ok (.aload_n 0, 1) := by decide +kernel
theorem dX9_calmingLine_55 : decode cX9_calmingLine 55 = .ok (.getfield 60, 3) := by decide +kernel
theorem dX9_calmingLine_58 : decode cX9_calmingLine 58 = .ok (.invokevirtual 239, 3) := by decide +kernel
theorem dX9_calmingLine_61 : decode cX9_calmingLine 61 = .ok (.aload_n 0, 1) := by decide +kernel
theorem dX9_calmingLine_62 : decode cX9_calmingLine 62 = .ok (.getfield 64, 3) := by decide +kernel
theorem dX9_calmingLine_65 : decode cX9_calmingLine 65 = .ok (.iload 4, 2) := by decide +kernel
theorem dX9_calmingLine_67 : decode cX9_calmingLine 67 = .ok (.iload 5, 2) := by decide +kernel
theorem dX9_calmingLine_69 : decode cX9_calmingLine 69 = .ok (.invokevirtual 131, 3) := by decide +kernel
theorem dX9_calmingLine_72 : decode cX9_calmingLine 72 = .ok (.aload_n 0, 1) := by decide +kernel
theorem dX9_calmingLine_73 : decode cX9_calmingLine 73 = .ok (.getfield 64, 3) := by decide +kernel
theorem dX9_calmingLine_76 : decode cX9_calmingLine 76 = .ok (.getfield 148, 3) := by decide +kernel
theorem dX9_calmingLine_79 : decode cX9_calmingLine 79 = .ok (.getfield 160, 3) := by decide +kernel
theorem dX9_calmingLine_82 : decode cX9_calmingLine 82 = .ok (.istore 6, 2) := by decide +kernel
theorem dX9_calmingLine_84 : decode cX9_calmingLine 84 = .ok (.iload_n 1, 1) := by decide +kernel
theorem dX9_calmingLine_85 : decode cX9_calmingLine 85 = .ok (.iconst (-1), 1) := by decide +kernel
theorem dX9_calmingLine_86 : decode cX9_calmingLine 86 = .ok (.if_icmp .eq 24, 3) := by decide +kernel
theorem dX9_calmingLine_89 : decode cX9_calmingLine 89 = .ok (.iload 6, 2) := by decide +kernel
theorem dX9_calmingLine_91 : decode cX9_calmingLine 91 = .ok (.iload_n 2, 1) := by decide +kernel
theorem dX9_calmingLine_92 : decode cX9_calmingLine 92 = .ok (.if_icmp .ne 18, 3) := by decide +kernel
theorem dX9_calmingLine_95 : decode cX9_calmingLine 95 = .ok (.aload_n 0, 1) := by decide +kernel
theorem dX9_calmingLine_96 : decode cX9_calmingLine 96 = .ok (.getfield 64, 3) := by decide +kernel
theorem dX9_calmingLine_99 : decode cX9_calmingLine 99 = .ok (.getfield 138, 3) := by decide +kernel
theorem dX9_calmingLine_102 : decode cX9_calmingLine 102 = .ok (.iload_n 3, 1) := by decide +kernel
theorem dX9_calmingLine_103 : decode cX9_calmingLine 103 = .ok (.if_icmp .ge 7, 3) := by decide +kernel
theorem dX9_calmingLine_106 : decode cX9_calmingLine 106 = .ok (.iconst 1, 1) := by decide +kernel
theorem dX9_calmingLine_107 : decode cX9_calmingLine 107 = .ok (.goto 4, 3) := by decide +kernel
theorem dX9_calmingLine_110 : decode cX9_calmingLine 110 = .ok (.iconst 0, 1) := by decide +kernel
theorem dX9_calmingLine_111 : decode cX9_calmingLine 111 = .ok (.istore 7, 2) := by decide +kernel
theorem dX9_calmingLine_113 : decode cX9_calmingLine 113 = .ok (.iload 6, 2) := by decide +kernel
theorem dX9_calmingLine_115 : decode cX9_calmingLine 115 = .ok (.iload_n 2, 1) := by decide +kernel
theorem dX9_calmingLine_116 : decode cX9_calmingLine 116 = .ok (.if_icmp .lt 8, 3) := by decide +kernel
theorem dX9_calmingLine_119 : decode cX9_calmingLine 119 = .ok (.iload 7, 2) := by decide +kernel
theorem dX9_calmingLine_121 : decode cX9_calmingLine 121 = .ok (.ifCond .eq 17, 3) := by decide +kernel
theorem dX9_calmingLine_124 : decode cX9_calmingLine 124 = .ok (.iload 4, 2) := by decide +kernel
theorem dX9_calmingLine_126 : decode cX9_calmingLine 126 = .ok (.istore_n 1, 1) := by decide +kernel
theorem dX9_calmingLine_127 : decode cX9_calmingLine 127 = .ok (.iload 6, 2) := by decide +kernel
theorem dX9_calmingLine_129 : decode cX9_calmingLine 129 = .ok (.istore_n 2, 1) := by decide +kernel
theorem dX9_calmingLine_130 : decode cX9_calmingLine 130 = .ok (.aload_n 0, 1) := by decide +kernel
theorem dX9_calmingLine_131 : decode cX9_calmingLine 131 = .ok (.getfield 64, 3) := by decide +kernel
theorem dX9_calmingLine_134 : decode cX9_calmingLine 134 = .ok (.getfield 138, 3) := by decide +kernel
theorem dX9_calmingLine_137 : decode cX9_calmingLine 137 = .ok (.istore_n 3, 1) := by decide +kernel
theorem dX9_calmingLine_138 : decode cX9_calmingLine 138 = .ok (.iinc 4 1, 3) := by decide +kernel
theorem dX9_calmingLine_141 : decode cX9_calmingLine 141 = .ok (.goto (-123), 3) := by decide +kernel
theorem dX9_calmingLine_144 : decode cX9_calmingLine 144 = .ok (.iload_n 1, 1) := by decide +kernel
theorem dX9_calmingLine_145 : decode cX9_calmingLine 145 = .ok (.ireturn, 1) := by decide +kernel
end
section
theorem dX10_init_0 : decode cX10_init 0 = .ok (.aload_n 0, 1) := by decide +kernel
theorem dX10_init_1 : decode cX10_init 1 = .ok (.invokespecial 1, 3) := by decide +kernel
theorem dX10_init_4 : decode cX10_init 4 = .ok (.aload_n 0, 1) := by decide +kernel
theorem dX10_init_5 : decode cX10_init 5 = .ok (.bipush 60, 2) := by decide +kernel
theorem dX10_init_7 : decode cX10_init 7 = .ok (.putfield 7, 3) := by decide +kernel
theorem dX10_init_10 : decode cX10_init 10 = .ok (.aload_n 0, 1) := by decide +kernel
theorem dX10_init_11 : decode cX10_init 11 = .ok (.bipush 50, 2) := by decide +kernel
theorem dX10_init_13 : decode cX10_init 13 = .ok (.putfield 13, 3) := by decide +kernel
theorem dX10_init_16 : decode cX10_init 16 = .ok (.aload_n 0, 1) := by decide +kernel
theorem dX10_init_17 : decode cX10_init 17 = .ok (.iconst 2, 1) := by decide +kernel
theorem dX10_init_18 : decode cX10_init 18 = .ok (.putfield 16, 3) := by decide +kernel
theorem dX10_init_21 : decode cX10_init 21 = .ok (.aload_n 0, 1) := by decide +kernel
theorem dX10_init_22 : decode cX10_init 22 = .ok (.bipush 9, 2) := by decide +kernel
theorem dX10_init_24 : decode cX10_init 24 = .ok (.newarray .int, 2) := by decide +kernel
theorem dX10_init_26 : decode cX10_init 26 = .ok (.putfield 19, 3) := by decide +kernel
theorem dX10_init_29 : decode cX10_init 29 = .ok (.aload_n 0, 1) := by decide +kernel
theorem dX10_init_30 : decode cX10_init 30 = .ok (.bipush 60, 2) := by decide +kernel
theorem dX10_init_32 : decode cX10_init 32 = .ok (.newarray .int, 2) := by decide +kernel
theorem dX10_init_34 : decode cX10_init 34 = .ok (.putfield 23, 3) := by decide +kernel
theorem dX10_init_37 : decode cX10_init 37 = .ok (.aload_n 0, 1) := by decide +kernel
theorem dX10_init_38 : decode cX10_init 38 = .ok (.bipush 60, 2) := by decide +kernel
theorem dX10_init_40 : decode cX10_init 40 = .ok (.newarray .int, 2) := by decide +kernel
theorem dX10_init_42 : decode cX10_init 42 = .ok (.putfield 26, 3) := by decide +kernel
theorem dX10_init_45 : decode cX10_init 45 = .ok (.aload_n 0, 1) := by decide +kernel
theorem dX10_init_46 : decode cX10_init 46 = .ok (.bipush 60, 2) := by decide +kernel
theorem dX10_init_48 : decode cX10_init 48 = .ok (.newarray .int, 2) := by decide +kernel
theorem dX10_init_50 : decode cX10_init 50 = .ok (.putfield 29, 3) := by decide +kernel
theorem dX10_init_53 : decode cX10_init 53 = .ok (.aload_n 0, 1) := by decide +kernel
theorem dX10_init_54 : decode cX10_init 54 = .ok (.bipush 60, 2) := by decide +kernel
theorem dX10_init_56 : decode cX10_init 56 = .ok (.newarray .int, 2) := by decide +kernel
theorem dX10_init_58 : decode cX10_init 58 = .ok (.putfield 32, 3) := by decide +kernel
theorem dX10_init_61 : decode cX10_init 61 = .ok (.aload_n 0, 1) := by decide +kernel
theorem dX10_init_62 : decode cX10_init 62 = .ok (.bipush 60, 2) := by decide +kernel
theorem dX10_init_64 : decode cX10_init 64 = .ok (.newarray .int, 2) := by decide +kernel
theorem dX10_init_66 : decode cX10_init 66 = .ok (.putfield 35, 3) := by decide +kernel
theorem dX10_init_69 : decode cX10_init 69 = .ok (.aload_n 0, 1) := by decide +kernel
theorem dX10_init_70 : decode cX10_init 70 = .ok (.bipush 120, 2) := by decide +kernel
theorem dX10_init_72 : decode cX10_init 72 = .ok (.newarray .char, 2) := by decide +kernel
theorem dX10_init_74 : decode cX10_init 74 = .ok (.putfield 38, 3) := by decide +kernel
theorem dX10_init_77 : decode cX10_init 77 = .ok (.aload_n 0, 1) := by decide +kernel
theorem dX10_init_78 : decode cX10_init 78 = .ok (.bipush 61, 2) := by decide +kernel
theorem dX10_init_80 : decode cX10_init 80 = .ok (.newarray .int, 2) := by decide +kernel
theorem dX10_init_82 : decode cX10_init 82 = .ok (.putfield 42, 3) := by decide +kernel
theorem dX10_init_85 : decode cX10_init 85 = .ok (.aload_n 0, 1) := by decide +kernel
theorem dX10_init_86 : decode cX10_init 86 = .ok (.bipush 60, 2) := by decide +kernel
theorem dX10_init_88 : decode cX10_init 88 = .ok (.newarray .int, 2) := by decide +kernel
theorem dX10_init_90 : decode cX10_init 90 = .ok (.putfield 45, 3) := by decide +kernel
theorem dX10_init_93 : decode cX10_init 93 = .ok (.aload_n 0, 1) := by decide +kernel
theorem dX10_init_94 : decode cX10_init 94 = .ok (.bipush 61, 2) := by decide +kernel
theorem dX10_init_96 : decode cX10_init 96 = .ok (.newarray .int, 2) := by decide +kernel
theorem dX10_init_98 : decode cX10_init 98 = .ok (.putfield 48, 3) := by decide +kernel
theorem dX10_init_101 : decode cX10_init 101 = .ok (.aload_n 0, 1) := by decide +kernel
theorem dX10_init_102 : decode cX10_init 102 = .ok (.bipush 60, 2) := by decide +kernel
theorem dX10_init_104 : decode cX10_init 104 = .ok (.newarray .int, 2) := by decide +kernel
theorem dX10_init_106 : decode cX10_init 106 = .ok (.putfield 51, 3) := by decide +kernel
theorem dX10_init_109 : decode cX10_init 109 = .ok (.aload_n 0, 1) := by decide +kernel
theorem dX10_init_110 : decode cX10_init 110 = .ok (.bipush 60, 2) := by decide +kernel
theorem dX10_init_112 : decode cX10_init 112 = .ok (.newarray .int, 2) := by decide +kernel
theorem dX10_init_114 : decode cX10_init 114 = .ok (.putfield 54, 3) := by decide +kernel
theorem dX10_init_117 : decode cX10_init 117 = .ok (.aload_n 0, 1) := by decide +kernel
theorem dX10_init_118 : decode cX10_init 118 = .ok (.bipush 60, 2) := by decide +kernel
theorem dX10_init_120 : decode cX10_init 120 = .ok (.newarray .int, 2) := by decide +kernel
theorem dX10_init_122 : decode cX10_init 122 = .ok (.putfield 57, 3) := by decide +kernel
theorem dX10_init_125 : decode cX10_init 125 = .ok (.aload_n 0, 1) := by decide +kernel
theorem dX10_init_126 : decode cX10_init 126 = .ok (.bipush 60, 2) := by decide +kernel
theorem dX10_init_128 : decode cX10_init 128 = .ok (.newarray .int, 2) := by decide +kernel
theorem dX10_init_130 : decode cX10_init 130 = .ok (.putfield 60, 3) := by decide +kernel
theorem dX10_init_133 : decode cX10_init 133 = .ok (.aload_n 0, 1) := by decide +kernel
theorem dX10_init_134 : decode cX10_init 134 = .ok (.bipush 61, 2) := by decide +kernel
theorem dX10_init_136 : decode cX10_init 136 = .ok (.newarray .int, 2) := by decide +kernel
theorem dX10_init_138 : decode cX10_init 138 = .ok (.putfield 63, 3) := by decide +kernel
theorem dX10_init_141 : decode cX10_init 141 = .ok (.aload_n 0, 1) := by decide +kernel
theorem dX10_init_142 : decode cX10_init 142 = .ok (.getfield 19, 3) := by decide +kernel
theorem dX10_init_145 : decode cX10_init 145 = .ok (.iconst 0, 1) := by decide +kernel
theorem dX10_init_146 : decode cX10_init 146 = .ok (.iconst 2, 1) := by decide +kernel
theorem dX10_init_147 : decode cX10_init 147 = .ok (.iastore, 1) := by decide +kernel
theorem dX10_init_148 : decode cX10_init 148 = .ok (.aload_n 0, 1) := by decide +kernel
theorem dX10_init_149 : decode cX10_init 149 = .ok (.getfield 19, 3) := by decide +kernel
theorem dX10_init_152 : decode cX10_init 152 = .ok (.iconst 1, 1) := by decide +kernel
theorem dX10_init_153 : decode cX10_init 153 = .ok (.iconst 3, 1) := by decide +kernel
theorem dX10_init_154 : decode cX10_init 154 = .ok (.iastore, 1) := by decide +kernel
theorem dX10_init_155 : decode cX10_init 155 = .ok (.aload_n 0, 1) := by decide +kernel
theorem dX10_init_156 : decode cX10_init 156 = .ok (.getfield 19, 3) := by decide +kernel
theorem dX10_init_159 : decode cX10_init 159 = .ok (.iconst 2, 1) := by decide +kernel
theorem dX10_init_160 : decode cX10_init 160 = .ok (.bipush 6, 2) := by decide +kernel
theorem dX10_init_162 : decode cX10_init 162 = .ok (.iastore, 1) := by decide +kernel
theorem dX10_init_163 : decode cX10_init 163 = .ok (.aload_n 0, 1) := by decide +kernel
theorem dX10_init_164 : decode cX10_init 164 = .ok (.getfield 19, 3) := by decide +kernel
theorem dX10_init_167 : decode cX10_init 167 = .ok (.iconst 3, 1) := by decide +kernel
theorem dX10_init_168 : decode cX10_init 168 = .ok (.iconst 2, 1) := by decide +kernel
theorem dX10_init_169 : decode cX10_init 169 = .ok (.iastore, 1) := by decide +kernel
theorem dX10_init_170 : decode cX10_init 170 = .ok (.aload_n 0, 1) := by decide +kernel
theorem dX10_init_171 : decode cX10_init 171 = .ok (.getfield 19, 3) := by decide +kernel
theorem dX10_init_174 : decode cX10_init 174 = .ok (.iconst 4, 1) := by decide +kernel
theorem dX10_init_175 : decode cX10_init 175 = .ok (.iconst 4, 1) := by decide +kernel
theorem dX10_init_176 : decode cX10_init 176 = .ok (.iastore, 1) := by decide +kernel
theorem dX10_init_177 : decode cX10_init 177 = .ok (.aload_n 0, 1) := by decide +kernel
theorem dX10_init_178 : decode cX10_init 178 = .ok (.getfield 19, 3) := by decide +kernel
theorem dX10_init_181 : decode cX10_init 181 = .ok (.iconst 5, 1) := by decide +kernel
theorem dX10_init_182 : decode cX10_init 182 = .ok (.bipush 8, 2) := by decide +kernel
theorem dX10_init_184 : decode cX10_init 184 = .ok (.iastore, 1) := by decide +kernel
theorem dX10_init_185 : decode cX10_init 185 = .ok (.aload_n 0, 1) := by decide +kernel
theorem dX10_init_186 : decode cX10_init 186 = .ok (.getfield 19, 3) := by decide +kernel
theorem dX10_init_189 : decode cX10_init 189 = .ok (.bipush 6, 2) := by decide +kernel
theorem dX10_init_191 : decode cX10_init 191 = .ok (.iconst 3, 1) := by decide +kernel
theorem dX10_init_192 : decode cX10_init 192 = .ok (.iastore, 1) := by decide +kernel
theorem dX10_init_193 : decode cX10_init 193 = .ok (.aload_n 0, 1) := by decide +kernel
theorem dX10_init_194 : decode cX10_init 194 = .ok (.getfield 19, 3) := by decide +kernel
theorem dX10_init_197 : decode cX10_init 197 = .ok (.bipush 7, 2) := by decide +kernel
theorem dX10_init_199 : decode cX10_init 199 = .ok (.iconst 5, 1) := by decide +kernel
theorem dX10_init_200 : decode cX10_init 200 = .ok (.iastore, 1) := by decide +kernel
theorem dX10_init_201 : decode cX10_init 201 = .ok (.aload_n 0, 1) := by decide +kernel
theorem dX10_init_202 : decode cX10_init 202 = .ok (.getfield 19, 3) := by decide +kernel
theorem dX10_init_205 : decode cX10_init 205 = .ok (.bipush 8, 2) := by decide +kernel
theorem dX10_init_207 : decode cX10_init 207 = .ok (.bipush 10, 2) := by decide +kernel
theorem dX10_init_209 : decode cX10_init 209 = .ok (.iastore, 1) := by decide +kernel
theorem dX10_init_210 : decode cX10_init 210 = .ok (.aload_n 0, 1) := by decide +kernel
theorem dX10_init_211 : decode cX10_init 211 = .ok (.invokevirtual 66, 3) := by decide +kernel
theorem dX10_init_214 : decode cX10_init 214 = .ok (.return_, 1) := by decide +kernel
theorem dX10_in_0 : decode cX10_in 0 = .ok (.iload_n 0, 1) := by decide +kernel
theorem dX10_in_1 : decode cX10_in 1 = .ok (.iload_n 1, 1) := by decide +kernel
theorem dX10_in_2 : decode cX10_in 2 = .ok (.if_icmp .lt 12, 3) := by decide +kernel
theorem dX10_in_5 : decode cX10_in 5 = .ok (.iload_n 0, 1) := by decide +kernel
theorem dX10_in_6 : decode cX10_in 6 = .ok (.iload_n 2, 1) := by decide +kernel
theorem dX10_in_7 : decode cX10_in 7 = .ok (.if_icmp .gt 7, 3) := by decide +kernel
theorem dX10_in_10 : decode cX10_in 10 = .ok (.iconst 1, 1) := by decide +kernel
theorem dX10_in_11 : decode cX10_in 11 = .ok (.goto 4, 3) := by decide +kernel
theorem dX10_in_14 : decode cX10_in 14 = .ok (.iconst 0, 1) := by decide +kernel
theorem dX10_in_15 : decode cX10_in 15 = .ok (.ireturn, 1) := by decide +kernel
theorem dX10_widthOf_0 : decode cX10_widthOf 0 = .ok (.iload_n 0, 1) := by decide +kernel
theorem dX10_widthOf_1 : decode cX10_widthOf 1 = .ok (.bipush 102, 2) := by decide +kernel
theorem dX10_widthOf_3 : decode cX10_widthOf 3 = .ok (.if_icmp .eq 39, 3) := by decide +kernel
theorem dX10_widthOf_6 : decode cX10_widthOf 6 = .ok (.iload_n 0, 1) := by decide +kernel
theorem dX10_widthOf_7 : decode cX10_widthOf 7 = .ok (.bipush 105, 2) := by decide +kernel
theorem dX10_widthOf_9 : decode cX10_widthOf 9 = .ok (.if_icmp .eq 33, 3) := by decide +kernel
theorem dX10_widthOf_12 : decode cX10_widthOf 12 = .ok (.iload_n 0, 1) := by decide +kernel
theorem dX10_widthOf_13 : decode cX10_widthOf 13 = .ok (.bipush 106, 2) := by decide +kernel
theorem dX10_widthOf_15 : decode cX10_widthOf 15 = .ok (.if_icmp .eq 27, 3) := by decide +kernel
theorem dX10_widthOf_18 : decode cX10_widthOf 18 = .ok (.iload_n 0, 1) := by decide +kernel
theorem dX10_widthOf_19 : decode cX10_widthOf 19 = .ok (.bipush 108, 2) := by decide +kernel
theorem dX10_widthOf_21 : decode cX10_widthOf 21 = .ok (.if_icmp .eq 21, 3) := by decide +kernel
theorem dX10_widthOf_24 : decode cX10_widthOf 24 = .ok (.iload_n 0, 1) := by decide +kernel
theorem dX10_widthOf_25 : decode cX10_widthOf 25 = .ok (.bipush 114, 2) := by decide +kernel
theorem dX10_widthOf_27 : decode cX10_widthOf 27 = .ok (.if_icmp .eq 15, 3) := by decide +kernel
theorem dX10_widthOf_30 : decode cX10_widthOf 30 = .ok (.iload_n 0, 1) := by decide +kernel
theorem dX10_widthOf_31 : decode cX10_widthOf 31 = .ok (.bipush 116, 2) := by decide +kernel
theorem dX10_widthOf_33 : decode cX10_widthOf 33 = .ok (.if_icmp .eq 9, 3) := by decide +kernel
theorem dX10_widthOf_36 : decode cX10_widthOf 36 = .ok (.iload_n 0, 1) := by decide +kernel
theorem dX10_widthOf_37 : decode cX10_widthOf 37 = .ok (.bipush 73, 2) := by decide +kernel
theorem dX10_widthOf_39 : decode cX10_widthOf 39 = .ok (.if_icmp .ne 5, 3) := by decide +kernel
theorem dX10_widthOf_42 : decode cX10_widthOf 42 = .ok (.iconst 2, 1) := by decide +kernel
theorem dX10_widthOf_43 : decode cX10_widthOf 43 = .ok (.ireturn, 1) := by decide +kernel
theorem dX10_widthOf_44 : decode cX10_widthOf 44 = .ok (.iload_n 0, 1) := by decide +kernel
theorem dX10_widthOf_45 : decode cX10_widthOf 45 = .ok (.bipush 109, 2) := by decide +kernel
theorem dX10_widthOf_47 : decode cX10_widthOf 47 = .ok (.if_icmp .eq 9, 3) := by decide +kernel
theorem dX10_widthOf_50 : decode cX10_widthOf 50 = .ok (.iload_n 0, 1) := by decide +kernel
theorem dX10_widthOf_51 : decode cX10_widthOf 51 = .ok (.bipush 119, 2) := by decide +kernel
theorem dX10_widthOf_53 : decode cX10_widthOf 53 = .ok (.if_icmp .ne 5, 3) := by decide +kernel
theorem dX10_widthOf_56 : decode cX10_widthOf 56 = .ok (.iconst 4, 1) := by decide +kernel
theorem dX10_widthOf_57 : decode cX10_widthOf 57 = .ok (.ireturn, 1) := by decide +kernel
theorem dX10_widthOf_58 : decode cX10_widthOf 58 = .ok (.iload_n 0, 1) := by decide +kernel
theorem dX10_widthOf_59 : decode cX10_widthOf 59 = .ok (.bipush 77, 2) := by decide +kernel
theorem dX10_widthOf_61 : decode cX10_widthOf 61 = .ok (.if_icmp .eq 9, 3) := by decide +kernel
theorem dX10_widthOf_64 : decode cX10_widthOf 64 = .ok (.iload_n 0, 1) := by decide +kernel
theorem dX10_widthOf_65 : decode cX10_widthOf 65 = .ok (.bipush 87, 2) := by decide +kernel
theorem dX10_widthOf_67 : decode cX10_widthOf 67 = .ok (.if_icmp .ne 5, 3) := by decide +kernel
theorem dX10_widthOf_70 : decode cX10_widthOf 70 = .ok (.iconst 5, 1) := by decide +kernel
theorem dX10_widthOf_71 : decode cX10_widthOf 71 = .ok (.ireturn, 1) := by decide +kernel
theorem dX10_widthOf_72 : decode cX10_widthOf 72 = .ok (.iload_n 0, 1) := by decide +kernel
theorem dX10_widthOf_73 : decode cX10_widthOf 73 = .ok (.bipush 65, 2) := by decide +kernel
theorem dX10_widthOf_75 : decode cX10_widthOf 75 = .ok (.bipush 90, 2) := by decide +kernel
theorem dX10_widthOf_77 : decode cX10_widthOf 77 = .ok (.invokestatic 69, 3) := by decide +kernel
theorem dX10_widthOf_80 : decode cX10_widthOf 80 = .ok (.ifCond .eq 5, 3) := by decide +kernel
theorem dX10_widthOf_83 : decode cX10_widthOf 83 = .ok (.iconst 4, 1) := by decide +kernel
theorem dX10_widthOf_84 : decode cX10_widthOf 84 = .ok (.ireturn, 1) := by decide +kernel
theorem dX10_widthOf_85 : decode cX10_widthOf 85 = .ok (.iload_n 0, 1) := by decide +kernel
theorem dX10_widthOf_86 : decode cX10_widthOf 86 = .ok (.bipush 97, 2) := by decide +kernel
theorem dX10_widthOf_88 : decode cX10_widthOf 88 = .ok (.bipush 122, 2) := by decide +kernel
theorem dX10_widthOf_90 : decode cX10_widthOf 90 = .ok (.invokestatic 69, 3) := by decide +kernel
theorem dX10_widthOf_93 : decode cX10_widthOf 93 = .ok (.ifCond .ne 14, 3) := by decide +kernel
theorem dX10_widthOf_96 : decode cX10_widthOf 96 = .ok (.iload_n 0, 1) := by decide +kernel
theorem dX10_widthOf_97 : decode cX10_widthOf 97 = .ok (.bipush 48, 2) := by decide +kernel
theorem dX10_widthOf_99 : decode cX10_widthOf 99 = .ok (.bipush 57, 2) := by decide +kernel
theorem dX10_widthOf_101 : decode cX10_widthOf 101 = .ok (.invokestatic 69, 3) := by decide +kernel
theorem dX10_widthOf_104 : decode cX10_widthOf 104 = .ok (.ifCond .eq 5, 3) := by decide +kernel
theorem dX10_widthOf_107 : decode cX10_widthOf 107 = .ok (.iconst 3, 1) := by decide +kernel
theorem dX10_widthOf_108 : decode cX10_widthOf 108 = .ok (.ireturn, 1) := by decide +kernel
theorem dX10_widthOf_109 : decode cX10_widthOf 109 = .ok (.iload_n 0, 1) := by decide +kernel
theorem dX10_widthOf_110 : decode cX10_widthOf 110 = .ok (.bipush 63, 2) := by decide +kernel
theorem dX10_widthOf_112 : decode cX10_widthOf 112 = .ok (.if_icmp .eq 27, 3) := by decide +kernel
theorem dX10_widthOf_115 : decode cX10_widthOf 115 = .ok (.iload_n 0, 1) := by decide +kernel
theorem dX10_widthOf_116 : decode cX10_widthOf 116 = .ok (.bipush 45, 2) := by decide +kernel
theorem dX10_widthOf_118 : decode cX10_widthOf 118 = .ok (.if_icmp .eq 21, 3) := by decide +kernel
theorem dX10_widthOf_121 : decode cX10_widthOf 121 = .ok (.iload_n 0, 1) := by decide +kernel
theorem dX10_widthOf_122 : decode cX10_widthOf 122 = .ok (.bipush 34, 2) := by decide +kernel
theorem dX10_widthOf_124 : decode cX10_widthOf 124 = .ok (.if_icmp .eq 15, 3) := by decide +kernel
theorem dX10_widthOf_127 : decode cX10_widthOf 127 = .ok (.iload_n 0, 1) := by decide +kernel
theorem dX10_widthOf_128 : decode cX10_widthOf 128 = .ok (.bipush 40, 2) := by decide +kernel
theorem dX10_widthOf_130 : decode cX10_widthOf 130 = .ok (.if_icmp .eq 9, 3) := by decide +kernel
theorem dX10_widthOf_133 : decode cX10_widthOf 133 = .ok (.iload_n 0, 1) := by decide +kernel
theorem dX10_widthOf_134 : decode cX10_widthOf 134 = .ok (.bipush 41, 2) := by decide +kernel
theorem dX10_widthOf_136 : decode cX10_widthOf 136 = .ok (.if_icmp .ne 7, 3) := by decide +kernel
theorem dX10_widthOf_139 : decode cX10_widthOf 139 = .ok (.iconst 2, 1) := by decide +kernel
theorem dX10_widthOf_140 : decode cX10_widthOf 140 = .ok (.goto 4, 3) := by decide +kernel
theorem dX10_widthOf_143 : decode cX10_widthOf 143 = .ok (.iconst 1, 1) := by decide +kernel
theorem dX10_widthOf_144 : decode cX10_widthOf 144 = .ok (.ireturn, 1) := by decide +kernel
theorem dX10_isSentence_0 : decode cX10_isSentence 0 = .ok (.iload_n 0, 1) := by decide +kernel
theorem dX10_isSentence_1 : decode cX10_isSentence 1 = .ok (.bipush 46, 2) := by decide +kernel
theorem dX10_isSentence_3 : decode cX10_isSentence 3 = .ok (.if_icmp .eq 15, 3) := by decide +kernel
theorem dX10_isSentence_6 : decode cX10_isSentence 6 = .ok (.iload_n 0, 1) := by decide +kernel
theorem dX10_isSentence_7 : decode cX10_isSentence 7 = .ok (.bipush 33, 2) := by decide +kernel
theorem dX10_isSentence_9 : decode cX10_isSentence 9 = .ok (.if_icmp .eq 9, 3) := by decide +kernel
theorem dX10_isSentence_12 : decode cX10_isSentence 12 = .ok (.iload_n 0, 1) := by decide +kernel
theorem dX10_isSentence_13 : decode cX10_isSentence 13 = .ok (.bipush 63, 2) := by decide +kernel
theorem dX10_isSentence_15 : decode cX10_isSentence 15 = .ok (.if_icmp .ne 7, 3) := by decide +kernel
theorem dX10_isSentence_18 : decode cX10_isSentence 18 = .ok (.iconst 1, 1) := by decide +kernel
theorem dX10_isSentence_19 : decode cX10_isSentence 19 = .ok (.goto 4, 3) := by decide +kernel
theorem dX10_isSentence_22 : decode cX10_isSentence 22 = .ok (.iconst 0, 1) := by decide +kernel
theorem dX10_isSentence_23 : decode cX10_isSentence 23 = .ok (.ireturn, 1) := by decide +kernel
theorem dX10_isClause_0 : decode cX10_isClause 0 = .ok (.iload_n 0, 1) := by decide +kernel
theorem dX10_isClause_1 : decode cX10_isClause 1 = .ok (.bipush 44, 2) := by decide +kernel
theorem dX10_isClause_3 : decode cX10_isClause 3 = .ok (.if_icmp .eq 15, 3) := by decide +kernel
theorem dX10_isClause_6 : decode cX10_isClause 6 = .ok (.iload_n 0, 1) := by decide +kernel
theorem dX10_isClause_7 : decode cX10_isClause 7 = .ok (.bipush 59, 2) := by decide +kernel
theorem dX10_isClause_9 : decode cX10_isClause 9 = .ok (.if_icmp .eq 9, 3) := by decide +kernel
theorem dX10_isClause_12 : decode cX10_isClause 12 = .ok (.iload_n 0, 1) := by decide +kernel
theorem dX10_isClause_13 : decode cX10_isClause 13 = .ok (.bipush 58, 2) := by decide +kernel
theorem dX10_isClause_15 : decode cX10_isClause 15 = .ok (.if_icmp .ne 7, 3) := by decide +kernel
theorem dX10_isClause_18 : decode cX10_isClause 18 = .ok (.iconst 1, 1) := by decide +kernel
theorem dX10_isClause_19 : decode cX10_isClause 19 = .ok (.goto 4, 3) := by decide +kernel
theorem dX10_isClause_22 : decode cX10_isClause 22 = .ok (.iconst 0, 1) := by decide +kernel
theorem dX10_isClause_23 : decode cX10_isClause 23 = .ok (.ireturn, 1) := by decide +kernel
theorem dX10_isMark_0 : decode cX10_isMark 0 = .ok (.iload_n 0, 1) := by decide +kernel
theorem dX10_isMark_1 : decode cX10_isMark 1 = .ok (.invokestatic 73, 3) := by decide +kernel
theorem dX10_isMark_4 : decode cX10_isMark 4 = .ok (.ifCond .ne 28, 3) := by decide +kernel
theorem dX10_isMark_7 : decode cX10_isMark 7 = .ok (.iload_n 0, 1) := by decide +kernel
theorem dX10_isMark_8 : decode cX10_isMark 8 = .ok (.invokestatic 77, 3) := by decide +kernel
theorem dX10_isMark_11 : decode cX10_isMark 11 = .ok (.ifCond .ne 21, 3) := by decide +kernel
theorem dX10_isMark_14 : decode cX10_isMark 14 = .ok (.iload_n 0, 1) := by decide +kernel
theorem dX10_isMark_15 : decode cX10_isMark 15 = .ok (.bipush 45, 2) := by decide +kernel
theorem dX10_isMark_17 : decode cX10_isMark 17 = .ok (.if_icmp .eq 15, 3) := by decide +kernel
theorem dX10_isMark_20 : decode cX10_isMark 20 = .ok (.iload_n 0, 1) := by decide +kernel
theorem dX10_isMark_21 : decode cX10_isMark 21 = .ok (.bipush 39, 2) := by decide +kernel
theorem dX10_isMark_23 : decode cX10_isMark 23 = .ok (.if_icmp .eq 9, 3) := by decide +kernel
theorem dX10_isMark_26 : decode cX10_isMark 26 = .ok (.iload_n 0, 1) := by decide +kernel
theorem dX10_isMark_27 : decode cX10_isMark 27 = .ok (.bipush 34, 2) := by decide +kernel
theorem dX10_isMark_29 : decode cX10_isMark 29 = .ok (.if_icmp .ne 7, 3) := by decide +kernel
theorem dX10_isMark_32 : decode cX10_isMark 32 = .ok (.iconst 1, 1) := by decide +kernel
theorem dX10_isMark_33 : decode cX10_isMark 33 = .ok (.goto 4, 3) := by decide +kernel
theorem dX10_isMark_36 : decode cX10_isMark 36 = .ok (.iconst 0, 1) := by decide +kernel
theorem dX10_isMark_37 : decode cX10_isMark 37 = .ok (.ireturn, 1) := by decide +kernel
theorem dX10_isAllowed_0 : decode cX10_isAllowed 0 = .ok (.iload_n 0, 1) := by decide +kernel
theorem dX10_isAllowed_1 : decode cX10_isAllowed 1 = .ok (.invokestatic 80, 3) := by decide +kernel
theorem dX10_isAllowed_4 : decode cX10_isAllowed 4 = .ok (.ifCond .ne 54, 3) := by decide +kernel
theorem dX10_isAllowed_7 : decode cX10_isAllowed 7 = .ok (.iload_n 0, 1) := by decide +kernel
theorem dX10_isAllowed_8 : decode cX10_isAllowed 8 = .ok (.bipush 40, 2) := by decide +kernel
theorem dX10_isAllowed_10 : decode cX10_isAllowed 10 = .ok (.if_icmp .eq 48, 3) := by decide +kernel
theorem dX10_isAllowed_13 : decode cX10_isAllowed 13 = .ok (.iload_n 0, 1) := by decide +kernel
theorem dX10_isAllowed_14 : decode cX10_isAllowed 14 = .ok (.bipush 41, 2) := by decide +kernel
theorem dX10_isAllowed_16 : decode cX10_isAllowed 16 = .ok (.if_icmp .eq 42, 3) := by decide +kernel
theorem dX10_isAllowed_19 : decode cX10_isAllowed 19 = .ok (.iload_n 0, 1) := by decide +kernel
theorem dX10_isAllowed_20 : decode cX10_isAllowed 20 = .ok (.bipush 32, 2) := by decide +kernel
theorem dX10_isAllowed_22 : decode cX10_isAllowed 22 = .ok (.if_icmp .eq 36, 3) := by decide +kernel
theorem dX10_isAllowed_25 : decode cX10_isAllowed 25 = .ok (.iload_n 0, 1) := by decide +kernel
theorem dX10_isAllowed_26 : decode cX10_isAllowed 26 = .ok (.bipush 97, 2) := by decide +kernel
theorem dX10_isAllowed_28 : decode cX10_isAllowed 28 = .ok (.bipush 122, 2) := by decide +kernel
theorem dX10_isAllowed_30 : decode cX10_isAllowed 30 = .ok (.invokestatic 69, 3) := by decide +kernel
theorem dX10_isAllowed_33 : decode cX10_isAllowed 33 = .ok (.ifCond .ne 25, 3) := by decide +kernel
theorem dX10_isAllowed_36 : decode cX10_isAllowed 36 = .ok (.iload_n 0, 1) := by decide +kernel
theorem dX10_isAllowed_37 : decode cX10_isAllowed 37 = .ok (.bipush 65, 2) := by decide +kernel
theorem dX10_isAllowed_39 : decode cX10_isAllowed 39 = .ok (.bipush 90, 2) := by decide +kernel
theorem dX10_isAllowed_41 : decode cX10_isAllowed 41 = .ok (.invokestatic 69, 3) := by decide +kernel
theorem dX10_isAllowed_44 : decode cX10_isAllowed 44 = .ok (.ifCond .ne 14, 3) := by decide +kernel
theorem dX10_isAllowed_47 : decode cX10_isAllowed 47 = .ok (.iload_n 0, 1) := by decide +kernel
theorem dX10_isAllowed_48 : decode cX10_isAllowed 48 = .ok (.bipush 48, 2) := by decide +kernel
theorem dX10_isAllowed_50 : decode cX10_isAllowed 50 = .ok (.bipush 57, 2) := by decide +kernel
theorem dX10_isAllowed_52 : decode cX10_isAllowed 52 = .ok (.invokestatic 69, 3) := by decide +kernel
theorem dX10_isAllowed_55 : decode cX10_isAllowed 55 = .ok (.ifCond .eq 7, 3) := by decide +kernel
theorem dX10_isAllowed_58 : decode cX10_isAllowed 58 = .ok (.iconst 1, 1) := by decide +kernel
theorem dX10_isAllowed_59 : decode cX10_isAllowed 59 = .ok (.goto 4, 3) := by decide +kernel
theorem dX10_isAllowed_62 : decode cX10_isAllowed 62 = .ok (.iconst 0, 1) := by decide +kernel
theorem dX10_isAllowed_63 : decode cX10_isAllowed 63 = .ok (.ireturn, 1) := by decide +kernel
theorem dX10_type_0 : decode cX10_type 0 = .ok (.aload_n 0, 1) := by decide +kernel
theorem dX10_type_1 : decode cX10_type 1 = .ok (.getfield 83, 3) := by decide +kernel
theorem dX10_type_4 : decode cX10_type 4 = .ok (.bipush 120, 2) := by decide +kernel
theorem dX10_type_6 : decode cX10_type 6 = .ok (.if_icmp .ne 7, 3) := by decide +kernel
theorem dX10_type_9 : decode cX10_type 9 = .ok (.sipush (-1003), 3) := by decide +kernel
theorem dX10_type_12 : decode cX10_type 12 = .ok (.ireturn, 1) := by decide +kernel
theorem dX10_type_13 : decode cX10_type 13 = .ok (.aload_n 0, 1) := by decide +kernel
theorem dX10_type_14 : decode cX10_type 14 = .ok (.getfield 38, 3) := by decide +kernel
theorem dX10_type_17 : decode cX10_type 17 = .ok (.aload_n 0, 1) := by decide +kernel
theorem dX10_type_18 : decode cX10_type 18 = .ok (.getfield 83, 3) := by decide +kernel
theorem dX10_type_21 : decode cX10_type 21 = .ok (.iload_n 1, 1) := by decide +kernel
theorem dX10_type_22 : decode cX10_type 22 = .ok (.castore, 1) := by decide +kernel
theorem dX10_type_23 : decode cX10_type 23 = .ok (.aload_n 0, 1) := by decide +kernel
theorem dX10_type_24 : decode cX10_type 24 = .ok (.dup, 1) := by decide +kernel
theorem dX10_type_25 : decode cX10_type 25 = .ok (.getfield 83, 3) := by decide +kernel
theorem dX10_type_28 : decode cX10_type 28 = .ok (.iconst 1, 1) := by decide +kernel
theorem dX10_type_29 : decode cX10_type 29 = .ok (.iadd, 1) := by decide +kernel
theorem dX10_type_30 : decode cX10_type 30 = .ok (.putfield 83, 3) := by decide +kernel
theorem dX10_type_33 : decode cX10_type 33 = .ok (.aload_n 0, 1) := by decide +kernel
theorem dX10_type_34 : decode cX10_type 34 = .ok (.getfield 83, 3) := by decide +kernel
theorem dX10_type_37 : decode cX10_type 37 = .ok (.ireturn, 1) := by decide +kernel
theorem dX10_clearText_0 : decode cX10_clearText 0 = .ok (.aload_n 0, 1) := by decide +kernel
theorem dX10_clearText_1 : decode cX10_clearText 1 = .ok (.getfield 83, 3) := by decide +kernel
theorem dX10_clearText_4 : decode cX10_clearText 4 = .ok (.istore_n 1, 1) := by decide +kernel
theorem dX10_clearText_5 : decode cX10_clearText 5 = .ok (.aload_n 0, 1) := by decide +kernel
theorem dX10_clearText_6 : decode cX10_clearText 6 = .ok (.iconst 0, 1) := by decide +kernel
theorem dX10_clearText_7 : decode cX10_clearText 7 = .ok (.putfield 83, 3) := by decide +kernel
theorem dX10_clearText_10 : decode cX10_clearText 10 = .ok (.iload_n 1, 1) := by decide +kernel
theorem dX10_clearText_11 : decode cX10_clearText 11 = .ok (.ireturn, 1) := by decide +kernel
theorem dX10_addWord_0 : decode cX10_addWord 0 = .ok (.iconst 0, 1) := by decide +kernel
theorem dX10_addWord_1 : decode cX10_addWord 1 = .ok (.istore_n 3, 1) := by decide +kernel
theorem dX10_addWord_2 : decode cX10_addWord 2 = .ok (.iload_n 1, 1) := by decide +kernel
theorem dX10_addWord_3 : decode cX10_addWord 3 = .ok (.istore 4, 2) := by decide +kernel
theorem dX10_addWord_5 : decode cX10_addWord 5 = .ok (.iload 4, 2) := by decide +kernel
theorem dX10_addWord_7 : decode cX10_addWord 7 = .ok (.iload_n 2, 1) := by decide +kernel
theorem dX10_addWord_8 : decode cX10_addWord 8 = .ok (.if_icmp .ge 22, 3) := by decide +kernel
theorem dX10_addWord_11 : decode cX10_addWord 11 = .ok (.iload_n 3, 1) := by decide +kernel
theorem dX10_addWord_12 : decode cX10_addWord 12 = .ok (.aload_n 0, 1) := by decide +kernel
theorem dX10_addWord_13 : decode cX10_addWord 13 = .ok (.getfield 38, 3) := by decide +kernel
theorem dX10_addWord_16 : decode cX10_addWord 16 = .ok (.iload 4, 2) := by decide +kernel
theorem dX10_addWord_18 : decode cX10_addWord 18 = .ok (.caload, 1) := by decide +kernel
theorem dX10_addWord_19 : decode cX10_addWord 19 = .ok (.invokestatic 86, 3) := by decide +kernel
theorem dX10_addWord_22 : decode cX10_addWord 22 = .ok (.iadd, 1) := by decide +kernel
theorem dX10_addWord_23 : decode cX10_addWord 23 = .ok (.istore_n 3, 1) := by decide +kernel
theorem dX10_addWord_24 : decode cX10_addWord 24 = .ok (.iinc 4 1, 3) := by decide +kernel
theorem dX10_addWord_27 : decode cX10_addWord 27 = .ok (.goto (-22), 3) := by decide +kernel
theorem dX10_addWord_30 : decode cX10_addWord 30 = .ok (.aload_n 0, 1) := by decide +kernel
theorem dX10_addWord_31 : decode cX10_addWord 31 = .ok (.getfield 38, 3) := by decide +kernel
theorem dX10_addWord_34 : decode cX10_addWord 34 = .ok (.iload_n 1, 1) := by decide +kernel
theorem dX10_addWord_35 : decode cX10_addWord 35 = .ok (.caload, 1) := by decide +kernel
theorem dX10_addWord_36 : decode cX10_addWord 36 = .ok (.istore 4, 2) := by decide +kernel
theorem dX10_addWord_38 : decode cX10_addWord 38 = .ok (.aload_n 0, 1) := by decide +kernel
theorem dX10_addWord_39 : decode cX10_addWord 39 = .ok (.getfield 38, 3) := by decide +kernel
theorem dX10_addWord_42 : decode cX10_addWord 42 = .ok (.iload_n 2, 1) := by decide +kernel
theorem dX10_addWord_43 : decode cX10_addWord 43 = .ok (.iconst 1, 1) := by decide +kernel
theorem dX10_addWord_44 : decode cX10_addWord 44 = .ok (.isub, 1) := by decide +kernel
theorem dX10_addWord_45 : decode cX10_addWord 45 = .ok (.caload, 1) := by decide +kernel
theorem dX10_addWord_46 : decode cX10_addWord 46 = .ok (.istore 5, 2) := by decide +kernel
theorem dX10_addWord_48 : decode cX10_addWord 48 = .ok (.aload_n 0, 1) := by decide +kernel
theorem dX10_addWord_49 : decode cX10_addWord 49 = .ok (.getfield 23, 3) := by decide +kernel
theorem dX10_addWord_52 : decode cX10_addWord 52 = .ok (.aload_n 0, 1) := by decide +kernel
theorem dX10_addWord_53 : decode cX10_addWord 53 = .ok (.getfield 90, 3) := by decide +kernel
theorem dX10_addWord_56 : decode cX10_addWord 56 = .ok (.iload_n 3, 1) := by decide +kernel
theorem dX10_addWord_57 : decode cX10_addWord 57 = .ok (.iastore, 1) := by decide +kernel
theorem dX10_addWord_58 : decode cX10_addWord 58 = .ok (.aload_n 0, 1) := by decide +kernel
theorem dX10_addWord_59 : decode cX10_addWord 59 = .ok (.getfield 26, 3) := by decide +kernel
theorem dX10_addWord_62 : decode cX10_addWord 62 = .ok (.aload_n 0, 1) := by decide +kernel
theorem dX10_addWord_63 : decode cX10_addWord 63 = .ok (.getfield 90, 3) := by decide +kernel
theorem dX10_addWord_66 : decode cX10_addWord 66 = .ok (.iload_n 2, 1) := by decide +kernel
theorem dX10_addWord_67 : decode cX10_addWord 67 = .ok (.iload_n 1, 1) := by decide +kernel
theorem dX10_addWord_68 : decode cX10_addWord 68 = .ok (.isub, 1) := by decide +kernel
theorem dX10_addWord_69 : decode cX10_addWord 69 = .ok (.iastore, 1) := by decide +kernel
theorem dX10_addWord_70 : decode cX10_addWord 70 = .ok (.aload_n 0, 1) := by decide +kernel
theorem dX10_addWord_71 : decode cX10_addWord 71 = .ok (.getfield 29, 3) := by decide +kernel
theorem dX10_addWord_74 : decode cX10_addWord 74 = .ok (.aload_n 0, 1) := by decide +kernel
theorem dX10_addWord_75 : decode cX10_addWord 75 = .ok (.getfield 90, 3) := by decide +kernel
theorem dX10_addWord_78 : decode cX10_addWord 78 = .ok (.iload 5, 2) := by decide +kernel
theorem dX10_addWord_80 : decode cX10_addWord 80 = .ok (.invokestatic 73, 3) := by decide +kernel
theorem dX10_addWord_83 : decode cX10_addWord 83 = .ok (.ifCond .eq 7, 3) := by decide +kernel
theorem dX10_addWord_86 : decode cX10_addWord 86 = .ok (.iconst 2, 1) := by decide +kernel
theorem dX10_addWord_87 : decode cX10_addWord 87 = .ok (.goto 16, 3) := by decide +kernel
theorem dX10_addWord_90 : decode cX10_addWord 90 = .ok (.iload 5, 2) := by decide +kernel
theorem dX10_addWord_92 : decode cX10_addWord 92 = .ok (.invokestatic 77, 3) := by decide +kernel
theorem dX10_addWord_95 : decode cX10_addWord 95 = .ok (.ifCond .eq 7, 3) := by decide +kernel
theorem dX10_addWord_98 : decode cX10_addWord 98 = .ok (.iconst 1, 1) := by decide +kernel
theorem dX10_addWord_99 : decode cX10_addWord 99 = .ok (.goto 4, 3) := by decide +kernel
theorem dX10_addWord_102 : decode cX10_addWord 102 = .ok (.iconst 0, 1) := by decide +kernel
theorem dX10_addWord_103 : decode cX10_addWord 103 = .ok (.iastore, 1) := by decide +kernel
theorem dX10_addWord_104 : decode cX10_addWord 104 = .ok (.aload_n 0, 1) := by decide +kernel
theorem dX10_addWord_105 : decode cX10_addWord 105 = .ok (.getfield 32, 3) := by decide +kernel
theorem dX10_addWord_108 : decode cX10_addWord 108 = .ok (.aload_n 0, 1) := by decide +kernel
theorem dX10_addWord_109 : decode cX10_addWord 109 = .ok (.getfield 90, 3) := by decide +kernel
theorem dX10_addWord_112 : decode cX10_addWord 112 = .ok (.iload 4, 2) := by decide +kernel
theorem dX10_addWord_114 : decode cX10_addWord 114 = .ok (.bipush 39, 2) := by decide +kernel
theorem dX10_addWord_116 : decode cX10_addWord 116 = .ok (.if_icmp .eq 17, 3) := by decide +kernel
theorem dX10_addWord_119 : decode cX10_addWord 119 = .ok (.iload 4, 2) := by decide +kernel
theorem dX10_addWord_121 : decode cX10_addWord 121 = .ok (.bipush 34, 2) := by decide +kernel
theorem dX10_addWord_123 : decode cX10_addWord 123 = .ok (.if_icmp .eq 10, 3) := by decide +kernel
theorem dX10_addWord_126 : decode cX10_addWord 126 = .ok (.iload 4, 2) := by decide +kernel
theorem dX10_addWord_128 : decode cX10_addWord 128 = .ok (.bipush 40, 2) := by decide +kernel
theorem dX10_addWord_130 : decode cX10_addWord 130 = .ok (.if_icmp .ne 11, 3) := by decide +kernel
theorem dX10_addWord_133 : decode cX10_addWord 133 = .ok (.iload 4, 2) := by decide +kernel
theorem dX10_addWord_135 : decode cX10_addWord 135 = .ok (.invokestatic 86, 3) := by decide +kernel
theorem dX10_addWord_138 : decode cX10_addWord 138 = .ok (.goto 4, 3) := by decide +kernel
theorem dX10_addWord_141 : decode cX10_addWord 141 = .ok (.iconst 0, 1) := by decide +kernel
theorem dX10_addWord_142 : decode cX10_addWord 142 = .ok (.iastore, 1) := by decide +kernel
theorem dX10_addWord_143 : decode cX10_addWord 143 = .ok (.aload_n 0, 1) := by decide +kernel
theorem dX10_addWord_144 : decode cX10_addWord 144 = .ok (.getfield 35, 3) := by decide +kernel
theorem dX10_addWord_147 : decode cX10_addWord 147 = .ok (.aload_n 0, 1) := by decide +kernel
theorem dX10_addWord_148 : decode cX10_addWord 148 = .ok (.getfield 90, 3) := by decide +kernel
theorem dX10_addWord_151 : decode cX10_addWord 151 = .ok (.iload 5, 2) := by decide +kernel
theorem dX10_addWord_153 : decode cX10_addWord 153 = .ok (.invokestatic 80, 3) := by decide +kernel
theorem dX10_addWord_156 : decode cX10_addWord 156 = .ok (.ifCond .eq 11, 3) := by decide +kernel
theorem dX10_addWord_159 : decode cX10_addWord 159 = .ok (.iload 5, 2) := by decide +kernel
theorem dX10_addWord_161 : decode cX10_addWord 161 = .ok (.invokestatic 86, 3) := by decide +kernel
theorem dX10_addWord_164 : decode cX10_addWord 164 = .ok (.goto 4, 3) := by decide +kernel
theorem dX10_addWord_167 : decode cX10_addWord 167 = .ok (.iconst 0, 1) := by decide +kernel
theorem dX10_addWord_168 : decode cX10_addWord 168 = .ok (.iastore, 1) := by decide +kernel
theorem dX10_addWord_169 : decode cX10_addWord 169 = .ok (.aload_n 0, 1) := by decide +kernel
theorem dX10_addWord_170 : decode cX10_addWord 170 = .ok (.dup, 1) := by decide +kernel
theorem dX10_addWord_171 : decode cX10_addWord 171 = .ok (.getfield 90, 3) := by decide +kernel
theorem dX10_addWord_174 : decode cX10_addWord 174 = .ok (.iconst 1, 1) := by decide +kernel
theorem dX10_addWord_175 : decode cX10_addWord 175 = .ok (.iadd, 1) := by decide +kernel
theorem dX10_addWord_176 : decode cX10_addWord 176 = .ok (.putfield 90, 3) := by decide +kernel
theorem dX10_addWord_179 : decode cX10_addWord 179 = .ok (.return_, 1) := by decide +kernel
theorem dX10_readParagraph_0 : decode cX10_readParagraph 0 = .ok (.iconst 0, 1) := by decide +kernel
theorem dX10_readParagraph_1 : decode cX10_readParagraph 1 = .ok (.istore_n 1, 1) := by decide +kernel
theorem dX10_readParagraph_2 : decode cX10_readParagraph 2 = .ok (.iload_n 1, 1) := by decide +kernel
theorem dX10_readParagraph_3 : decode cX10_readParagraph 3 = .ok (.aload_n 0, 1) := by decide +kernel
theorem dX10_readParagraph_4 : decode cX10_readParagraph 4 = .ok (.getfield 83, 3) := by decide +kernel
theorem dX10_readParagraph_7 : decode cX10_readParagraph 7 = .ok (.if_icmp .ge 26, 3) := by decide +kernel
theorem dX10_readParagraph_10 : decode cX10_readParagraph 10 = .ok (.aload_n 0, 1) := by decide +kernel
theorem dX10_readParagraph_11 : decode cX10_readParagraph 11 = .ok (.getfield 38, 3) := by decide +kernel
theorem dX10_readParagraph_14 : decode cX10_readParagraph 14 = .ok (.iload_n 1, 1) := by decide +kernel
theorem dX10_readParagraph_15 : decode cX10_readParagraph 15 = .ok (.caload, 1) := by decide +kernel
theorem dX10_readParagraph_16 : decode cX10_readParagraph 16 = .ok (.invokestatic 93, 3) := by decide +kernel
theorem dX10_readParagraph_19 : decode cX10_readParagraph 19 = .ok (.ifCond .ne 8, 3) := by decide +kernel
theorem dX10_readParagraph_22 : decode cX10_readParagraph 22 = .ok (.bipush (-100), 2) := by decide +kernel
theorem dX10_readParagraph_24 : decode cX10_readParagraph 24 = .ok (.iload_n 1, 1) := by decide +kernel
theorem dX10_readParagraph_25 : decode cX10_readParagraph 25 = .ok (.isub, 1) := by decide +kernel
theorem dX10_readParagraph_26 : decode cX10_readParagraph 26 = .ok (.ireturn, 1) := by decide +kernel
theorem dX10_readParagraph_27 : decode cX10_readParagraph 27 = .ok (.iinc 1 1, 3) := by decide +kernel
theorem dX10_readParagraph_30 : decode cX10_readParagraph 30 = .ok (.goto (-28), 3) := by decide +kernel
theorem dX10_readParagraph_33 : decode cX10_readParagraph 33 = .ok (.aload_n 0, 1) := by decide +kernel
theorem dX10_readParagraph_34 : decode cX10_readParagraph 34 = .ok (.iconst 0, 1) := by decide +kernel
theorem dX10_readParagraph_35 : decode cX10_readParagraph 35 = .ok (.putfield 90, 3) := by decide +kernel
theorem dX10_readParagraph_38 : decode cX10_readParagraph 38 = .ok (.iconst 0, 1) := by decide +kernel
theorem dX10_readParagraph_39 : decode cX10_readParagraph 39 = .ok (.istore_n 1, 1) := by decide +kernel
theorem dX10_readParagraph_40 : decode cX10_readParagraph 40 = .ok (.iload_n 1, 1) := by decide +kernel
theorem dX10_readParagraph_41 : decode cX10_readParagraph 41 = .ok (.aload_n 0, 1) := by decide +kernel
theorem dX10_readParagraph_42 : decode cX10_readParagraph 42 = .ok (.getfield 83, 3) := by decide +kernel
theorem dX10_readParagraph_45 : decode cX10_readParagraph 45 = .ok (.if_icmp .ge 48, 3) := by decide +kernel
theorem dX10_readParagraph_48 : decode cX10_readParagraph 48 = .ok (.iload_n 1, 1) := by decide +kernel
theorem dX10_readParagraph_49 : decode cX10_readParagraph 49 = .ok (.istore_n 2, 1) := by decide +kernel
theorem dX10_readParagraph_50 : decode cX10_readParagraph 50 = .ok (.iload_n 2, 1) := by decide +kernel
theorem dX10_readParagraph_51 : decode cX10_readParagraph 51 = .ok (.aload_n 0, 1) := by decide +kernel
theorem dX10_readParagraph_52 : decode cX10_readParagraph 52 = .ok (.getfield 83, 3) := by decide +kernel
theorem dX10_readParagraph_55 : decode cX10_readParagraph 55 = .ok (.if_icmp .ge 20, 3) := by decide +kernel
theorem dX10_readParagraph_58 : decode cX10_readParagraph 58 = .ok (.aload_n 0, 1) := by decide +kernel
theorem dX10_readParagraph_59 : decode cX10_readParagraph 59 = .ok (.getfield 38, 3) := by decide +kernel
theorem dX10_readParagraph_62 : decode cX10_readParagraph 62 = .ok (.iload_n 2, 1) := by decide +kernel
theorem dX10_readParagraph_63 : decode cX10_readParagraph 63 = .ok (.caload, 1) := by decide +kernel
theorem dX10_readParagraph_64 : decode cX10_readParagraph 64 = .ok (.bipush 32, 2) := by decide +kernel
theorem dX10_readParagraph_66 : decode cX10_readParagraph 66 = .ok (.if_icmp .eq 9, 3) := by decide +kernel
theorem dX10_readParagraph_69 : decode cX10_readParagraph 69 = .ok (.iinc 2 1, 3) := by decide +kernel
theorem dX10_readParagraph_72 : decode cX10_readParagraph 72 = .ok (.goto (-22), 3) := by decide +kernel
theorem dX10_readParagraph_75 : decode cX10_readParagraph 75 = .ok (.iload_n 2, 1) := by decide +kernel
theorem dX10_readParagraph_76 : decode cX10_readParagraph 76 = .ok (.iload_n 1, 1) := by decide +kernel
theorem dX10_readParagraph_77 : decode cX10_readParagraph 77 = .ok (.if_icmp .le 9, 3) := by decide +kernel
theorem dX10_readParagraph_80 : decode cX10_readParagraph 80 = .ok (.aload_n 0, 1) := by decide +kernel
theorem dX10_readParagraph_81 : decode cX10_readParagraph 81 = .ok (.iload_n 1, 1) := by decide +kernel
theorem dX10_readParagraph_82 : decode cX10_readParagraph 82 = .ok (.iload_n 2, 1) := by decide +kernel
theorem dX10_readParagraph_83 : decode cX10_readParagraph 83 = .ok (.invokevirtual 96, 3) := by decide +kernel
theorem dX10_readParagraph_86 : decode cX10_readParagraph 86 = .ok (.iload_n 2, 1) := by decide +kernel
theorem dX10_readParagraph_87 : decode cX10_readParagraph 87 = .ok (.iconst 1, 1) := by decide +kernel
theorem dX10_readParagraph_88 : decode cX10_readParagraph 88 = .ok (.iadd, 1) := by decide +kernel
theorem dX10_readParagraph_89 : decode cX10_readParagraph 89 = .ok (.istore_n 1, 1) := by decide +kernel
theorem dX10_readParagraph_90 : decode cX10_readParagraph 90 = .ok (.goto (-50), 3) := by decide +kernel
theorem dX10_readParagraph_93 : decode cX10_readParagraph 93 = .ok (.aload_n 0, 1) := by decide +kernel
theorem dX10_readParagraph_94 : decode cX10_readParagraph 94 = .ok (.invokevirtual 66, 3) := by decide +kernel
theorem dX10_readParagraph_97 : decode cX10_readParagraph 97 = .ok (.aload_n 0, 1) := by decide +kernel
theorem dX10_readParagraph_98 : decode cX10_readParagraph 98 = .ok (.getfield 90, 3) := by decide +kernel
theorem dX10_readParagraph_101 : decode cX10_readParagraph 101 = .ok (.ireturn, 1) := by decide +kernel
theorem dX10_nextPiece_0 : decode cX10_nextPiece 0 = .ok (.aload_n 0, 1) := by decide +kernel
theorem dX10_nextPiece_1 : decode cX10_nextPiece 1 = .ok (.getfield 100, 3) := by decide +kernel
theorem dX10_nextPiece_4 : decode cX10_nextPiece 4 = .ok (.ifCond .lt 4, 3) := by decide +kernel
theorem dX10_nextPiece_7 : decode cX10_nextPiece 7 = .ok (.return_, 1) := by decide +kernel
theorem dX10_nextPiece_8 : decode cX10_nextPiece 8 = .ok (.iload_n 1, 1) := by decide +kernel
theorem dX10_nextPiece_9 : decode cX10_nextPiece 9 = .ok (.ifCond .ne 23, 3) := by decide +kernel
theorem dX10_nextPiece_12 : decode cX10_nextPiece 12 = .ok (.aload_n 0, 1) := by decide +kernel
theorem dX10_nextPiece_13 : decode cX10_nextPiece 13 = .ok (.getfield 103, 3) := by decide +kernel
theorem dX10_nextPiece_16 : decode cX10_nextPiece 16 = .ok (.aload_n 0, 1) := by decide +kernel
theorem dX10_nextPiece_17 : decode cX10_nextPiece 17 = .ok (.getfield 83, 3) := by decide +kernel
theorem dX10_nextPiece_20 : decode cX10_nextPiece 20 = .ok (.if_icmp .ne 12, 3) := by decide +kernel
theorem dX10_nextPiece_23 : decode cX10_nextPiece 23 = .ok (.aload_n 0, 1) := by decide +kernel
theorem dX10_nextPiece_24 : decode cX10_nextPiece 24 = .ok (.aload_n 0, 1) := by decide +kernel
theorem dX10_nextPiece_25 : decode cX10_nextPiece 25 = .ok (.getfield 83, 3) := by decide +kernel
theorem dX10_nextPiece_28 : decode cX10_nextPiece 28 = .ok (.putfield 100, 3) := by decide +kernel
theorem dX10_nextPiece_31 : decode cX10_nextPiece 31 = .ok (.return_, 1) := by decide +kernel
theorem dX10_nextPiece_32 : decode cX10_nextPiece 32 = .ok (.aload_n 0, 1) := by decide +kernel
theorem dX10_nextPiece_33 : decode cX10_nextPiece 33 = .ok (.iload_n 1, 1) := by decide +kernel
theorem dX10_nextPiece_34 : decode cX10_nextPiece 34 = .ok (.ifCond .eq 7, 3) := by decide +kernel
theorem dX10_nextPiece_37 : decode cX10_nextPiece 37 = .ok (.iconst 0, 1) := by decide +kernel
theorem dX10_nextPiece_38 : decode cX10_nextPiece 38 = .ok (.goto 9, 3) := by decide +kernel
theorem dX10_nextPiece_41 : decode cX10_nextPiece 41 = .ok (.aload_n 0, 1) := by decide +kernel
theorem dX10_nextPiece_42 : decode cX10_nextPiece 42 = .ok (.getfield 103, 3) := by decide +kernel
theorem dX10_nextPiece_45 : decode cX10_nextPiece 45 = .ok (.iconst 1, 1) := by decide +kernel
theorem dX10_nextPiece_46 : decode cX10_nextPiece 46 = .ok (.iadd, 1) := by decide +kernel
theorem dX10_nextPiece_47 : decode cX10_nextPiece 47 = .ok (.putfield 106, 3) := by decide +kernel
theorem dX10_nextPiece_50 : decode cX10_nextPiece 50 = .ok (.aload_n 0, 1) := by decide +kernel
theorem dX10_nextPiece_51 : decode cX10_nextPiece 51 = .ok (.aload_n 0, 1) := by decide +kernel
theorem dX10_nextPiece_52 : decode cX10_nextPiece 52 = .ok (.getfield 106, 3) := by decide +kernel
theorem dX10_nextPiece_55 : decode cX10_nextPiece 55 = .ok (.putfield 103, 3) := by decide +kernel
theorem dX10_nextPiece_58 : decode cX10_nextPiece 58 = .ok (.aload_n 0, 1) := by decide +kernel
theorem dX10_nextPiece_59 : decode cX10_nextPiece 59 = .ok (.getfield 103, 3) := by decide +kernel
theorem dX10_nextPiece_62 : decode cX10_nextPiece 62 = .ok (.aload_n 0, 1) := by decide +kernel
theorem dX10_nextPiece_63 : decode cX10_nextPiece 63 = .ok (.getfield 83, 3) := by decide +kernel
theorem dX10_nextPiece_66 : decode cX10_nextPiece 66 = .ok (.if_icmp .ge 30, 3) := by decide +kernel
theorem dX10_nextPiece_69 : decode cX10_nextPiece 69 = .ok (.aload_n 0, 1) := by decide +kernel
theorem dX10_nextPiece_70 : decode cX10_nextPiece 70 = .ok (.getfield 38, 3) := by decide +kernel
theorem dX10_nextPiece_73 : decode cX10_nextPiece 73 = .ok (.aload_n 0, 1) := by decide +kernel
theorem dX10_nextPiece_74 : decode cX10_nextPiece 74 = .ok (.getfield 103, 3) := by decide +kernel
theorem dX10_nextPiece_77 : decode cX10_nextPiece 77 = .ok (.caload, 1) := by decide +kernel
theorem dX10_nextPiece_78 : decode cX10_nextPiece 78 = .ok (.bipush 32, 2) := by decide +kernel
theorem dX10_nextPiece_80 : decode cX10_nextPiece 80 = .ok (.if_icmp .eq 16, 3) := by decide +kernel
theorem dX10_nextPiece_83 : decode cX10_nextPiece 83 = .ok (.aload_n 0, 1) := by decide +kernel
theorem dX10_nextPiece_84 : decode cX10_nextPiece 84 = .ok (.dup, 1) := by decide +kernel
theorem dX10_nextPiece_85 : decode cX10_nextPiece 85 = .ok (.getfield 103, 3) := by decide +kernel
theorem dX10_nextPiece_88 : decode cX10_nextPiece 88 = .ok (.iconst 1, 1) := by decide +kernel
theorem dX10_nextPiece_89 : decode cX10_nextPiece 89 = .ok (.iadd, 1) := by decide +kernel
theorem dX10_nextPiece_90 : decode cX10_nextPiece 90 = .ok (.putfield 103, 3) := by decide +kernel
theorem dX10_nextPiece_93 : decode cX10_nextPiece 93 = .ok (.goto (-35), 3) := by decide +kernel
theorem dX10_nextPiece_96 : decode cX10_nextPiece 96 = .ok (.aload_n 0, 1) := by decide +kernel
theorem dX10_nextPiece_97 : decode cX10_nextPiece 97 = .ok (.aload_n 0, 1) := by decide +kernel
theorem dX10_nextPiece_98 : decode cX10_nextPiece 98 = .ok (.getfield 103, 3) := by decide +kernel
theorem dX10_nextPiece_101 : decode cX10_nextPiece 101 = .ok (.aload_n 0, 1) := by decide +kernel
theorem dX10_nextPiece_102 : decode cX10_nextPiece 102 = .ok (.getfield 106, 3) := by decide +kernel
theorem dX10_nextPiece_105 : decode cX10_nextPiece 105 = .ok (.if_icmp .ne 10, 3) := by decide +kernel
theorem dX10_nextPiece_108 : decode cX10_nextPiece 108 = .ok (.aload_n 0, 1) := by decide +kernel
theorem dX10_nextPiece_109 : decode cX10_nextPiece 109 = .ok (.getfield 106, 3) := by decide +kernel
theorem dX10_nextPiece_112 : decode cX10_nextPiece 112 = .ok (.goto 4, 3) := by decide +kernel
theorem dX10_nextPiece_115 : decode cX10_nextPiece 115 = .ok (.iconst (-1), 1) := by decide +kernel
theorem dX10_nextPiece_116 : decode cX10_nextPiece 116 = .ok (.putfield 100, 3) := by decide +kernel
theorem dX10_nextPiece_119 : decode cX10_nextPiece 119 = .ok (.return_, 1) := by decide +kernel
theorem dX10_isPiece_0 : decode cX10_isPiece 0 = .ok (.aload_n 0, 1) := by decide +kernel
theorem dX10_isPiece_1 : decode cX10_isPiece 1 = .ok (.getfield 103, 3) := by decide +kernel
theorem dX10_isPiece_4 : decode cX10_isPiece 4 = .ok (.aload_n 0, 1) := by decide +kernel
theorem dX10_isPiece_5 : decode cX10_isPiece 5 = .ok (.getfield 106, 3) := by decide +kernel
theorem dX10_isPiece_8 : decode cX10_isPiece 8 = .ok (.isub, 1) := by decide +kernel
theorem dX10_isPiece_9 : decode cX10_isPiece 9 = .ok (.iconst 3, 1) := by decide +kernel
theorem dX10_isPiece_10 : decode cX10_isPiece 10 = .ok (.if_icmp .le 66, 3) := by decide +kernel
theorem dX10_isPiece_13 : decode cX10_isPiece 13 = .ok (.aload_n 0, 1) := by decide +kernel
theorem dX10_isPiece_14 : decode cX10_isPiece 14 = .ok (.getfield 38, 3) := by decide +kernel
theorem dX10_isPiece_17 : decode cX10_isPiece 17 = .ok (.aload_n 0, 1) := by decide +kernel
theorem dX10_isPiece_18 : decode cX10_isPiece 18 = .ok (.getfield 106, 3) := by decide +kernel
theorem dX10_isPiece_21 : decode cX10_isPiece 21 = .ok (.caload, 1) := by decide +kernel
theorem dX10_isPiece_22 : decode cX10_isPiece 22 = .ok (.iload_n 1, 1) := by decide +kernel
theorem dX10_isPiece_23 : decode cX10_isPiece 23 = .ok (.if_icmp .ne 53, 3) := by decide +kernel
theorem dX10_isPiece_26 : decode cX10_isPiece 26 = .ok (.aload_n 0, 1) := by decide +kernel
theorem dX10_isPiece_27 : decode cX10_isPiece 27 = .ok (.getfield 38, 3) := by decide +kernel
theorem dX10_isPiece_30 : decode cX10_isPiece 30 = .ok (.aload_n 0, 1) := by decide +kernel
theorem dX10_isPiece_31 : decode cX10_isPiece 31 = .ok (.getfield 106, 3) := by decide +kernel
theorem dX10_isPiece_34 : decode cX10_isPiece 34 = .ok (.iconst 1, 1) := by decide +kernel
theorem dX10_isPiece_35 : decode cX10_isPiece 35 = .ok (.iadd, 1) := by decide +kernel
theorem dX10_isPiece_36 : decode cX10_isPiece 36 = .ok (.caload, 1) := by decide +kernel
theorem dX10_isPiece_37 : decode cX10_isPiece 37 = .ok (.iload_n 2, 1) := by decide +kernel
theorem dX10_isPiece_38 : decode cX10_isPiece 38 = .ok (.if_icmp .ne 38, 3) := by decide +kernel
theorem dX10_isPiece_41 : decode cX10_isPiece 41 = .ok (.aload_n 0, 1) := by decide +kernel
theorem dX10_isPiece_42 : decode cX10_isPiece 42 = .ok (.getfield 38, 3) := by decide +kernel
theorem dX10_isPiece_45 : decode cX10_isPiece 45 = .ok (.aload_n 0, 1) := by decide +kernel
theorem dX10_isPiece_46 : decode cX10_isPiece 46 = .ok (.getfield 106, 3) := by decide +kernel
theorem dX10_isPiece_49 : decode cX10_isPiece 49 = .ok (.iconst 2, 1) := by decide +kernel
theorem dX10_isPiece_50 : decode cX10_isPiece 50 = .ok (.iadd, 1) := by decide +kernel
theorem dX10_isPiece_51 : decode cX10_isPiece 51 = .ok (.caload, 1) := by decide +kernel
theorem dX10_isPiece_52 : decode cX10_isPiece 52 = .ok (.iload_n 3, 1) := by decide +kernel
theorem dX10_isPiece_53 : decode cX10_isPiece 53 = .ok (.if_icmp .ne 23, 3) := by decide +kernel
theorem dX10_isPiece_56 : decode cX10_isPiece 56 = .ok (.aload_n 0, 1) := by decide +kernel
theorem dX10_isPiece_57 : decode cX10_isPiece 57 = .ok (.getfield 38, 3) := by decide +kernel
theorem dX10_isPiece_60 : decode cX10_isPiece 60 = .ok (.aload_n 0, 1) := by decide +kernel
theorem dX10_isPiece_61 : decode cX10_isPiece 61 = .ok (.getfield 106, 3) := by decide +kernel
theorem dX10_isPiece_64 : decode cX10_isPiece 64 = .ok (.iconst 3, 1) := by decide +kernel
theorem dX10_isPiece_65 : decode cX10_isPiece 65 = .ok (.iadd, 1) := by decide +kernel
theorem dX10_isPiece_66 : decode cX10_isPiece 66 = .ok (.caload, 1) := by decide +kernel
theorem dX10_isPiece_67 : decode cX10_isPiece 67 = .ok (.iload 4, 2) := by decide +kernel
theorem dX10_isPiece_69 : decode cX10_isPiece 69 = .ok (.if_icmp .ne 7, 3) := by decide +kernel
theorem dX10_isPiece_72 : decode cX10_isPiece 72 = .ok (.iconst 1, 1) := by decide +kernel
theorem dX10_isPiece_73 : decode cX10_isPiece 73 = .ok (.goto 4, 3) := by decide +kernel
theorem dX10_isPiece_76 : decode cX10_isPiece 76 = .ok (.iconst 0, 1) := by decide +kernel
theorem dX10_isPiece_77 : decode cX10_isPiece 77 = .ok (.ireturn, 1) := by decide +kernel
theorem dX10_endsWith_0 : decode cX10_endsWith 0 = .ok (.aload_n 0, 1) := by decide +kernel
theorem dX10_endsWith_1 : decode cX10_endsWith 1 = .ok (.getfield 38, 3) := by decide +kernel
theorem dX10_endsWith_4 : decode cX10_endsWith 4 = .ok (.aload_n 0, 1) := by decide +kernel
theorem dX10_endsWith_5 : decode cX10_endsWith 5 = .ok (.getfield 103, 3) := by decide +kernel
theorem dX10_endsWith_8 : decode cX10_endsWith 8 = .ok (.iconst 3, 1) := by decide +kernel
theorem dX10_endsWith_9 : decode cX10_endsWith 9 = .ok (.isub, 1) := by decide +kernel
theorem dX10_endsWith_10 : decode cX10_endsWith 10 = .ok (.caload, 1) := by decide +kernel
theorem dX10_endsWith_11 : decode cX10_endsWith 11 = .ok (.iload_n 1, 1) := by decide +kernel
theorem dX10_endsWith_12 : decode cX10_endsWith 12 = .ok (.if_icmp .ne 37, 3) := by decide +kernel
theorem dX10_endsWith_15 : decode cX10_endsWith 15 = .ok (.aload_n 0, 1) := by decide +kernel
theorem dX10_endsWith_16 : decode cX10_endsWith 16 = .ok (.getfield 38, 3) := by decide +kernel
theorem dX10_endsWith_19 : decode cX10_endsWith 19 = .ok (.aload_n 0, 1) := by decide +kernel
theorem dX10_endsWith_20 : decode cX10_endsWith 20 = .ok (.getfield 103, 3) := by decide +kernel
theorem dX10_endsWith_23 : decode cX10_endsWith 23 = .ok (.iconst 2, 1) := by decide +kernel
theorem dX10_endsWith_24 : decode cX10_endsWith 24 = .ok (.isub, 1) := by decide +kernel
theorem dX10_endsWith_25 : decode cX10_endsWith 25 = .ok (.caload, 1) := by decide +kernel
theorem dX10_endsWith_26 : decode cX10_endsWith 26 = .ok (.iload_n 2, 1) := by decide +kernel
theorem dX10_endsWith_27 : decode cX10_endsWith 27 = .ok (.if_icmp .ne 22, 3) := by decide +kernel
theorem dX10_endsWith_30 : decode cX10_endsWith 30 = .ok (.aload_n 0, 1) := by decide +kernel
theorem dX10_endsWith_31 : decode cX10_endsWith 31 = .ok (.getfield 38, 3) := by decide +kernel
theorem dX10_endsWith_34 : decode cX10_endsWith 34 = .ok (.aload_n 0, 1) := by decide +kernel
theorem dX10_endsWith_35 : decode cX10_endsWith 35 = .ok (.getfield 103, 3) := by decide +kernel
theorem dX10_endsWith_38 : decode cX10_endsWith 38 = .ok (.iconst 1, 1) := by decide +kernel
theorem dX10_endsWith_39 : decode cX10_endsWith 39 = .ok (.isub, 1) := by decide +kernel
theorem dX10_endsWith_40 : decode cX10_endsWith 40 = .ok (.caload, 1) := by decide +kernel
theorem dX10_endsWith_41 : decode cX10_endsWith 41 = .ok (.iload_n 3, 1) := by decide +kernel
theorem dX10_endsWith_42 : decode cX10_endsWith 42 = .ok (.if_icmp .ne 7, 3) := by decide +kernel
theorem dX10_endsWith_45 : decode cX10_endsWith 45 = .ok (.iconst 1, 1) := by decide +kernel
theorem dX10_endsWith_46 : decode cX10_endsWith 46 = .ok (.goto 4, 3) := by decide +kernel
theorem dX10_endsWith_49 : decode cX10_endsWith 49 = .ok (.iconst 0, 1) := by decide +kernel
theorem dX10_endsWith_50 : decode cX10_endsWith 50 = .ok (.ireturn, 1) := by decide +kernel
theorem dX10_isLong_0 : decode cX10_isLong 0 = .ok (.aload_n 0, 1) := by decide +kernel
theorem dX10_isLong_1 : decode cX10_isLong 1 = .ok (.getfield 103, 3) := by decide +kernel
theorem dX10_isLong_4 : decode cX10_isLong 4 = .ok (.aload_n 0, 1) := by decide +kernel
theorem dX10_isLong_5 : decode cX10_isLong 5 = .ok (.getfield 106, 3) := by decide +kernel
theorem dX10_isLong_8 : decode cX10_isLong 8 = .ok (.isub, 1) := by decide +kernel
theorem dX10_isLong_9 : decode cX10_isLong 9 = .ok (.iload_n 1, 1) := by decide +kernel
theorem dX10_isLong_10 : decode cX10_isLong 10 = .ok (.if_icmp .ne 7, 3) := by decide +kernel
theorem dX10_isLong_13 : decode cX10_isLong 13 = .ok (.iconst 1, 1) := by decide +kernel
theorem dX10_isLong_14 : decode cX10_isLong 14 = .ok (.goto 4, 3) := by decide +kernel
theorem dX10_isLong_17 : decode cX10_isLong 17 = .ok (.iconst 0, 1) := by decide +kernel
theorem dX10_isLong_18 : decode cX10_isLong 18 = .ok (.ireturn, 1) := by decide +kernel
theorem dX10_number_0 : decode cX10_number 0 = .ok (.aload_n 0, 1) := by decide +kernel
theorem dX10_number_1 : decode cX10_number 1 = .ok (.iconst 0, 1) := by decide +kernel
theorem dX10_number_2 : decode cX10_number 2 = .ok (.invokevirtual 109, 3) := by decide +kernel
theorem dX10_number_5 : decode cX10_number 5 = .ok (.iconst 0, 1) := by decide +kernel
theorem dX10_number_6 : decode cX10_number 6 = .ok (.istore_n 3, 1) := by decide +kernel
theorem dX10_number_7 : decode cX10_number 7 = .ok (.aload_n 0, 1) := by decide +kernel
theorem dX10_number_8 : decode cX10_number 8 = .ok (.getfield 106, 3) := by decide +kernel
theorem dX10_number_11 : decode cX10_number 11 = .ok (.istore 4, 2) := by decide +kernel
theorem dX10_number_13 : decode cX10_number 13 = .ok (.iload 4, 2) := by decide +kernel
theorem dX10_number_15 : decode cX10_number 15 = .ok (.aload_n 0, 1) := by decide +kernel
theorem dX10_number_16 : decode cX10_number 16 = .ok (.getfield 103, 3) := by decide +kernel
theorem dX10_number_19 : decode cX10_number 19 = .ok (.if_icmp .ge 74, 3) := by decide +kernel
theorem dX10_number_22 : decode cX10_number 22 = .ok (.aload_n 0, 1) := by decide +kernel
theorem dX10_number_23 : decode cX10_number 23 = .ok (.getfield 100, 3) := by decide +kernel
theorem dX10_number_26 : decode cX10_number 26 = .ok (.ifCond .ge 67, 3) := by decide +kernel
theorem dX10_number_29 : decode cX10_number 29 = .ok (.aload_n 0, 1) := by decide +kernel
theorem dX10_number_30 : decode cX10_number 30 = .ok (.getfield 38, 3) := by decide +kernel
theorem dX10_number_33 : decode cX10_number 33 = .ok (.iload 4, 2) := by decide +kernel
theorem dX10_number_35 : decode cX10_number 35 = .ok (.caload, 1) := by decide +kernel
theorem dX10_number_36 : decode cX10_number 36 = .ok (.bipush 48, 2) := by decide +kernel
theorem dX10_number_38 : decode cX10_number 38 = .ok (.bipush 57, 2) := by decide +kernel
theorem dX10_number_40 : decode cX10_number 40 = .ok (.invokestatic 69, 3) := by decide +kernel
theorem dX10_number_43 : decode cX10_number 43 = .ok (.ifCond .eq 20, 3) := by decide +kernel
theorem dX10_number_46 : decode cX10_number 46 = .ok (.aload_n 0, 1) := by decide +kernel
theorem dX10_number_47 : decode cX10_number 47 = .ok (.getfield 103, 3) := by decide +kernel
theorem dX10_number_50 : decode cX10_number 50 = .ok (.aload_n 0, 1) := by decide +kernel
theorem dX10_number_51 : decode cX10_number 51 = .ok (.getfield 106, 3) := by decide +kernel
theorem dX10_number_54 : decode cX10_number 54 = .ok (.isub, 1) := by decide +kernel
theorem dX10_number_55 : decode cX10_number 55 = .ok (.iconst 1, 1) := by decide +kernel
theorem dX10_number_56 : decode cX10_number 56 = .ok (.iconst 3, 1) := by decide +kernel
theorem dX10_number_57 : decode cX10_number 57 = .ok (.invokestatic 69, 3) := by decide +kernel
theorem dX10_number_60 : decode cX10_number 60 = .ok (.ifCond .ne 11, 3) := by decide +kernel
theorem dX10_number_63 : decode cX10_number 63 = .ok (.aload_n 0, 1) := by decide +kernel
theorem dX10_number_64 : decode cX10_number 64 = .ok (.aload_n 0, 1) := by decide +kernel
theorem dX10_number_65 : decode cX10_number 65 = .ok (.getfield 106, 3) := by decide +kernel
theorem dX10_number_68 : decode cX10_number 68 = .ok (.putfield 100, 3) := by decide +kernel
theorem dX10_number_71 : decode cX10_number 71 = .ok (.bipush 10, 2) := by decide +kernel
theorem dX10_number_73 : decode cX10_number 73 = .ok (.iload_n 3, 1) := by decide +kernel
theorem dX10_number_74 : decode cX10_number 74 = .ok (.imul, 1) := by decide +kernel
theorem dX10_number_75 : decode cX10_number 75 = .ok (.aload_n 0, 1) := by decide +kernel
theorem dX10_number_76 : decode cX10_number 76 = .ok (.getfield 38, 3) := by decide +kernel
theorem dX10_number_79 : decode cX10_number 79 = .ok (.iload 4, 2) := by decide +kernel
theorem dX10_number_81 : decode cX10_number 81 = .ok (.caload, 1) := by decide +kernel
theorem dX10_number_82 : decode cX10_number 82 = .ok (.iadd, 1) := by decide +kernel
theorem dX10_number_83 : decode cX10_number 83 = .ok (.bipush 48, 2) := by decide +kernel
theorem dX10_number_85 : decode cX10_number 85 = .ok (.isub, 1) := by decide +kernel
theorem dX10_number_86 : decode cX10_number 86 = .ok (.istore_n 3, 1) := by decide +kernel
theorem dX10_number_87 : decode cX10_number 87 = .ok (.iinc 4 1, 3) := by decide +kernel
theorem dX10_number_90 : decode cX10_number 90 = .ok (.goto (-77), 3) := by decide +kernel
theorem dX10_number_93 : decode cX10_number 93 = .ok (.aload_n 0, 1) := by decide +kernel
theorem dX10_number_94 : decode cX10_number 94 = .ok (.getfield 100, 3) := by decide +kernel
theorem dX10_number_97 : decode cX10_number 97 = .ok (.ifCond .ge 20, 3) := by decide +kernel
theorem dX10_number_100 : decode cX10_number 100 = .ok (.iload_n 3, 1) := by decide +kernel
theorem dX10_number_101 : decode cX10_number 101 = .ok (.iload_n 1, 1) := by decide +kernel
theorem dX10_number_102 : decode cX10_number 102 = .ok (.iload_n 2, 1) := by decide +kernel
theorem dX10_number_103 : decode cX10_number 103 = .ok (.invokestatic 69, 3) := by decide +kernel
theorem dX10_number_106 : decode cX10_number 106 = .ok (.ifCond .ne 11, 3) := by decide +kernel
theorem dX10_number_109 : decode cX10_number 109 = .ok (.aload_n 0, 1) := by decide +kernel
theorem dX10_number_110 : decode cX10_number 110 = .ok (.aload_n 0, 1) := by decide +kernel
theorem dX10_number_111 : decode cX10_number 111 = .ok (.getfield 106, 3) := by decide +kernel
theorem dX10_number_114 : decode cX10_number 114 = .ok (.putfield 100, 3) := by decide +kernel
theorem dX10_number_117 : decode cX10_number 117 = .ok (.iload_n 3, 1) := by decide +kernel
theorem dX10_number_118 : decode cX10_number 118 = .ok (.ireturn, 1) := by decide +kernel
theorem dX10_kind_0 : decode cX10_kind 0 = .ok (.aload_n 0, 1) := by decide +kernel
theorem dX10_kind_1 : decode cX10_kind 1 = .ok (.iconst 0, 1) := by decide +kernel
theorem dX10_kind_2 : decode cX10_kind 2 = .ok (.invokevirtual 109, 3) := by decide +kernel
theorem dX10_kind_5 : decode cX10_kind 5 = .ok (.aload_n 0, 1) := by decide +kernel
theorem dX10_kind_6 : decode cX10_kind 6 = .ok (.getfield 100, 3) := by decide +kernel
theorem dX10_kind_9 : decode cX10_kind 9 = .ok (.ifCond .lt 7, 3) := by decide +kernel
theorem dX10_kind_12 : decode cX10_kind 12 = .ok (.iconst (-1), 1) := by decide +kernel
theorem dX10_kind_13 : decode cX10_kind 13 = .ok (.goto 129, 3) := by decide +kernel
theorem dX10_kind_16 : decode cX10_kind 16 = .ok (.aload_n 0, 1) := by decide +kernel
theorem dX10_kind_17 : decode cX10_kind 17 = .ok (.bipush 119, 2) := by decide +kernel
theorem dX10_kind_19 : decode cX10_kind 19 = .ok (.bipush 111, 2) := by decide +kernel
theorem dX10_kind_21 : decode cX10_kind 21 = .ok (.bipush 114, 2) := by decide +kernel
theorem dX10_kind_23 : decode cX10_kind 23 = .ok (.bipush 100, 2) := by decide +kernel
theorem dX10_kind_25 : decode cX10_kind 25 = .ok (.invokevirtual 113, 3) := by decide +kernel
theorem dX10_kind_28 : decode cX10_kind 28 = .ok (.ifCond .eq 15, 3) := by decide +kernel
theorem dX10_kind_31 : decode cX10_kind 31 = .ok (.aload_n 0, 1) := by decide +kernel
theorem dX10_kind_32 : decode cX10_kind 32 = .ok (.iconst 4, 1) := by decide +kernel
theorem dX10_kind_33 : decode cX10_kind 33 = .ok (.invokevirtual 117, 3) := by decide +kernel
theorem dX10_kind_36 : decode cX10_kind 36 = .ok (.ifCond .eq 7, 3) := by decide +kernel
theorem dX10_kind_39 : decode cX10_kind 39 = .ok (.iconst 0, 1) := by decide +kernel
theorem dX10_kind_40 : decode cX10_kind 40 = .ok (.goto 102, 3) := by decide +kernel
theorem dX10_kind_43 : decode cX10_kind 43 = .ok (.aload_n 0, 1) := by decide +kernel
theorem dX10_kind_44 : decode cX10_kind 44 = .ok (.bipush 99, 2) := by decide +kernel
theorem dX10_kind_46 : decode cX10_kind 46 = .ok (.bipush 108, 2) := by decide +kernel
theorem dX10_kind_48 : decode cX10_kind 48 = .ok (.bipush 97, 2) := by decide +kernel
theorem dX10_kind_50 : decode cX10_kind 50 = .ok (.bipush 117, 2) := by decide +kernel
theorem dX10_kind_52 : decode cX10_kind 52 = .ok (.invokevirtual 113, 3) := by decide +kernel
theorem dX10_kind_55 : decode cX10_kind 55 = .ok (.ifCond .eq 29, 3) := by decide +kernel
theorem dX10_kind_58 : decode cX10_kind 58 = .ok (.aload_n 0, 1) := by decide +kernel
theorem dX10_kind_59 : decode cX10_kind 59 = .ok (.bipush 6, 2) := by decide +kernel
theorem dX10_kind_61 : decode cX10_kind 61 = .ok (.invokevirtual 117, 3) := by decide +kernel
theorem dX10_kind_64 : decode cX10_kind 64 = .ok (.ifCond .eq 20, 3) := by decide +kernel
theorem dX10_kind_67 : decode cX10_kind 67 = .ok (.aload_n 0, 1) := by decide +kernel
theorem dX10_kind_68 : decode cX10_kind 68 = .ok (.bipush 117, 2) := by decide +kernel
theorem dX10_kind_70 : decode cX10_kind 70 = .ok (.bipush 115, 2) := by decide +kernel
theorem dX10_kind_72 : decode cX10_kind 72 = .ok (.bipush 101, 2) := by decide +kernel
theorem dX10_kind_74 : decode cX10_kind 74 = .ok (.invokevirtual 121, 3) := by decide +kernel
theorem dX10_kind_77 : decode cX10_kind 77 = .ok (.ifCond .eq 7, 3) := by decide +kernel
theorem dX10_kind_80 : decode cX10_kind 80 = .ok (.iconst 1, 1) := by decide +kernel
theorem dX10_kind_81 : decode cX10_kind 81 = .ok (.goto 61, 3) := by decide +kernel
theorem dX10_kind_84 : decode cX10_kind 84 = .ok (.aload_n 0, 1) := by decide +kernel
theorem dX10_kind_85 : decode cX10_kind 85 = .ok (.bipush 115, 2) := by decide +kernel
theorem dX10_kind_87 : decode cX10_kind 87 = .ok (.bipush 101, 2) := by decide +kernel
theorem dX10_kind_89 : decode cX10_kind 89 = .ok (.bipush 110, 2) := by decide +kernel
theorem dX10_kind_91 : decode cX10_kind 91 = .ok (.bipush 116, 2) := by decide +kernel
theorem dX10_kind_93 : decode cX10_kind 93 = .ok (.invokevirtual 113, 3) := by decide +kernel
theorem dX10_kind_96 : decode cX10_kind 96 = .ok (.ifCond .eq 45, 3) := by decide +kernel
theorem dX10_kind_99 : decode cX10_kind 99 = .ok (.aload_n 0, 1) := by decide +kernel
theorem dX10_kind_100 : decode cX10_kind 100 = .ok (.bipush 8, 2) := by decide +kernel
theorem dX10_kind_102 : decode cX10_kind 102 = .ok (.invokevirtual 117, 3) := by decide +kernel
theorem dX10_kind_105 : decode cX10_kind 105 = .ok (.ifCond .eq 36, 3) := by decide +kernel
theorem dX10_kind_108 : decode cX10_kind 108 = .ok (.aload_n 0, 1) := by decide +kernel
theorem dX10_kind_109 : decode cX10_kind 109 = .ok (.bipush 110, 2) := by decide +kernel
theorem dX10_kind_111 : decode cX10_kind 111 = .ok (.bipush 99, 2) := by decide +kernel
theorem dX10_kind_113 : decode cX10_kind 113 = .ok (.bipush 101, 2) := by decide +kernel
theorem dX10_kind_115 : decode cX10_kind 115 = .ok (.invokevirtual 121, 3) := by decide +kernel
theorem dX10_kind_118 : decode cX10_kind 118 = .ok (.ifCond .eq 23, 3) := by decide +kernel
theorem dX10_kind_121 : decode cX10_kind 121 = .ok (.aload_n 0, 1) := by decide +kernel
theorem dX10_kind_122 : decode cX10_kind 122 = .ok (.getfield 38, 3) := by decide +kernel
theorem dX10_kind_125 : decode cX10_kind 125 = .ok (.aload_n 0, 1) := by decide +kernel
theorem dX10_kind_126 : decode cX10_kind 126 = .ok (.getfield 106, 3) := by decide +kernel
theorem dX10_kind_129 : decode cX10_kind 129 = .ok (.iconst 4, 1) := by decide +kernel
theorem dX10_kind_130 : decode cX10_kind 130 = .ok (.iadd, 1) := by decide +kernel
theorem dX10_kind_131 : decode cX10_kind 131 = .ok (.caload, 1) := by decide +kernel
theorem dX10_kind_132 : decode cX10_kind 132 = .ok (.bipush 101, 2) := by decide +kernel
theorem dX10_kind_134 : decode cX10_kind 134 = .ok (.if_icmp .ne 7, 3) := by decide +kernel
theorem dX10_kind_137 : decode cX10_kind 137 = .ok (.iconst 2, 1) := by decide +kernel
theorem dX10_kind_138 : decode cX10_kind 138 = .ok (.goto 4, 3) := by decide +kernel
theorem dX10_kind_141 : decode cX10_kind 141 = .ok (.iconst (-1), 1) := by decide +kernel
theorem dX10_kind_142 : decode cX10_kind 142 = .ok (.istore_n 1, 1) := by decide +kernel
theorem dX10_kind_143 : decode cX10_kind 143 = .ok (.aload_n 0, 1) := by decide +kernel
theorem dX10_kind_144 : decode cX10_kind 144 = .ok (.getfield 100, 3) := by decide +kernel
theorem dX10_kind_147 : decode cX10_kind 147 = .ok (.ifCond .ge 15, 3) := by decide +kernel
theorem dX10_kind_150 : decode cX10_kind 150 = .ok (.iload_n 1, 1) := by decide +kernel
theorem dX10_kind_151 : decode cX10_kind 151 = .ok (.ifCond .ge 11, 3) := by decide +kernel
theorem dX10_kind_154 : decode cX10_kind 154 = .ok (.aload_n 0, 1) := by decide +kernel
theorem dX10_kind_155 : decode cX10_kind 155 = .ok (.aload_n 0, 1) := by decide +kernel
theorem dX10_kind_156 : decode cX10_kind 156 = .ok (.getfield 106, 3) := by decide +kernel
theorem dX10_kind_159 : decode cX10_kind 159 = .ok (.putfield 100, 3) := by decide +kernel
theorem dX10_kind_162 : decode cX10_kind 162 = .ok (.iload_n 1, 1) := by decide +kernel
theorem dX10_kind_163 : decode cX10_kind 163 = .ok (.ireturn, 1) := by decide +kernel
theorem dX10_command_0 : decode cX10_command 0 = .ok (.aload_n 0, 1) := by decide +kernel
theorem dX10_command_1 : decode cX10_command 1 = .ok (.iconst (-1), 1) := by decide +kernel
theorem dX10_command_2 : decode cX10_command 2 = .ok (.putfield 100, 3) := by decide +kernel
theorem dX10_command_5 : decode cX10_command 5 = .ok (.aload_n 0, 1) := by decide +kernel
theorem dX10_command_6 : decode cX10_command 6 = .ok (.iconst 0, 1) := by decide +kernel
theorem dX10_command_7 : decode cX10_command 7 = .ok (.putfield 103, 3) := by decide +kernel
theorem dX10_command_10 : decode cX10_command 10 = .ok (.aload_n 0, 1) := by decide +kernel
theorem dX10_command_11 : decode cX10_command 11 = .ok (.iconst 1, 1) := by decide +kernel
theorem dX10_command_12 : decode cX10_command 12 = .ok (.invokevirtual 109, 3) := by decide +kernel
theorem dX10_command_15 : decode cX10_command 15 = .ok (.aload_n 0, 1) := by decide +kernel
theorem dX10_command_16 : decode cX10_command 16 = .ok (.getfield 100, 3) := by decide +kernel
theorem dX10_command_19 : decode cX10_command 19 = .ok (.ifCond .lt 7, 3) := by decide +kernel
theorem dX10_command_22 : decode cX10_command 22 = .ok (.iconst (-1), 1) := by decide +kernel
theorem dX10_command_23 : decode cX10_command 23 = .ok (.goto 158, 3) := by decide +kernel
theorem dX10_command_26 : decode cX10_command 26 = .ok (.aload_n 0, 1) := by decide +kernel
theorem dX10_command_27 : decode cX10_command 27 = .ok (.bipush 109, 2) := by decide +kernel
theorem dX10_command_29 : decode cX10_command 29 = .ok (.bipush 101, 2) := by decide +kernel
theorem dX10_command_31 : decode cX10_command 31 = .ok (.bipush 97, 2) := by decide +kernel
theorem dX10_command_33 : decode cX10_command 33 = .ok (.bipush 115, 2) := by decide +kernel
theorem dX10_command_35 : decode cX10_command 35 = .ok (.invokevirtual 113, 3) := by decide +kernel
theorem dX10_command_38 : decode cX10_command 38 = .ok (.ifCond .eq 29, 3) := by decide +kernel
theorem dX10_command_41 : decode cX10_command 41 = .ok (.aload_n 0, 1) := by decide +kernel
theorem dX10_command_42 : decode cX10_command 42 = .ok (.bipush 7, 2) := by decide +kernel
theorem dX10_command_44 : decode cX10_command 44 = .ok (.invokevirtual 117, 3) := by decide +kernel
theorem dX10_command_47 : decode cX10_command 47 = .ok (.ifCond .eq 20, 3) := by decide +kernel
theorem dX10_command_50 : decode cX10_command 50 = .ok (.aload_n 0, 1) := by decide +kernel
theorem dX10_command_51 : decode cX10_command 51 = .ok (.bipush 117, 2) := by decide +kernel
theorem dX10_command_53 : decode cX10_command 53 = .ok (.bipush 114, 2) := by decide +kernel
theorem dX10_command_55 : decode cX10_command 55 = .ok (.bipush 101, 2) := by decide +kernel
theorem dX10_command_57 : decode cX10_command 57 = .ok (.invokevirtual 121, 3) := by decide +kernel
theorem dX10_command_60 : decode cX10_command 60 = .ok (.ifCond .eq 7, 3) := by decide +kernel
theorem dX10_command_63 : decode cX10_command 63 = .ok (.iconst 0, 1) := by decide +kernel
theorem dX10_command_64 : decode cX10_command 64 = .ok (.goto 117, 3) := by decide +kernel
theorem dX10_command_67 : decode cX10_command 67 = .ok (.aload_n 0, 1) := by decide +kernel
theorem dX10_command_68 : decode cX10_command 68 = .ok (.bipush 104, 2) := by decide +kernel
theorem dX10_command_70 : decode cX10_command 70 = .ok (.bipush 97, 2) := by decide +kernel
theorem dX10_command_72 : decode cX10_command 72 = .ok (.bipush 110, 2) := by decide +kernel
theorem dX10_command_74 : decode cX10_command 74 = .ok (.bipush 103, 2) := by decide +kernel
theorem dX10_command_76 : decode cX10_command 76 = .ok (.invokevirtual 113, 3) := by decide +kernel
theorem dX10_command_79 : decode cX10_command 79 = .ok (.ifCond .eq 15, 3) := by decide +kernel
theorem dX10_command_82 : decode cX10_command 82 = .ok (.aload_n 0, 1) := by decide +kernel
theorem dX10_command_83 : decode cX10_command 83 = .ok (.iconst 4, 1) := by decide +kernel
theorem dX10_command_84 : decode cX10_command 84 = .ok (.invokevirtual 117, 3) := by decide +kernel
theorem dX10_command_87 : decode cX10_command 87 = .ok (.ifCond .eq 7, 3) := by decide +kernel
theorem dX10_command_90 : decode cX10_command 90 = .ok (.iconst 1, 1) := by decide +kernel
theorem dX10_command_91 : decode cX10_command 91 = .ok (.goto 90, 3) := by decide +kernel
theorem dX10_command_94 : decode cX10_command 94 = .ok (.aload_n 0, 1) := by decide +kernel
theorem dX10_command_95 : decode cX10_command 95 = .ok (.bipush 114, 2) := by decide +kernel
theorem dX10_command_97 : decode cX10_command 97 = .ok (.bipush 105, 2) := by decide +kernel
theorem dX10_command_99 : decode cX10_command 99 = .ok (.bipush 118, 2) := by decide +kernel
theorem dX10_command_101 : decode cX10_command 101 = .ok (.bipush 101, 2) := by decide +kernel
theorem dX10_command_103 : decode cX10_command 103 = .ok (.invokevirtual 113, 3) := by decide +kernel
theorem dX10_command_106 : decode cX10_command 106 = .ok (.ifCond .eq 31, 3) := by decide +kernel
theorem dX10_command_109 : decode cX10_command 109 = .ok (.aload_n 0, 1) := by decide +kernel
theorem dX10_command_110 : decode cX10_command 110 = .ok (.iconst 5, 1) := by decide +kernel
theorem dX10_command_111 : decode cX10_command 111 = .ok (.invokevirtual 117, 3) := by decide +kernel
theorem dX10_command_114 : decode cX10_command 114 = .ok (.ifCond .eq 23, 3) := by decide +kernel
theorem dX10_command_117 : decode cX10_command 117 = .ok (.aload_n 0, 1) := by decide +kernel
theorem dX10_command_118 : decode cX10_command 118 = .ok (.getfield 38, 3) := by decide +kernel
theorem dX10_command_121 : decode cX10_command 121 = .ok (.aload_n 0, 1) := by decide +kernel
theorem dX10_command_122 : decode cX10_command 122 = .ok (.getfield 106, 3) := by decide +kernel
theorem dX10_command_125 : decode cX10_command 125 = .ok (.iconst 4, 1) := by decide +kernel
theorem dX10_command_126 : decode cX10_command 126 = .ok (.iadd, 1) := by decide +kernel
theorem dX10_command_127 : decode cX10_command 127 = .ok (.caload, 1) := by decide +kernel
theorem dX10_command_128 : decode cX10_command 128 = .ok (.bipush 114, 2) := by decide +kernel
theorem dX10_command_130 : decode cX10_command 130 = .ok (.if_icmp .ne 7, 3) := by decide +kernel
theorem dX10_command_133 : decode cX10_command 133 = .ok (.iconst 2, 1) := by decide +kernel
theorem dX10_command_134 : decode cX10_command 134 = .ok (.goto 47, 3) := by decide +kernel
theorem dX10_command_137 : decode cX10_command 137 = .ok (.aload_n 0, 1) := by decide +kernel
theorem dX10_command_138 : decode cX10_command 138 = .ok (.bipush 115, 2) := by decide +kernel
theorem dX10_command_140 : decode cX10_command 140 = .ok (.bipush 112, 2) := by decide +kernel
theorem dX10_command_142 : decode cX10_command 142 = .ok (.bipush 97, 2) := by decide +kernel
theorem dX10_command_144 : decode cX10_command 144 = .ok (.bipush 99, 2) := by decide +kernel
theorem dX10_command_146 : decode cX10_command 146 = .ok (.invokevirtual 113, 3) := by decide +kernel
theorem dX10_command_149 : decode cX10_command 149 = .ok (.ifCond .eq 31, 3) := by decide +kernel
theorem dX10_command_152 : decode cX10_command 152 = .ok (.aload_n 0, 1) := by decide +kernel
theorem dX10_command_153 : decode cX10_command 153 = .ok (.iconst 5, 1) := by decide +kernel
theorem dX10_command_154 : decode cX10_command 154 = .ok (.invokevirtual 117, 3) := by decide +kernel
theorem dX10_command_157 : decode cX10_command 157 = .ok (.ifCond .eq 23, 3) := by decide +kernel
theorem dX10_command_160 : decode cX10_command 160 = .ok (.aload_n 0, 1) := by decide +kernel
theorem dX10_command_161 : decode cX10_command 161 = .ok (.getfield 38, 3) := by decide +kernel
theorem dX10_command_164 : decode cX10_command 164 = .ok (.aload_n 0, 1) := by decide +kernel
theorem dX10_command_165 : decode cX10_command 165 = .ok (.getfield 106, 3) := by decide +kernel
theorem dX10_command_168 : decode cX10_command 168 = .ok (.iconst 4, 1) := by decide +kernel
theorem dX10_command_169 : decode cX10_command 169 = .ok (.iadd, 1) := by decide +kernel
theorem dX10_command_170 : decode cX10_command 170 = .ok (.caload, 1) := by decide +kernel
theorem dX10_command_171 : decode cX10_command 171 = .ok (.bipush 101, 2) := by decide +kernel
theorem dX10_command_173 : decode cX10_command 173 = .ok (.if_icmp .ne 7, 3) := by decide +kernel
theorem dX10_command_176 : decode cX10_command 176 = .ok (.iconst 3, 1) := by decide +kernel
theorem dX10_command_177 : decode cX10_command 177 = .ok (.goto 4, 3) := by decide +kernel
theorem dX10_command_180 : decode cX10_command 180 = .ok (.iconst (-1), 1) := by decide +kernel
theorem dX10_command_181 : decode cX10_command 181 = .ok (.istore_n 1, 1) := by decide +kernel
theorem dX10_command_182 : decode cX10_command 182 = .ok (.aload_n 0, 1) := by decide +kernel
theorem dX10_command_183 : decode cX10_command 183 = .ok (.getfield 100, 3) := by decide +kernel
theorem dX10_command_186 : decode cX10_command 186 = .ok (.ifCond .ge 15, 3) := by decide +kernel
theorem dX10_command_189 : decode cX10_command 189 = .ok (.iload_n 1, 1) := by decide +kernel
theorem dX10_command_190 : decode cX10_command 190 = .ok (.ifCond .ge 11, 3) := by decide +kernel
theorem dX10_command_193 : decode cX10_command 193 = .ok (.aload_n 0, 1) := by decide +kernel
theorem dX10_command_194 : decode cX10_command 194 = .ok (.aload_n 0, 1) := by decide +kernel
theorem dX10_command_195 : decode cX10_command 195 = .ok (.getfield 106, 3) := by decide +kernel
theorem dX10_command_198 : decode cX10_command 198 = .ok (.putfield 100, 3) := by decide +kernel
theorem dX10_command_201 : decode cX10_command 201 = .ok (.iload_n 1, 1) := by decide +kernel
theorem dX10_command_202 : decode cX10_command 202 = .ok (.iconst 3, 1) := by decide +kernel
theorem dX10_command_203 : decode cX10_command 203 = .ok (.if_icmp .ne 10, 3) := by decide +kernel
theorem dX10_command_206 : decode cX10_command 206 = .ok (.aload_n 0, 1) := by decide +kernel
theorem dX10_command_207 : decode cX10_command 207 = .ok (.invokevirtual 125, 3) := by decide +kernel
theorem dX10_command_210 : decode cX10_command 210 = .ok (.goto 4, 3) := by decide +kernel
theorem dX10_command_213 : decode cX10_command 213 = .ok (.iconst 0, 1) := by decide +kernel
theorem dX10_command_214 : decode cX10_command 214 = .ok (.istore_n 2, 1) := by decide +kernel
theorem dX10_command_215 : decode cX10_command 215 = .ok (.aload_n 0, 1) := by decide +kernel
theorem dX10_command_216 : decode cX10_command 216 = .ok (.iload_n 1, 1) := by decide +kernel
theorem dX10_command_217 : decode cX10_command 217 = .ok (.ifCond .ne 8, 3) := by decide +kernel
theorem dX10_command_220 : decode cX10_command 220 = .ok (.bipush 10, 2) := by decide +kernel
theorem dX10_command_222 : decode cX10_command 222 = .ok (.goto 13, 3) := by decide +kernel
theorem dX10_command_225 : decode cX10_command 225 = .ok (.iload_n 1, 1) := by decide +kernel
theorem dX10_command_226 : decode cX10_command 226 = .ok (.iconst 3, 1) := by decide +kernel
theorem dX10_command_227 : decode cX10_command 227 = .ok (.if_icmp .ne 7, 3) := by decide +kernel
theorem dX10_command_230 : decode cX10_command 230 = .ok (.iconst 1, 1) := by decide +kernel
theorem dX10_command_231 : decode cX10_command 231 = .ok (.goto 4, 3) := by decide +kernel
theorem dX10_command_234 : decode cX10_command 234 = .ok (.iconst 0, 1) := by decide +kernel
theorem dX10_command_235 : decode cX10_command 235 = .ok (.iload_n 1, 1) := by decide +kernel
theorem dX10_command_236 : decode cX10_command 236 = .ok (.ifCond .ne 9, 3) := by decide +kernel
theorem dX10_command_239 : decode cX10_command 239 = .ok (.sipush 200, 3) := by decide +kernel
theorem dX10_command_242 : decode cX10_command 242 = .ok (.goto 25, 3) := by decide +kernel
theorem dX10_command_245 : decode cX10_command 245 = .ok (.iload_n 1, 1) := by decide +kernel
theorem dX10_command_246 : decode cX10_command 246 = .ok (.iconst 1, 1) := by decide +kernel
theorem dX10_command_247 : decode cX10_command 247 = .ok (.if_icmp .ne 8, 3) := by decide +kernel
theorem dX10_command_250 : decode cX10_command 250 = .ok (.bipush 100, 2) := by decide +kernel
theorem dX10_command_252 : decode cX10_command 252 = .ok (.goto 15, 3) := by decide +kernel
theorem dX10_command_255 : decode cX10_command 255 = .ok (.iload_n 1, 1) := by decide +kernel
theorem dX10_command_256 : decode cX10_command 256 = .ok (.iconst 2, 1) := by decide +kernel
theorem dX10_command_257 : decode cX10_command 257 = .ok (.if_icmp .ne 8, 3) := by decide +kernel
theorem dX10_command_260 : decode cX10_command 260 = .ok (.bipush 20, 2) := by decide +kernel
theorem dX10_command_262 : decode cX10_command 262 = .ok (.goto 5, 3) := by decide +kernel
theorem dX10_command_265 : decode cX10_command 265 = .ok (.bipush 40, 2) := by decide +kernel
theorem dX10_command_267 : decode cX10_command 267 = .ok (.invokevirtual 129, 3) := by decide +kernel
theorem dX10_command_270 : decode cX10_command 270 = .ok (.istore_n 3, 1) := by decide +kernel
theorem dX10_command_271 : decode cX10_command 271 = .ok (.iload_n 1, 1) := by decide +kernel
theorem dX10_command_272 : decode cX10_command 272 = .ok (.iconst 3, 1) := by decide +kernel
theorem dX10_command_273 : decode cX10_command 273 = .ok (.if_icmp .ne 13, 3) := by decide +kernel
theorem dX10_command_276 : decode cX10_command 276 = .ok (.aload_n 0, 1) := by decide +kernel
theorem dX10_command_277 : decode cX10_command 277 = .ok (.iload_n 3, 1) := by decide +kernel
theorem dX10_command_278 : decode cX10_command 278 = .ok (.bipush 40, 2) := by decide +kernel
theorem dX10_command_280 : decode cX10_command 280 = .ok (.invokevirtual 129, 3) := by decide +kernel
theorem dX10_command_283 : decode cX10_command 283 = .ok (.goto 4, 3) := by decide +kernel
theorem dX10_command_286 : decode cX10_command 286 = .ok (.iconst 0, 1) := by decide +kernel
theorem dX10_command_287 : decode cX10_command 287 = .ok (.istore 4, 2) := by decide +kernel
theorem dX10_command_289 : decode cX10_command 289 = .ok (.iload_n 1, 1) := by decide +kernel
theorem dX10_command_290 : decode cX10_command 290 = .ok (.iconst 3, 1) := by decide +kernel
theorem dX10_command_291 : decode cX10_command 291 = .ok (.if_icmp .ne 14, 3) := by decide +kernel
theorem dX10_command_294 : decode cX10_command 294 = .ok (.aload_n 0, 1) := by decide +kernel
theorem dX10_command_295 : decode cX10_command 295 = .ok (.iload 4, 2) := by decide +kernel
theorem dX10_command_297 : decode cX10_command 297 = .ok (.bipush 40, 2) := by decide +kernel
theorem dX10_command_299 : decode cX10_command 299 = .ok (.invokevirtual 129, 3) := by decide +kernel
theorem dX10_command_302 : decode cX10_command 302 = .ok (.goto 4, 3) := by decide +kernel
theorem dX10_command_305 : decode cX10_command 305 = .ok (.iconst 0, 1) := by decide +kernel
theorem dX10_command_306 : decode cX10_command 306 = .ok (.istore 5, 2) := by decide +kernel
theorem dX10_command_308 : decode cX10_command 308 = .ok (.aload_n 0, 1) := by decide +kernel
theorem dX10_command_309 : decode cX10_command 309 = .ok (.getfield 100, 3) := by decide +kernel
theorem dX10_command_312 : decode cX10_command 312 = .ok (.ifCond .ge 24, 3) := by decide +kernel
theorem dX10_command_315 : decode cX10_command 315 = .ok (.aload_n 0, 1) := by decide +kernel
theorem dX10_command_316 : decode cX10_command 316 = .ok (.getfield 103, 3) := by decide +kernel
theorem dX10_command_319 : decode cX10_command 319 = .ok (.aload_n 0, 1) := by decide +kernel
theorem dX10_command_320 : decode cX10_command 320 = .ok (.getfield 83, 3) := by decide +kernel
theorem dX10_command_323 : decode cX10_command 323 = .ok (.if_icmp .ge 13, 3) := by decide +kernel
theorem dX10_command_326 : decode cX10_command 326 = .ok (.aload_n 0, 1) := by decide +kernel
theorem dX10_command_327 : decode cX10_command 327 = .ok (.aload_n 0, 1) := by decide +kernel
theorem dX10_command_328 : decode cX10_command 328 = .ok (.getfield 103, 3) := by decide +kernel
theorem dX10_command_331 : decode cX10_command 331 = .ok (.iconst 1, 1) := by decide +kernel
theorem dX10_command_332 : decode cX10_command 332 = .ok (.iadd, 1) := by decide +kernel
theorem dX10_command_333 : decode cX10_command 333 = .ok (.putfield 100, 3) := by decide +kernel
theorem dX10_command_336 : decode cX10_command 336 = .ok (.aload_n 0, 1) := by decide +kernel
theorem dX10_command_337 : decode cX10_command 337 = .ok (.getfield 100, 3) := by decide +kernel
theorem dX10_command_340 : decode cX10_command 340 = .ok (.ifCond .lt 11, 3) := by decide +kernel
theorem dX10_command_343 : decode cX10_command 343 = .ok (.bipush (-100), 2) := by decide +kernel
theorem dX10_command_345 : decode cX10_command 345 = .ok (.aload_n 0, 1) := by decide +kernel
theorem dX10_command_346 : decode cX10_command 346 = .ok (.getfield 100, 3) := by decide +kernel
theorem dX10_command_349 : decode cX10_command 349 = .ok (.isub, 1) := by decide +kernel
theorem dX10_command_350 : decode cX10_command 350 = .ok (.ireturn, 1) := by decide +kernel
theorem dX10_command_351 : decode cX10_command 351 = .ok (.iload_n 1, 1) := by decide +kernel
theorem dX10_command_352 : decode cX10_command 352 = .ok (.ifCond .ne 12, 3) := by decide +kernel
theorem dX10_command_355 : decode cX10_command 355 = .ok (.aload_n 0, 1) := by decide +kernel
theorem dX10_command_356 : decode cX10_command 356 = .ok (.iload_n 3, 1) := by decide +kernel
theorem dX10_command_357 : decode cX10_command 357 = .ok (.invokevirtual 133, 3) := by decide +kernel
theorem dX10_command_360 : decode cX10_command 360 = .ok (.pop, 1) := by decide +kernel
theorem dX10_command_361 : decode cX10_command 361 = .ok (.goto 42, 3) := by decide +kernel
theorem dX10_command_364 : decode cX10_command 364 = .ok (.iload_n 1, 1) := by decide +kernel
theorem dX10_command_365 : decode cX10_command 365 = .ok (.iconst 1, 1) := by decide +kernel
theorem dX10_command_366 : decode cX10_command 366 = .ok (.if_icmp .ne 12, 3) := by decide +kernel
theorem dX10_command_369 : decode cX10_command 369 = .ok (.aload_n 0, 1) := by decide +kernel
theorem dX10_command_370 : decode cX10_command 370 = .ok (.iload_n 3, 1) := by decide +kernel
theorem dX10_command_371 : decode cX10_command 371 = .ok (.invokevirtual 137, 3) := by decide +kernel
theorem dX10_command_374 : decode cX10_command 374 = .ok (.pop, 1) := by decide +kernel
theorem dX10_command_375 : decode cX10_command 375 = .ok (.goto 28, 3) := by decide +kernel
theorem dX10_command_378 : decode cX10_command 378 = .ok (.iload_n 1, 1) := by decide +kernel
theorem dX10_command_379 : decode cX10_command 379 = .ok (.iconst 2, 1) := by decide +kernel
theorem dX10_command_380 : decode cX10_command 380 = .ok (.if_icmp .ne 12, 3) := by decide +kernel
theorem dX10_command_383 : decode cX10_command 383 = .ok (.aload_n 0, 1) := by decide +kernel
theorem dX10_command_384 : decode cX10_command 384 = .ok (.iload_n 3, 1) := by decide +kernel
theorem dX10_command_385 : decode cX10_command 385 = .ok (.invokevirtual 140, 3) := by decide +kernel
theorem dX10_command_388 : decode cX10_command 388 = .ok (.pop, 1) := by decide +kernel
theorem dX10_command_389 : decode cX10_command 389 = .ok (.goto 14, 3) := by decide +kernel
theorem dX10_command_392 : decode cX10_command 392 = .ok (.aload_n 0, 1) := by decide +kernel
theorem dX10_command_393 : decode cX10_command 393 = .ok (.iload_n 2, 1) := by decide +kernel
theorem dX10_command_394 : decode cX10_command 394 = .ok (.iload_n 3, 1) := by decide +kernel
theorem dX10_command_395 : decode cX10_command 395 = .ok (.iload 4, 2) := by decide +kernel
theorem dX10_command_397 : decode cX10_command 397 = .ok (.iload 5, 2) := by decide +kernel
theorem dX10_command_399 : decode cX10_command 399 = .ok (.invokevirtual 143, 3) := by decide +kernel
theorem dX10_command_402 : decode cX10_command 402 = .ok (.pop, 1) := by decide +kernel
theorem dX10_command_403 : decode cX10_command 403 = .ok (.aload_n 0, 1) := by decide +kernel
theorem dX10_command_404 : decode cX10_command 404 = .ok (.getfield 147, 3) := by decide +kernel
theorem dX10_command_407 : decode cX10_command 407 = .ok (.ireturn, 1) := by decide +kernel
theorem dX10_setMeasure_0 : decode cX10_setMeasure 0 = .ok (.iload_n 1, 1) := by decide +kernel
theorem dX10_setMeasure_1 : decode cX10_setMeasure 1 = .ok (.bipush 10, 2) := by decide +kernel
theorem dX10_setMeasure_3 : decode cX10_setMeasure 3 = .ok (.sipush 200, 3) := by decide +kernel
theorem dX10_setMeasure_6 : decode cX10_setMeasure 6 = .ok (.invokestatic 69, 3) := by decide +kernel
theorem dX10_setMeasure_9 : decode cX10_setMeasure 9 = .ok (.ifCond .ne 7, 3) := by decide +kernel
theorem dX10_setMeasure_12 : decode cX10_setMeasure 12 = .ok (.sipush (-1002), 3) := by decide +kernel
theorem dX10_setMeasure_15 : decode cX10_setMeasure 15 = .ok (.ireturn, 1) := by decide +kernel
theorem dX10_setMeasure_16 : decode cX10_setMeasure 16 = .ok (.aload_n 0, 1) := by decide +kernel
theorem dX10_setMeasure_17 : decode cX10_setMeasure 17 = .ok (.getfield 7, 3) := by decide +kernel
theorem dX10_setMeasure_20 : decode cX10_setMeasure 20 = .ok (.istore_n 2, 1) := by decide +kernel
theorem dX10_setMeasure_21 : decode cX10_setMeasure 21 = .ok (.aload_n 0, 1) := by decide +kernel
theorem dX10_setMeasure_22 : decode cX10_setMeasure 22 = .ok (.iload_n 1, 1) := by decide +kernel
theorem dX10_setMeasure_23 : decode cX10_setMeasure 23 = .ok (.putfield 7, 3) := by decide +kernel
theorem dX10_setMeasure_26 : decode cX10_setMeasure 26 = .ok (.aload_n 0, 1) := by decide +kernel
theorem dX10_setMeasure_27 : decode cX10_setMeasure 27 = .ok (.invokevirtual 66, 3) := by decide +kernel
theorem dX10_setMeasure_30 : decode cX10_setMeasure 30 = .ok (.iload_n 2, 1) := by decide +kernel
theorem dX10_setMeasure_31 : decode cX10_setMeasure 31 = .ok (.ireturn, 1) := by decide +kernel
theorem dX10_setHang_0 : decode cX10_setHang 0 = .ok (.iload_n 1, 1) := by decide +kernel
theorem dX10_setHang_1 : decode cX10_setHang 1 = .ok (.iconst 0, 1) := by decide +kernel
theorem dX10_setHang_2 : decode cX10_setHang 2 = .ok (.bipush 100, 2) := by decide +kernel
theorem dX10_setHang_4 : decode cX10_setHang 4 = .ok (.invokestatic 69, 3) := by decide +kernel
theorem dX10_setHang_7 : decode cX10_setHang 7 = .ok (.ifCond .ne 7, 3) := by decide +kernel
theorem dX10_setHang_10 : decode cX10_setHang 10 = .ok (.sipush (-1002), 3) := by decide +kernel
theorem dX10_setHang_13 : decode cX10_setHang 13 = .ok (.ireturn, 1) := by decide +kernel
theorem dX10_setHang_14 : decode cX10_setHang 14 = .ok (.aload_n 0, 1) := by decide +kernel
theorem dX10_setHang_15 : decode cX10_setHang 15 = .ok (.getfield 13, 3) := by decide +kernel
theorem dX10_setHang_18 : decode cX10_setHang 18 = .ok (.istore_n 2, 1) := by decide +kernel
theorem dX10_setHang_19 : decode cX10_setHang 19 = .ok (.aload_n 0, 1) := by decide +kernel
theorem dX10_setHang_20 : decode cX10_setHang 20 = .ok (.iload_n 1, 1) := by decide +kernel
theorem dX10_setHang_21 : decode cX10_setHang 21 = .ok (.putfield 13, 3) := by decide +kernel
theorem dX10_setHang_24 : decode cX10_setHang 24 = .ok (.aload_n 0, 1) := by decide +kernel
theorem dX10_setHang_25 : decode cX10_setHang 25 = .ok (.invokevirtual 66, 3) := by decide +kernel
theorem dX10_setHang_28 : decode cX10_setHang 28 = .ok (.iload_n 2, 1) := by decide +kernel
theorem dX10_setHang_29 : decode cX10_setHang 29 = .ok (.ireturn, 1) := by decide +kernel
theorem dX10_setTolerance_0 : decode cX10_setTolerance 0 = .ok (.iload_n 1, 1) := by decide +kernel
theorem dX10_setTolerance_1 : decode cX10_setTolerance 1 = .ok (.iconst 0, 1) := by decide +kernel
theorem dX10_setTolerance_2 : decode cX10_setTolerance 2 = .ok (.bipush 20, 2) := by decide +kernel
theorem dX10_setTolerance_4 : decode cX10_setTolerance 4 = .ok (.invokestatic 69, 3) := by decide +kernel
theorem dX10_setTolerance_7 : decode cX10_setTolerance 7 = .ok (.ifCond .ne 7, 3) := by decide +kernel
theorem dX10_setTolerance_10 : decode cX10_setTolerance 10 = .ok (.sipush (-1002), 3) := by decide +kernel
theorem dX10_setTolerance_13 : decode cX10_setTolerance 13 = .ok (.ireturn, 1) := by decide +kernel
theorem dX10_setTolerance_14 : decode cX10_setTolerance 14 = .ok (.aload_n 0, 1) := by decide +kernel
theorem dX10_setTolerance_15 : decode cX10_setTolerance 15 = .ok (.getfield 16, 3) := by decide +kernel
theorem dX10_setTolerance_18 : decode cX10_setTolerance 18 = .ok (.istore_n 2, 1) := by decide +kernel
theorem dX10_setTolerance_19 : decode cX10_setTolerance 19 = .ok (.aload_n 0, 1) := by decide +kernel
theorem dX10_setTolerance_20 : decode cX10_setTolerance 20 = .ok (.iload_n 1, 1) := by decide +kernel
theorem dX10_setTolerance_21 : decode cX10_setTolerance 21 = .ok (.putfield 16, 3) := by decide +kernel
theorem dX10_setTolerance_24 : decode cX10_setTolerance 24 = .ok (.aload_n 0, 1) := by decide +kernel
theorem dX10_setTolerance_25 : decode cX10_setTolerance 25 = .ok (.invokevirtual 66, 3) := by decide +kernel
theorem dX10_setTolerance_28 : decode cX10_setTolerance 28 = .ok (.iload_n 2, 1) := by decide +kernel
theorem dX10_setTolerance_29 : decode cX10_setTolerance 29 = .ok (.ireturn, 1) := by decide +kernel
theorem dX10_setSpace_0 : decode cX10_setSpace 0 = .ok (.iload_n 1, 1) := by decide +kernel
theorem dX10_setSpace_1 : decode cX10_setSpace 1 = .ok (.iconst 0, 1) := by decide +kernel
theorem dX10_setSpace_2 : decode cX10_setSpace 2 = .ok (.iconst 2, 1) := by decide +kernel
theorem dX10_setSpace_3 : decode cX10_setSpace 3 = .ok (.invokestatic 69, 3) := by decide +kernel
theorem dX10_setSpace_6 : decode cX10_setSpace 6 = .ok (.ifCond .ne 7, 3) := by decide +kernel
theorem dX10_setSpace_9 : decode cX10_setSpace 9 = .ok (.sipush (-1001), 3) := by decide +kernel
theorem dX10_setSpace_12 : decode cX10_setSpace 12 = .ok (.ireturn, 1) := by decide +kernel
theorem dX10_setSpace_13 : decode cX10_setSpace 13 = .ok (.iload_n 2, 1) := by decide +kernel
theorem dX10_setSpace_14 : decode cX10_setSpace 14 = .ok (.iconst 1, 1) := by decide +kernel
theorem dX10_setSpace_15 : decode cX10_setSpace 15 = .ok (.bipush 40, 2) := by decide +kernel
theorem dX10_setSpace_17 : decode cX10_setSpace 17 = .ok (.invokestatic 69, 3) := by decide +kernel
theorem dX10_setSpace_20 : decode cX10_setSpace 20 = .ok (.ifCond .eq 24, 3) := by decide +kernel
theorem dX10_setSpace_23 : decode cX10_setSpace 23 = .ok (.iload_n 3, 1) := by decide +kernel
theorem dX10_setSpace_24 : decode cX10_setSpace 24 = .ok (.iload_n 2, 1) := by decide +kernel
theorem dX10_setSpace_25 : decode cX10_setSpace 25 = .ok (.bipush 40, 2) := by decide +kernel
theorem dX10_setSpace_27 : decode cX10_setSpace 27 = .ok (.invokestatic 69, 3) := by decide +kernel
theorem dX10_setSpace_30 : decode cX10_setSpace 30 = .ok (.ifCond .eq 14, 3) := by decide +kernel
theorem dX10_setSpace_33 : decode cX10_setSpace 33 = .ok (.iload 4, 2) := by decide +kernel
theorem dX10_setSpace_35 : decode cX10_setSpace 35 = .ok (.iload_n 3, 1) := by decide +kernel
theorem dX10_setSpace_36 : decode cX10_setSpace 36 = .ok (.bipush 40, 2) := by decide +kernel
theorem dX10_setSpace_38 : decode cX10_setSpace 38 = .ok (.invokestatic 69, 3) := by decide +kernel
theorem dX10_setSpace_41 : decode cX10_setSpace 41 = .ok (.ifCond .ne 7, 3) := by decide +kernel
theorem dX10_setSpace_44 : decode cX10_setSpace 44 = .ok (.sipush (-1002), 3) := by decide +kernel
theorem dX10_setSpace_47 : decode cX10_setSpace 47 = .ok (.ireturn, 1) := by decide +kernel
theorem dX10_setSpace_48 : decode cX10_setSpace 48 = .ok (.aload_n 0, 1) := by decide +kernel
theorem dX10_setSpace_49 : decode cX10_setSpace 49 = .ok (.getfield 19, 3) := by decide +kernel
theorem dX10_setSpace_52 : decode cX10_setSpace 52 = .ok (.iconst 3, 1) := by decide +kernel
theorem dX10_setSpace_53 : decode cX10_setSpace 53 = .ok (.iload_n 1, 1) := by decide +kernel
theorem dX10_setSpace_54 : decode cX10_setSpace 54 = .ok (.imul, 1) := by decide +kernel
theorem dX10_setSpace_55 : decode cX10_setSpace 55 = .ok (.iconst 1, 1) := by decide +kernel
theorem dX10_setSpace_56 : decode cX10_setSpace 56 = .ok (.iadd, 1) := by decide +kernel
theorem dX10_setSpace_57 : decode cX10_setSpace 57 = .ok (.iaload, 1) := by decide +kernel
theorem dX10_setSpace_58 : decode cX10_setSpace 58 = .ok (.istore 5, 2) := by decide +kernel
theorem dX10_setSpace_60 : decode cX10_setSpace 60 = .ok (.aload_n 0, 1) := by decide +kernel
theorem dX10_setSpace_61 : decode cX10_setSpace 61 = .ok (.getfield 19, 3) := by decide +kernel
theorem dX10_setSpace_64 : decode cX10_setSpace 64 = .ok (.iconst 3, 1) := by decide +kernel
theorem dX10_setSpace_65 : decode cX10_setSpace 65 = .ok (.iload_n 1, 1) := by decide +kernel
theorem dX10_setSpace_66 : decode cX10_setSpace 66 = .ok (.imul, 1) := by decide +kernel
theorem dX10_setSpace_67 : decode cX10_setSpace 67 = .ok (.iload_n 2, 1) := by decide +kernel
theorem dX10_setSpace_68 : decode cX10_setSpace 68 = .ok (.iastore, 1) := by decide +kernel
theorem dX10_setSpace_69 : decode cX10_setSpace 69 = .ok (.aload_n 0, 1) := by decide +kernel
theorem dX10_setSpace_70 : decode cX10_setSpace 70 = .ok (.getfield 19, 3) := by decide +kernel
theorem dX10_setSpace_73 : decode cX10_setSpace 73 = .ok (.iconst 3, 1) := by decide +kernel
theorem dX10_setSpace_74 : decode cX10_setSpace 74 = .ok (.iload_n 1, 1) := by decide +kernel
theorem dX10_setSpace_75 : decode cX10_setSpace 75 = .ok (.imul, 1) := by decide +kernel
theorem dX10_setSpace_76 : decode cX10_setSpace 76 = .ok (.iconst 1, 1) := by decide +kernel
theorem dX10_setSpace_77 : decode cX10_setSpace 77 = .ok (.iadd, 1) := by decide +kernel
theorem dX10_setSpace_78 : decode cX10_setSpace 78 = .ok (.iload_n 3, 1) := by decide +kernel
theorem dX10_setSpace_79 : decode cX10_setSpace 79 = .ok (.iastore, 1) := by decide +kernel
theorem dX10_setSpace_80 : decode cX10_setSpace 80 = .ok (.aload_n 0, 1) := by decide +kernel
theorem dX10_setSpace_81 : decode cX10_setSpace 81 = .ok (.getfield 19, 3) := by decide +kernel
theorem dX10_setSpace_84 : decode cX10_setSpace 84 = .ok (.iconst 3, 1) := by decide +kernel
theorem dX10_setSpace_85 : decode cX10_setSpace 85 = .ok (.iload_n 1, 1) := by decide +kernel
theorem dX10_setSpace_86 : decode cX10_setSpace 86 = .ok (.imul, 1) := by decide +kernel
theorem dX10_setSpace_87 : decode cX10_setSpace 87 = .ok (.iconst 2, 1) := by decide +kernel
theorem dX10_setSpace_88 : decode cX10_setSpace 88 = .ok (.iadd, 1) := by decide +kernel
theorem dX10_setSpace_89 : decode cX10_setSpace 89 = .ok (.iload 4, 2) := by decide +kernel
theorem dX10_setSpace_91 : decode cX10_setSpace 91 = .ok (.iastore, 1) := by decide +kernel
theorem dX10_setSpace_92 : decode cX10_setSpace 92 = .ok (.aload_n 0, 1) := by decide +kernel
theorem dX10_setSpace_93 : decode cX10_setSpace 93 = .ok (.invokevirtual 66, 3) := by decide +kernel
theorem dX10_setSpace_96 : decode cX10_setSpace 96 = .ok (.iload 5, 2) := by decide +kernel
theorem dX10_setSpace_98 : decode cX10_setSpace 98 = .ok (.ireturn, 1) := by decide +kernel
theorem dX10_hangLeft_0 : decode cX10_hangLeft 0 = .ok (.aload_n 0, 1) := by decide +kernel
theorem dX10_hangLeft_1 : decode cX10_hangLeft 1 = .ok (.getfield 32, 3) := by decide +kernel
theorem dX10_hangLeft_4 : decode cX10_hangLeft 4 = .ok (.iload_n 1, 1) := by decide +kernel
theorem dX10_hangLeft_5 : decode cX10_hangLeft 5 = .ok (.iaload, 1) := by decide +kernel
theorem dX10_hangLeft_6 : decode cX10_hangLeft 6 = .ok (.aload_n 0, 1) := by decide +kernel
theorem dX10_hangLeft_7 : decode cX10_hangLeft 7 = .ok (.getfield 13, 3) := by decide +kernel
theorem dX10_hangLeft_10 : decode cX10_hangLeft 10 = .ok (.imul, 1) := by decide +kernel
theorem dX10_hangLeft_11 : decode cX10_hangLeft 11 = .ok (.bipush 100, 2) := by decide +kernel
theorem dX10_hangLeft_13 : decode cX10_hangLeft 13 = .ok (.idiv, 1) := by decide +kernel
theorem dX10_hangLeft_14 : decode cX10_hangLeft 14 = .ok (.ireturn, 1) := by decide +kernel
theorem dX10_hangRight_0 : decode cX10_hangRight 0 = .ok (.aload_n 0, 1) := by decide +kernel
theorem dX10_hangRight_1 : decode cX10_hangRight 1 = .ok (.getfield 35, 3) := by decide +kernel
theorem dX10_hangRight_4 : decode cX10_hangRight 4 = .ok (.iload_n 1, 1) := by decide +kernel
theorem dX10_hangRight_5 : decode cX10_hangRight 5 = .ok (.iaload, 1) := by decide +kernel
theorem dX10_hangRight_6 : decode cX10_hangRight 6 = .ok (.aload_n 0, 1) := by decide +kernel
theorem dX10_hangRight_7 : decode cX10_hangRight 7 = .ok (.getfield 13, 3) := by decide +kernel
theorem dX10_hangRight_10 : decode cX10_hangRight 10 = .ok (.imul, 1) := by decide +kernel
theorem dX10_hangRight_11 : decode cX10_hangRight 11 = .ok (.bipush 100, 2) := by decide +kernel
theorem dX10_hangRight_13 : decode cX10_hangRight 13 = .ok (.idiv, 1) := by decide +kernel
theorem dX10_hangRight_14 : decode cX10_hangRight 14 = .ok (.ireturn, 1) := by decide +kernel
theorem dX10_spaces_0 : decode cX10_spaces 0 = .ok (.iconst 0, 1) := by decide +kernel
theorem dX10_spaces_1 : decode cX10_spaces 1 = .ok (.istore 4, 2) := by decide +kernel
theorem dX10_spaces_3 : decode cX10_spaces 3 = .ok (.iload_n 1, 1) := by decide +kernel
theorem dX10_spaces_4 : decode cX10_spaces 4 = .ok (.istore 5, 2) := by decide +kernel
theorem dX10_spaces_6 : decode cX10_spaces 6 = .ok (.iload 5, 2) := by decide +kernel
theorem dX10_spaces_8 : decode cX10_spaces 8 = .ok (.iload_n 2, 1) := by decide +kernel
theorem dX10_spaces_9 : decode cX10_spaces 9 = .ok (.if_icmp .ge 30, 3) := by decide +kernel
theorem dX10_spaces_12 : decode cX10_spaces 12 = .ok (.iload 4, 2) := by decide +kernel
theorem dX10_spaces_14 : decode cX10_spaces 14 = .ok (.aload_n 0, 1) := by decide +kernel
theorem dX10_spaces_15 : decode cX10_spaces 15 = .ok (.getfield 19, 3) := by decide +kernel
theorem dX10_spaces_18 : decode cX10_spaces 18 = .ok (.iconst 3, 1) := by decide +kernel
theorem dX10_spaces_19 : decode cX10_spaces 19 = .ok (.aload_n 0, 1) := by decide +kernel
theorem dX10_spaces_20 : decode cX10_spaces 20 = .ok (.getfield 29, 3) := by decide +kernel
theorem dX10_spaces_23 : decode cX10_spaces 23 = .ok (.iload 5, 2) := by decide +kernel
theorem dX10_spaces_25 : decode cX10_spaces 25 = .ok (.iaload, 1) := by decide +kernel
theorem dX10_spaces_26 : decode cX10_spaces 26 = .ok (.imul, 1) := by decide +kernel
theorem dX10_spaces_27 : decode cX10_spaces 27 = .ok (.iload_n 3, 1) := by decide +kernel
theorem dX10_spaces_28 : decode cX10_spaces 28 = .ok (.iadd, 1) := by decide +kernel
theorem dX10_spaces_29 : decode cX10_spaces 29 = .ok (.iaload, 1) := by decide +kernel
theorem dX10_spaces_30 : decode cX10_spaces 30 = .ok (.iadd, 1) := by decide +kernel
theorem dX10_spaces_31 : decode cX10_spaces 31 = .ok (.istore 4, 2) := by decide +kernel
theorem dX10_spaces_33 : decode cX10_spaces 33 = .ok (.iinc 5 1, 3) := by decide +kernel
theorem dX10_spaces_36 : decode cX10_spaces 36 = .ok (.goto (-30), 3) := by decide +kernel
theorem dX10_spaces_39 : decode cX10_spaces 39 = .ok (.iload 4, 2) := by decide +kernel
theorem dX10_spaces_41 : decode cX10_spaces 41 = .ok (.ireturn, 1) := by decide +kernel
theorem dX10_natural_0 : decode cX10_natural 0 = .ok (.aload_n 0, 1) := by decide +kernel
theorem dX10_natural_1 : decode cX10_natural 1 = .ok (.iload_n 1, 1) := by decide +kernel
theorem dX10_natural_2 : decode cX10_natural 2 = .ok (.iload_n 2, 1) := by decide +kernel
theorem dX10_natural_3 : decode cX10_natural 3 = .ok (.iconst 1, 1) := by decide +kernel
theorem dX10_natural_4 : decode cX10_natural 4 = .ok (.invokevirtual 150, 3) := by decide +kernel
theorem dX10_natural_7 : decode cX10_natural 7 = .ok (.aload_n 0, 1) := by decide +kernel
theorem dX10_natural_8 : decode cX10_natural 8 = .ok (.iload_n 1, 1) := by decide +kernel
theorem dX10_natural_9 : decode cX10_natural 9 = .ok (.invokevirtual 154, 3) := by decide +kernel
theorem dX10_natural_12 : decode cX10_natural 12 = .ok (.isub, 1) := by decide +kernel
theorem dX10_natural_13 : decode cX10_natural 13 = .ok (.aload_n 0, 1) := by decide +kernel
theorem dX10_natural_14 : decode cX10_natural 14 = .ok (.iload_n 2, 1) := by decide +kernel
theorem dX10_natural_15 : decode cX10_natural 15 = .ok (.invokevirtual 157, 3) := by decide +kernel
theorem dX10_natural_18 : decode cX10_natural 18 = .ok (.isub, 1) := by decide +kernel
theorem dX10_natural_19 : decode cX10_natural 19 = .ok (.istore_n 3, 1) := by decide +kernel
theorem dX10_natural_20 : decode cX10_natural 20 = .ok (.iload_n 1, 1) := by decide +kernel
theorem dX10_natural_21 : decode cX10_natural 21 = .ok (.istore 4, 2) := by decide +kernel
theorem dX10_natural_23 : decode cX10_natural 23 = .ok (.iload 4, 2) := by decide +kernel
theorem dX10_natural_25 : decode cX10_natural 25 = .ok (.iload_n 2, 1) := by decide +kernel
theorem dX10_natural_26 : decode cX10_natural 26 = .ok (.if_icmp .gt 19, 3) := by decide +kernel
theorem dX10_natural_29 : decode cX10_natural 29 = .ok (.iload_n 3, 1) := by decide +kernel
theorem dX10_natural_30 : decode cX10_natural 30 = .ok (.aload_n 0, 1) := by decide +kernel
theorem dX10_natural_31 : decode cX10_natural 31 = .ok (.getfield 23, 3) := by decide +kernel
theorem dX10_natural_34 : decode cX10_natural 34 = .ok (.iload 4, 2) := by decide +kernel
theorem dX10_natural_36 : decode cX10_natural 36 = .ok (.iaload, 1) := by decide +kernel
theorem dX10_natural_37 : decode cX10_natural 37 = .ok (.iadd, 1) := by decide +kernel
theorem dX10_natural_38 : decode cX10_natural 38 = .ok (.istore_n 3, 1) := by decide +kernel
theorem dX10_natural_39 : decode cX10_natural 39 = .ok (.iinc 4 1, 3) := by decide +kernel
theorem dX10_natural_42 : decode cX10_natural 42 = .ok (.goto (-19), 3) := by decide +kernel
theorem dX10_natural_45 : decode cX10_natural 45 = .ok (.iload_n 3, 1) := by decide +kernel
theorem dX10_natural_46 : decode cX10_natural 46 = .ok (.ireturn, 1) := by decide +kernel
theorem dX10_difference_0 : decode cX10_difference 0 = .ok (.aload_n 0, 1) := by decide +kernel
theorem dX10_difference_1 : decode cX10_difference 1 = .ok (.getfield 7, 3) := by decide +kernel
theorem dX10_difference_4 : decode cX10_difference 4 = .ok (.aload_n 0, 1) := by decide +kernel
theorem dX10_difference_5 : decode cX10_difference 5 = .ok (.iload_n 1, 1) := by decide +kernel
theorem dX10_difference_6 : decode cX10_difference 6 = .ok (.iload_n 2, 1) := by decide +kernel
theorem dX10_difference_7 : decode cX10_difference 7 = .ok (.invokevirtual 160, 3) := by decide +kernel
theorem dX10_difference_10 : decode cX10_difference 10 = .ok (.isub, 1) := by decide +kernel
theorem dX10_difference_11 : decode cX10_difference 11 = .ok (.ireturn, 1) := by decide +kernel
theorem dX10_isLast_0 : decode cX10_isLast 0 = .ok (.iload_n 1, 1) := by decide +kernel
theorem dX10_isLast_1 : decode cX10_isLast 1 = .ok (.aload_n 0, 1) := by decide +kernel
theorem dX10_isLast_2 : decode cX10_isLast 2 = .ok (.getfield 90, 3) := by decide +kernel
theorem dX10_isLast_5 : decode cX10_isLast 5 = .ok (.iconst 1, 1) := by decide +kernel
theorem dX10_isLast_6 : decode cX10_isLast 6 = .ok (.isub, 1) := by decide +kernel
theorem dX10_isLast_7 : decode cX10_isLast 7 = .ok (.if_icmp .ne 7, 3) := by decide +kernel
theorem dX10_isLast_10 : decode cX10_isLast 10 = .ok (.iconst 1, 1) := by decide +kernel
theorem dX10_isLast_11 : decode cX10_isLast 11 = .ok (.goto 4, 3) := by decide +kernel
theorem dX10_isLast_14 : decode cX10_isLast 14 = .ok (.iconst 0, 1) := by decide +kernel
theorem dX10_isLast_15 : decode cX10_isLast 15 = .ok (.ireturn, 1) := by decide +kernel
theorem dX10_isPossible_0 : decode cX10_isPossible 0 = .ok (.aload_n 0, 1) := by decide +kernel
theorem dX10_isPossible_1 : decode cX10_isPossible 1 = .ok (.iload_n 1, 1) := by decide +kernel
theorem dX10_isPossible_2 : decode cX10_isPossible 2 = .ok (.iload_n 2, 1) := by decide +kernel
theorem dX10_isPossible_3 : decode cX10_isPossible 3 = .ok (.invokevirtual 163, 3) := by decide +kernel
theorem dX10_isPossible_6 : decode cX10_isPossible 6 = .ok (.istore_n 3, 1) := by decide +kernel
theorem dX10_isPossible_7 : decode cX10_isPossible 7 = .ok (.aload_n 0, 1) := by decide +kernel
theorem dX10_isPossible_8 : decode cX10_isPossible 8 = .ok (.iload_n 1, 1) := by decide +kernel
theorem dX10_isPossible_9 : decode cX10_isPossible 9 = .ok (.iload_n 2, 1) := by decide +kernel
theorem dX10_isPossible_10 : decode cX10_isPossible 10 = .ok (.iconst 1, 1) := by decide +kernel
theorem dX10_isPossible_11 : decode cX10_isPossible 11 = .ok (.invokevirtual 150, 3) := by decide +kernel
theorem dX10_isPossible_14 : decode cX10_isPossible 14 = .ok (.istore 4, 2) := by decide +kernel
theorem dX10_isPossible_16 : decode cX10_isPossible 16 = .ok (.iload_n 3, 1) := by decide +kernel
theorem dX10_isPossible_17 : decode cX10_isPossible 17 = .ok (.aload_n 0, 1) := by decide +kernel
theorem dX10_isPossible_18 : decode cX10_isPossible 18 = .ok (.iload_n 1, 1) := by decide +kernel
theorem dX10_isPossible_19 : decode cX10_isPossible 19 = .ok (.iload_n 2, 1) := by decide +kernel
theorem dX10_isPossible_20 : decode cX10_isPossible 20 = .ok (.iconst 0, 1) := by decide +kernel
theorem dX10_isPossible_21 : decode cX10_isPossible 21 = .ok (.invokevirtual 150, 3) := by decide +kernel
theorem dX10_isPossible_24 : decode cX10_isPossible 24 = .ok (.iload 4, 2) := by decide +kernel
theorem dX10_isPossible_26 : decode cX10_isPossible 26 = .ok (.isub, 1) := by decide +kernel
theorem dX10_isPossible_27 : decode cX10_isPossible 27 = .ok (.if_icmp .lt 29, 3) := by decide +kernel
theorem dX10_isPossible_30 : decode cX10_isPossible 30 = .ok (.aload_n 0, 1) := by decide +kernel
theorem dX10_isPossible_31 : decode cX10_isPossible 31 = .ok (.iload_n 2, 1) := by decide +kernel
theorem dX10_isPossible_32 : decode cX10_isPossible 32 = .ok (.invokevirtual 166, 3) := by decide +kernel
theorem dX10_isPossible_35 : decode cX10_isPossible 35 = .ok (.ifCond .ne 17, 3) := by decide +kernel
theorem dX10_isPossible_38 : decode cX10_isPossible 38 = .ok (.iload_n 3, 1) := by decide +kernel
theorem dX10_isPossible_39 : decode cX10_isPossible 39 = .ok (.aload_n 0, 1) := by decide +kernel
theorem dX10_isPossible_40 : decode cX10_isPossible 40 = .ok (.iload_n 1, 1) := by decide +kernel
theorem dX10_isPossible_41 : decode cX10_isPossible 41 = .ok (.iload_n 2, 1) := by decide +kernel
theorem dX10_isPossible_42 : decode cX10_isPossible 42 = .ok (.iconst 2, 1) := by decide +kernel
theorem dX10_isPossible_43 : decode cX10_isPossible 43 = .ok (.invokevirtual 150, 3) := by decide +kernel
theorem dX10_isPossible_46 : decode cX10_isPossible 46 = .ok (.iload 4, 2) := by decide +kernel
theorem dX10_isPossible_48 : decode cX10_isPossible 48 = .ok (.isub, 1) := by decide +kernel
theorem dX10_isPossible_49 : decode cX10_isPossible 49 = .ok (.if_icmp .gt 7, 3) := by decide +kernel
theorem dX10_isPossible_52 : decode cX10_isPossible 52 = .ok (.iconst 1, 1) := by decide +kernel
theorem dX10_isPossible_53 : decode cX10_isPossible 53 = .ok (.goto 4, 3) := by decide +kernel
theorem dX10_isPossible_56 : decode cX10_isPossible 56 = .ok (.iconst 0, 1) := by decide +kernel
theorem dX10_isPossible_57 : decode cX10_isPossible 57 = .ok (.ireturn, 1) := by decide +kernel
theorem dX10_badness_0 : decode cX10_badness 0 = .ok (.aload_n 0, 1) := by decide +kernel
theorem dX10_badness_1 : decode cX10_badness 1 = .ok (.iload_n 1, 1) := by decide +kernel
theorem dX10_badness_2 : decode cX10_badness 2 = .ok (.iload_n 2, 1) := by decide +kernel
theorem dX10_badness_3 : decode cX10_badness 3 = .ok (.invokevirtual 163, 3) := by decide +kernel
theorem dX10_badness_6 : decode cX10_badness 6 = .ok (.istore_n 3, 1) := by decide +kernel
theorem dX10_badness_7 : decode cX10_badness 7 = .ok (.iload_n 3, 1) := by decide +kernel
theorem dX10_badness_8 : decode cX10_badness 8 = .ok (.ifCond .eq 15, 3) := by decide +kernel
theorem dX10_badness_11 : decode cX10_badness 11 = .ok (.iload_n 3, 1) := by decide +kernel
theorem dX10_badness_12 : decode cX10_badness 12 = .ok (.ifCond .le 13, 3) := by decide +kernel
theorem dX10_badness_15 : decode cX10_badness 15 = .ok (.aload_n 0, 1) := by decide +kernel
theorem dX10_badness_16 : decode cX10_badness 16 = .ok (.iload_n 2, 1) := by decide +kernel
theorem dX10_badness_17 : decode cX10_badness 17 = .ok (.invokevirtual 166, 3) := by decide +kernel
theorem dX10_badness_20 : decode cX10_badness 20 = .ok (.ifCond .eq 5, 3) := by decide +kernel
theorem dX10_badness_23 : decode cX10_badness 23 = .ok (.iconst 0, 1) := by decide +kernel
theorem dX10_badness_24 : decode cX10_badness 24 = .ok (.ireturn, 1) := by decide +kernel
theorem dX10_badness_25 : decode cX10_badness 25 = .ok (.aload_n 0, 1) := by decide +kernel
theorem dX10_badness_26 : decode cX10_badness 26 = .ok (.iload_n 1, 1) := by decide +kernel
theorem dX10_badness_27 : decode cX10_badness 27 = .ok (.iload_n 2, 1) := by decide +kernel
theorem dX10_badness_28 : decode cX10_badness 28 = .ok (.iload_n 3, 1) := by decide +kernel
theorem dX10_badness_29 : decode cX10_badness 29 = .ok (.ifCond .le 7, 3) := by decide +kernel
theorem dX10_badness_32 : decode cX10_badness 32 = .ok (.iconst 2, 1) := by decide +kernel
theorem dX10_badness_33 : decode cX10_badness 33 = .ok (.goto 4, 3) := by decide +kernel
theorem dX10_badness_36 : decode cX10_badness 36 = .ok (.iconst 0, 1) := by decide +kernel
theorem dX10_badness_37 : decode cX10_badness 37 = .ok (.invokevirtual 150, 3) := by decide +kernel
theorem dX10_badness_40 : decode cX10_badness 40 = .ok (.aload_n 0, 1) := by decide +kernel
theorem dX10_badness_41 : decode cX10_badness 41 = .ok (.iload_n 1, 1) := by decide +kernel
theorem dX10_badness_42 : decode cX10_badness 42 = .ok (.iload_n 2, 1) := by decide +kernel
theorem dX10_badness_43 : decode cX10_badness 43 = .ok (.iconst 1, 1) := by decide +kernel
theorem dX10_badness_44 : decode cX10_badness 44 = .ok (.invokevirtual 150, 3) := by decide +kernel
theorem dX10_badness_47 : decode cX10_badness 47 = .ok (.isub, 1) := by decide +kernel
theorem dX10_badness_48 : decode cX10_badness 48 = .ok (.istore 4, 2) := by decide +kernel
theorem dX10_badness_50 : decode cX10_badness 50 = .ok (.bipush 100, 2) := by decide +kernel
theorem dX10_badness_52 : decode cX10_badness 52 = .ok (.iload_n 3, 1) := by decide +kernel
theorem dX10_badness_53 : decode cX10_badness 53 = .ok (.imul, 1) := by decide +kernel
theorem dX10_badness_54 : decode cX10_badness 54 = .ok (.iload_n 3, 1) := by decide +kernel
theorem dX10_badness_55 : decode cX10_badness 55 = .ok (.imul, 1) := by decide +kernel
theorem dX10_badness_56 : decode cX10_badness 56 = .ok (.iload 4, 2) := by decide +kernel
theorem dX10_badness_58 : decode cX10_badness 58 = .ok (.iload 4, 2) := by decide +kernel
theorem dX10_badness_60 : decode cX10_badness 60 = .ok (.imul, 1) := by decide +kernel
theorem dX10_badness_61 : decode cX10_badness 61 = .ok (.idiv, 1) := by decide +kernel
theorem dX10_badness_62 : decode cX10_badness 62 = .ok (.ireturn, 1) := by decide +kernel
theorem dX10_demerits_0 : decode cX10_demerits 0 = .ok (.bipush 10, 2) := by decide +kernel
theorem dX10_demerits_2 : decode cX10_demerits 2 = .ok (.aload_n 0, 1) := by decide +kernel
theorem dX10_demerits_3 : decode cX10_demerits 3 = .ok (.iload_n 1, 1) := by decide +kernel
theorem dX10_demerits_4 : decode cX10_demerits 4 = .ok (.iload_n 2, 1) := by decide +kernel
theorem dX10_demerits_5 : decode cX10_demerits 5 = .ok (.invokevirtual 169, 3) := by decide +kernel
theorem dX10_demerits_8 : decode cX10_demerits 8 = .ok (.iadd, 1) := by decide +kernel
theorem dX10_demerits_9 : decode cX10_demerits 9 = .ok (.istore_n 3, 1) := by decide +kernel
theorem dX10_demerits_10 : decode cX10_demerits 10 = .ok (.iload_n 3, 1) := by decide +kernel
theorem dX10_demerits_11 : decode cX10_demerits 11 = .ok (.iload_n 3, 1) := by decide +kernel
theorem dX10_demerits_12 : decode cX10_demerits 12 = .ok (.imul, 1) := by decide +kernel
theorem dX10_demerits_13 : decode cX10_demerits 13 = .ok (.aload_n 0, 1) := by decide +kernel
theorem dX10_demerits_14 : decode cX10_demerits 14 = .ok (.iload_n 2, 1) := by decide +kernel
theorem dX10_demerits_15 : decode cX10_demerits 15 = .ok (.invokevirtual 166, 3) := by decide +kernel
theorem dX10_demerits_18 : decode cX10_demerits 18 = .ok (.ifCond .ne 18, 3) := by decide +kernel
theorem dX10_demerits_21 : decode cX10_demerits 21 = .ok (.aload_n 0, 1) := by decide +kernel
theorem dX10_demerits_22 : decode cX10_demerits 22 = .ok (.getfield 26, 3) := by decide +kernel
theorem dX10_demerits_25 : decode cX10_demerits 25 = .ok (.iload_n 2, 1) := by decide +kernel
theorem dX10_demerits_26 : decode cX10_demerits 26 = .ok (.iaload, 1) := by decide +kernel
theorem dX10_demerits_27 : decode cX10_demerits 27 = .ok (.iconst 2, 1) := by decide +kernel
theorem dX10_demerits_28 : decode cX10_demerits 28 = .ok (.if_icmp .gt 8, 3) := by decide +kernel
theorem dX10_demerits_31 : decode cX10_demerits 31 = .ok (.bipush 100, 2) := by decide +kernel
theorem dX10_demerits_33 : decode cX10_demerits 33 = .ok (.goto 4, 3) := by decide +kernel
theorem dX10_demerits_36 : decode cX10_demerits 36 = .ok (.iconst 0, 1) := by decide +kernel
theorem dX10_demerits_37 : decode cX10_demerits 37 = .ok (.iadd, 1) := by decide +kernel
theorem dX10_demerits_38 : decode cX10_demerits 38 = .ok (.ireturn, 1) := by decide +kernel
theorem dX10_findWays_0 : decode cX10_findWays 0 = .ok (.aload_n 0, 1) := by decide +kernel
theorem dX10_findWays_1 : decode cX10_findWays 1 = .ok (.getfield 42, 3) := by decide +kernel
theorem dX10_findWays_4 : decode cX10_findWays 4 = .ok (.aload_n 0, 1) := by decide +kernel
theorem dX10_findWays_5 : decode cX10_findWays 5 = .ok (.getfield 90, 3) := by decide +kernel
theorem dX10_findWays_8 : decode cX10_findWays 8 = .ok (.iconst 0, 1) := by decide +kernel
theorem dX10_findWays_9 : decode cX10_findWays 9 = .ok (.iastore, 1) := by decide +kernel
theorem dX10_findWays_10 : decode cX10_findWays 10 = .ok (.aload_n 0, 1) := by decide +kernel
theorem dX10_findWays_11 : decode cX10_findWays 11 = .ok (.getfield 90, 3) := by decide +kernel
theorem dX10_findWays_14 : decode cX10_findWays 14 = .ok (.iconst 1, 1) := by decide +kernel
theorem dX10_findWays_15 : decode cX10_findWays 15 = .ok (.isub, 1) := by decide +kernel
theorem dX10_findWays_16 : decode cX10_findWays 16 = .ok (.istore_n 1, 1) := by decide +kernel
theorem dX10_findWays_17 : decode cX10_findWays 17 = .ok (.iload_n 1, 1) := by decide +kernel
theorem dX10_findWays_18 : decode cX10_findWays 18 = .ok (.ifCond .lt 101, 3) := by decide +kernel
theorem dX10_findWays_21 : decode cX10_findWays 21 = .ok (.aload_n 0, 1) := by decide +kernel
theorem dX10_findWays_22 : decode cX10_findWays 22 = .ok (.getfield 42, 3) := by decide +kernel
theorem dX10_findWays_25 : decode cX10_findWays 25 = .ok (.iload_n 1, 1) := by decide +kernel
theorem dX10_findWays_26 : decode cX10_findWays 26 = .ok (.iconst (-1), 1) := by decide +kernel
theorem dX10_findWays_27 : decode cX10_findWays 27 = .ok (.iastore, 1) := by decide +kernel
theorem dX10_findWays_28 : decode cX10_findWays 28 = .ok (.iload_n 1, 1) := by decide +kernel
theorem dX10_findWays_29 : decode cX10_findWays 29 = .ok (.istore_n 2, 1) := by decide +kernel
theorem dX10_findWays_30 : decode cX10_findWays 30 = .ok (.iload_n 2, 1) := by decide +kernel
theorem dX10_findWays_31 : decode cX10_findWays 31 = .ok (.aload_n 0, 1) := by decide +kernel
theorem dX10_findWays_32 : decode cX10_findWays 32 = .ok (.getfield 90, 3) := by decide +kernel
theorem dX10_findWays_35 : decode cX10_findWays 35 = .ok (.if_icmp .ge 78, 3) := by decide +kernel
theorem dX10_findWays_38 : decode cX10_findWays 38 = .ok (.aload_n 0, 1) := by decide +kernel
theorem dX10_findWays_39 : decode cX10_findWays 39 = .ok (.getfield 42, 3) := by decide +kernel
theorem dX10_findWays_42 : decode cX10_findWays 42 = .ok (.iload_n 2, 1) := by decide +kernel
theorem dX10_findWays_43 : decode cX10_findWays 43 = .ok (.iconst 1, 1) := by decide +kernel
theorem dX10_findWays_44 : decode cX10_findWays 44 = .ok (.iadd, 1) := by decide +kernel
theorem dX10_findWays_45 : decode cX10_findWays 45 = .ok (.iaload, 1) := by decide +kernel
theorem dX10_findWays_46 : decode cX10_findWays 46 = .ok (.ifCond .lt 61, 3) := by decide +kernel
theorem dX10_findWays_49 : decode cX10_findWays 49 = .ok (.aload_n 0, 1) := by decide +kernel
theorem dX10_findWays_50 : decode cX10_findWays 50 = .ok (.iload_n 1, 1) := by decide +kernel
theorem dX10_findWays_51 : decode cX10_findWays 51 = .ok (.iload_n 2, 1) := by decide +kernel
theorem dX10_findWays_52 : decode cX10_findWays 52 = .ok (.invokevirtual 172, 3) := by decide +kernel
theorem dX10_findWays_55 : decode cX10_findWays 55 = .ok (.ifCond .eq 52, 3) := by decide +kernel
theorem dX10_findWays_58 : decode cX10_findWays 58 = .ok (.aload_n 0, 1) := by decide +kernel
theorem dX10_findWays_59 : decode cX10_findWays 59 = .ok (.iload_n 1, 1) := by decide +kernel
theorem dX10_findWays_60 : decode cX10_findWays 60 = .ok (.iload_n 2, 1) := by decide +kernel
theorem dX10_findWays_61 : decode cX10_findWays 61 = .ok (.invokevirtual 176, 3) := by decide +kernel
theorem dX10_findWays_64 : decode cX10_findWays 64 = .ok (.aload_n 0, 1) := by decide +kernel
theorem dX10_findWays_65 : decode cX10_findWays 65 = .ok (.getfield 42, 3) := by decide +kernel
theorem dX10_findWays_68 : decode cX10_findWays 68 = .ok (.iload_n 2, 1) := by decide +kernel
theorem dX10_findWays_69 : decode cX10_findWays 69 = .ok (.iconst 1, 1) := by decide +kernel
theorem dX10_findWays_70 : decode cX10_findWays 70 = .ok (.iadd, 1) := by decide +kernel
theorem dX10_findWays_71 : decode cX10_findWays 71 = .ok (.iaload, 1) := by decide +kernel
theorem dX10_findWays_72 : decode cX10_findWays 72 = .ok (.iadd, 1) := by decide +kernel
theorem dX10_findWays_73 : decode cX10_findWays 73 = .ok (.istore_n 3, 1) := by decide +kernel
theorem dX10_findWays_74 : decode cX10_findWays 74 = .ok (.aload_n 0, 1) := by decide +kernel
theorem dX10_findWays_75 : decode cX10_findWays 75 = .ok (.getfield 42, 3) := by decide +kernel
theorem dX10_findWays_78 : decode cX10_findWays 78 = .ok (.iload_n 1, 1) := by decide +kernel
theorem dX10_findWays_79 : decode cX10_findWays 79 = .ok (.iaload, 1) := by decide +kernel
theorem dX10_findWays_80 : decode cX10_findWays 80 = .ok (.ifCond .lt 13, 3) := by decide +kernel
theorem dX10_findWays_83 : decode cX10_findWays 83 = .ok (.iload_n 3, 1) := by decide +kernel
theorem dX10_findWays_84 : decode cX10_findWays 84 = .ok (.aload_n 0, 1) := by decide +kernel
theorem dX10_findWays_85 : decode cX10_findWays 85 = .ok (.getfield 42, 3) := by decide +kernel
theorem dX10_findWays_88 : decode cX10_findWays 88 = .ok (.iload_n 1, 1) := by decide +kernel
theorem dX10_findWays_89 : decode cX10_findWays 89 = .ok (.iaload, 1) := by decide +kernel
theorem dX10_findWays_90 : decode cX10_findWays 90 = .ok (.if_icmp .gt 17, 3) := by decide +kernel
theorem dX10_findWays_93 : decode cX10_findWays 93 = .ok (.aload_n 0, 1) := by decide +kernel
theorem dX10_findWays_94 : decode cX10_findWays 94 = .ok (.getfield 42, 3) := by decide +kernel
theorem dX10_findWays_97 : decode cX10_findWays 97 = .ok (.iload_n 1, 1) := by decide +kernel
theorem dX10_findWays_98 : decode cX10_findWays 98 = .ok (.iload_n 3, 1) := by decide +kernel
theorem dX10_findWays_99 : decode cX10_findWays 99 = .ok (.iastore, 1) := by decide +kernel
theorem dX10_findWays_100 : decode cX10_findWays 100 = .ok (.aload_n 0, 1) := by decide +kernel
theorem dX10_findWays_101 : decode cX10_findWays 101 = .ok (.getfield 45, 3) := by decide +kernel
theorem dX10_findWays_104 : decode cX10_findWays 104 = .ok (.iload_n 1, 1) := by decide +kernel
theorem dX10_findWays_105 : decode cX10_findWays 105 = .ok (.iload_n 2, 1) := by decide +kernel
theorem dX10_findWays_106 : decode cX10_findWays 106 = .ok (.iastore, 1) := by decide +kernel
theorem dX10_findWays_107 : decode cX10_findWays 107 = .ok (.iinc 2 1, 3) := by decide +kernel
theorem dX10_findWays_110 : decode cX10_findWays 110 = .ok (.goto (-80), 3) := by decide +kernel
theorem dX10_findWays_113 : decode cX10_findWays 113 = .ok (.iinc 1 (-1), 3) := by decide +kernel
theorem dX10_findWays_116 : decode cX10_findWays 116 = .ok (.goto (-99), 3) := by decide +kernel
theorem dX10_findWays_119 : decode cX10_findWays 119 = .ok (.return_, 1) := by decide +kernel
theorem dX10_goOn_0 : decode cX10_goOn 0 = .ok (.iload_n 2, 1) := by decide +kernel
theorem dX10_goOn_1 : decode cX10_goOn 1 = .ok (.istore_n 3, 1) := by decide +kernel
theorem dX10_goOn_2 : decode cX10_goOn 2 = .ok (.aload_n 0, 1) := by decide +kernel
theorem dX10_goOn_3 : decode cX10_goOn 3 = .ok (.iload_n 1, 1) := by decide +kernel
theorem dX10_goOn_4 : decode cX10_goOn 4 = .ok (.putfield 147, 3) := by decide +kernel
theorem dX10_goOn_7 : decode cX10_goOn 7 = .ok (.iload_n 3, 1) := by decide +kernel
theorem dX10_goOn_8 : decode cX10_goOn 8 = .ok (.aload_n 0, 1) := by decide +kernel
theorem dX10_goOn_9 : decode cX10_goOn 9 = .ok (.getfield 90, 3) := by decide +kernel
theorem dX10_goOn_12 : decode cX10_goOn 12 = .ok (.if_icmp .ge 35, 3) := by decide +kernel
theorem dX10_goOn_15 : decode cX10_goOn 15 = .ok (.aload_n 0, 1) := by decide +kernel
theorem dX10_goOn_16 : decode cX10_goOn 16 = .ok (.getfield 48, 3) := by decide +kernel
theorem dX10_goOn_19 : decode cX10_goOn 19 = .ok (.aload_n 0, 1) := by decide +kernel
theorem dX10_goOn_20 : decode cX10_goOn 20 = .ok (.getfield 147, 3) := by decide +kernel
theorem dX10_goOn_23 : decode cX10_goOn 23 = .ok (.iload_n 3, 1) := by decide +kernel
theorem dX10_goOn_24 : decode cX10_goOn 24 = .ok (.iastore, 1) := by decide +kernel
theorem dX10_goOn_25 : decode cX10_goOn 25 = .ok (.aload_n 0, 1) := by decide +kernel
theorem dX10_goOn_26 : decode cX10_goOn 26 = .ok (.getfield 45, 3) := by decide +kernel
theorem dX10_goOn_29 : decode cX10_goOn 29 = .ok (.iload_n 3, 1) := by decide +kernel
theorem dX10_goOn_30 : decode cX10_goOn 30 = .ok (.iaload, 1) := by decide +kernel
theorem dX10_goOn_31 : decode cX10_goOn 31 = .ok (.iconst 1, 1) := by decide +kernel
theorem dX10_goOn_32 : decode cX10_goOn 32 = .ok (.iadd, 1) := by decide +kernel
theorem dX10_goOn_33 : decode cX10_goOn 33 = .ok (.istore_n 3, 1) := by decide +kernel
theorem dX10_goOn_34 : decode cX10_goOn 34 = .ok (.aload_n 0, 1) := by decide +kernel
theorem dX10_goOn_35 : decode cX10_goOn 35 = .ok (.dup, 1) := by decide +kernel
theorem dX10_goOn_36 : decode cX10_goOn 36 = .ok (.getfield 147, 3) := by decide +kernel
theorem dX10_goOn_39 : decode cX10_goOn 39 = .ok (.iconst 1, 1) := by decide +kernel
theorem dX10_goOn_40 : decode cX10_goOn 40 = .ok (.iadd, 1) := by decide +kernel
theorem dX10_goOn_41 : decode cX10_goOn 41 = .ok (.putfield 147, 3) := by decide +kernel
theorem dX10_goOn_44 : decode cX10_goOn 44 = .ok (.goto (-37), 3) := by decide +kernel
theorem dX10_goOn_47 : decode cX10_goOn 47 = .ok (.aload_n 0, 1) := by decide +kernel
theorem dX10_goOn_48 : decode cX10_goOn 48 = .ok (.getfield 48, 3) := by decide +kernel
theorem dX10_goOn_51 : decode cX10_goOn 51 = .ok (.aload_n 0, 1) := by decide +kernel
theorem dX10_goOn_52 : decode cX10_goOn 52 = .ok (.getfield 147, 3) := by decide +kernel
theorem dX10_goOn_55 : decode cX10_goOn 55 = .ok (.aload_n 0, 1) := by decide +kernel
theorem dX10_goOn_56 : decode cX10_goOn 56 = .ok (.getfield 90, 3) := by decide +kernel
theorem dX10_goOn_59 : decode cX10_goOn 59 = .ok (.iastore, 1) := by decide +kernel
theorem dX10_goOn_60 : decode cX10_goOn 60 = .ok (.aload_n 0, 1) := by decide +kernel
theorem dX10_goOn_61 : decode cX10_goOn 61 = .ok (.invokevirtual 179, 3) := by decide +kernel
theorem dX10_goOn_64 : decode cX10_goOn 64 = .ok (.return_, 1) := by decide +kernel
theorem dX10_hasWay_0 : decode cX10_hasWay 0 = .ok (.aload_n 0, 1) := by decide +kernel
theorem dX10_hasWay_1 : decode cX10_hasWay 1 = .ok (.getfield 90, 3) := by decide +kernel
theorem dX10_hasWay_4 : decode cX10_hasWay 4 = .ok (.ifCond .le 16, 3) := by decide +kernel
theorem dX10_hasWay_7 : decode cX10_hasWay 7 = .ok (.aload_n 0, 1) := by decide +kernel
theorem dX10_hasWay_8 : decode cX10_hasWay 8 = .ok (.getfield 42, 3) := by decide +kernel
theorem dX10_hasWay_11 : decode cX10_hasWay 11 = .ok (.iconst 0, 1) := by decide +kernel
theorem dX10_hasWay_12 : decode cX10_hasWay 12 = .ok (.iaload, 1) := by decide +kernel
theorem dX10_hasWay_13 : decode cX10_hasWay 13 = .ok (.ifCond .lt 7, 3) := by decide +kernel
theorem dX10_hasWay_16 : decode cX10_hasWay 16 = .ok (.iconst 1, 1) := by decide +kernel
theorem dX10_hasWay_17 : decode cX10_hasWay 17 = .ok (.goto 4, 3) := by decide +kernel
theorem dX10_hasWay_20 : decode cX10_hasWay 20 = .ok (.iconst 0, 1) := by decide +kernel
theorem dX10_hasWay_21 : decode cX10_hasWay 21 = .ok (.ireturn, 1) := by decide +kernel
theorem dX10_layAnew_0 : decode cX10_layAnew 0 = .ok (.aload_n 0, 1) := by decide +kernel
theorem dX10_layAnew_1 : decode cX10_layAnew 1 = .ok (.invokevirtual 182, 3) := by decide +kernel
theorem dX10_layAnew_4 : decode cX10_layAnew 4 = .ok (.aload_n 0, 1) := by decide +kernel
theorem dX10_layAnew_5 : decode cX10_layAnew 5 = .ok (.iconst 0, 1) := by decide +kernel
theorem dX10_layAnew_6 : decode cX10_layAnew 6 = .ok (.putfield 147, 3) := by decide +kernel
theorem dX10_layAnew_9 : decode cX10_layAnew 9 = .ok (.aload_n 0, 1) := by decide +kernel
theorem dX10_layAnew_10 : decode cX10_layAnew 10 = .ok (.invokevirtual 185, 3) := by decide +kernel
theorem dX10_layAnew_13 : decode cX10_layAnew 13 = .ok (.ifCond .eq 9, 3) := by decide +kernel
theorem dX10_layAnew_16 : decode cX10_layAnew 16 = .ok (.aload_n 0, 1) := by decide +kernel
theorem dX10_layAnew_17 : decode cX10_layAnew 17 = .ok (.iconst 0, 1) := by decide +kernel
theorem dX10_layAnew_18 : decode cX10_layAnew 18 = .ok (.iconst 0, 1) := by decide +kernel
theorem dX10_layAnew_19 : decode cX10_layAnew 19 = .ok (.invokevirtual 189, 3) := by decide +kernel
theorem dX10_layAnew_22 : decode cX10_layAnew 22 = .ok (.return_, 1) := by decide +kernel
theorem dX10_layBest_0 : decode cX10_layBest 0 = .ok (.aload_n 0, 1) := by decide +kernel
theorem dX10_layBest_1 : decode cX10_layBest 1 = .ok (.invokevirtual 185, 3) := by decide +kernel
theorem dX10_layBest_4 : decode cX10_layBest 4 = .ok (.ifCond .ne 7, 3) := by decide +kernel
theorem dX10_layBest_7 : decode cX10_layBest 7 = .ok (.sipush (-1004), 3) := by decide +kernel
theorem dX10_layBest_10 : decode cX10_layBest 10 = .ok (.ireturn, 1) := by decide +kernel
theorem dX10_layBest_11 : decode cX10_layBest 11 = .ok (.aload_n 0, 1) := by decide +kernel
theorem dX10_layBest_12 : decode cX10_layBest 12 = .ok (.iconst 0, 1) := by decide +kernel
theorem dX10_layBest_13 : decode cX10_layBest 13 = .ok (.iconst 0, 1) := by decide +kernel
theorem dX10_layBest_14 : decode cX10_layBest 14 = .ok (.invokevirtual 189, 3) := by decide +kernel
theorem dX10_layBest_17 : decode cX10_layBest 17 = .ok (.aload_n 0, 1) := by decide +kernel
theorem dX10_layBest_18 : decode cX10_layBest 18 = .ok (.getfield 147, 3) := by decide +kernel
theorem dX10_layBest_21 : decode cX10_layBest 21 = .ok (.ireturn, 1) := by decide +kernel
theorem dX10_lastOf_0 : decode cX10_lastOf 0 = .ok (.aload_n 0, 1) := by decide +kernel
theorem dX10_lastOf_1 : decode cX10_lastOf 1 = .ok (.getfield 48, 3) := by decide +kernel
theorem dX10_lastOf_4 : decode cX10_lastOf 4 = .ok (.iload_n 1, 1) := by decide +kernel
theorem dX10_lastOf_5 : decode cX10_lastOf 5 = .ok (.iconst 1, 1) := by decide +kernel
theorem dX10_lastOf_6 : decode cX10_lastOf 6 = .ok (.iadd, 1) := by decide +kernel
theorem dX10_lastOf_7 : decode cX10_lastOf 7 = .ok (.iaload, 1) := by decide +kernel
theorem dX10_lastOf_8 : decode cX10_lastOf 8 = .ok (.iconst 1, 1) := by decide +kernel
theorem dX10_lastOf_9 : decode cX10_lastOf 9 = .ok (.isub, 1) := by decide +kernel
theorem dX10_lastOf_10 : decode cX10_lastOf 10 = .ok (.ireturn, 1) := by decide +kernel
theorem dX10_demeritsBefore_0 : decode cX10_demeritsBefore 0 = .ok (.iconst 0, 1) := by decide +kernel
theorem dX10_demeritsBefore_1 : decode cX10_demeritsBefore 1 = .ok (.istore_n 2, 1) := by decide +kernel
theorem dX10_demeritsBefore_2 : decode cX10_demeritsBefore 2 = .ok (.iconst 0, 1) := by decide +kernel
theorem dX10_demeritsBefore_3 : decode cX10_demeritsBefore 3 = .ok (.istore_n 3, 1) := by decide +kernel
theorem dX10_demeritsBefore_4 : decode cX10_demeritsBefore 4 = .ok (.iload_n 3, 1) := by decide +kernel
theorem dX10_demeritsBefore_5 : decode cX10_demeritsBefore 5 = .ok (.iload_n 1, 1) := by decide +kernel
theorem dX10_demeritsBefore_6 : decode cX10_demeritsBefore 6 = .ok (.if_icmp .ge 27, 3) := by decide +kernel
theorem dX10_demeritsBefore_9 : decode cX10_demeritsBefore 9 = .ok (.iload_n 2, 1) := by decide +kernel
theorem dX10_demeritsBefore_10 : decode cX10_demeritsBefore 10 = .ok (.aload_n 0, 1) := by decide +kernel
theorem dX10_demeritsBefore_11 : decode cX10_demeritsBefore 11 = .ok (.aload_n 0, 1) := by decide +kernel
theorem dX10_demeritsBefore_12 : decode cX10_demeritsBefore 12 = .ok (.getfield 48, 3) := by decide +kernel
theorem dX10_demeritsBefore_15 : decode cX10_demeritsBefore 15 = .ok (.iload_n 3, 1) := by decide +kernel
theorem dX10_demeritsBefore_16 : decode cX10_demeritsBefore 16 = .ok (.iaload, 1) := by decide +kernel
theorem dX10_demeritsBefore_17 : decode cX10_demeritsBefore 17 = .ok (.aload_n 0, 1) := by decide +kernel
theorem dX10_demeritsBefore_18 : decode cX10_demeritsBefore 18 = .ok (.iload_n 3, 1) := by decide +kernel
theorem dX10_demeritsBefore_19 : decode cX10_demeritsBefore 19 = .ok (.invokevirtual 192, 3) := by decide +kernel
theorem dX10_demeritsBefore_22 : decode cX10_demeritsBefore 22 = .ok (.invokevirtual 176, 3) := by decide +kernel
theorem dX10_demeritsBefore_25 : decode cX10_demeritsBefore 25 = .ok (.iadd, 1) := by decide +kernel
theorem dX10_demeritsBefore_26 : decode cX10_demeritsBefore 26 = .ok (.istore_n 2, 1) := by decide +kernel
theorem dX10_demeritsBefore_27 : decode cX10_demeritsBefore 27 = .ok (.iinc 3 1, 3) := by decide +kernel
theorem dX10_demeritsBefore_30 : decode cX10_demeritsBefore 30 = .ok (.goto (-26), 3) := by decide +kernel
theorem dX10_demeritsBefore_33 : decode cX10_demeritsBefore 33 = .ok (.iload_n 2, 1) := by decide +kernel
theorem dX10_demeritsBefore_34 : decode cX10_demeritsBefore 34 = .ok (.ireturn, 1) := by decide +kernel
theorem dX10_secondOf_0 : decode cX10_secondOf 0 = .ok (.aload_n 0, 1) := by decide +kernel
theorem dX10_secondOf_1 : decode cX10_secondOf 1 = .ok (.getfield 48, 3) := by decide +kernel
theorem dX10_secondOf_4 : decode cX10_secondOf 4 = .ok (.iload_n 1, 1) := by decide +kernel
theorem dX10_secondOf_5 : decode cX10_secondOf 5 = .ok (.iaload, 1) := by decide +kernel
theorem dX10_secondOf_6 : decode cX10_secondOf 6 = .ok (.istore_n 2, 1) := by decide +kernel
theorem dX10_secondOf_7 : decode cX10_secondOf 7 = .ok (.iconst (-1), 1) := by decide +kernel
theorem dX10_secondOf_8 : decode cX10_secondOf 8 = .ok (.istore_n 3, 1) := by decide +kernel
theorem dX10_secondOf_9 : decode cX10_secondOf 9 = .ok (.iconst 0, 1) := by decide +kernel
theorem dX10_secondOf_10 : decode cX10_secondOf 10 = .ok (.istore 4, 2) := by decide +kernel
theorem dX10_secondOf_12 : decode cX10_secondOf 12 = .ok (.iload_n 2, 1) := by decide +kernel
theorem dX10_secondOf_13 : decode cX10_secondOf 13 = .ok (.istore 5, 2) := by decide +kernel
theorem dX10_secondOf_15 : decode cX10_secondOf 15 = .ok (.iload 5, 2) := by decide +kernel
theorem dX10_secondOf_17 : decode cX10_secondOf 17 = .ok (.aload_n 0, 1) := by decide +kernel
theorem dX10_secondOf_18 : decode cX10_secondOf 18 = .ok (.getfield 90, 3) := by decide +kernel
theorem dX10_secondOf_21 : decode cX10_secondOf 21 = .ok (.if_icmp .ge 78, 3) := by decide +kernel
theorem dX10_secondOf_24 : decode cX10_secondOf 24 = .ok (.iload 5, 2) := by decide +kernel
theorem dX10_secondOf_26 : decode cX10_secondOf 26 = .ok (.aload_n 0, 1) := by decide +kernel
theorem dX10_secondOf_27 : decode cX10_secondOf 27 = .ok (.iload_n 1, 1) := by decide +kernel
theorem dX10_secondOf_28 : decode cX10_secondOf 28 = .ok (.invokevirtual 192, 3) := by decide +kernel
theorem dX10_secondOf_31 : decode cX10_secondOf 31 = .ok (.if_icmp .eq 62, 3) := by decide +kernel
theorem dX10_secondOf_34 : decode cX10_secondOf 34 = .ok (.aload_n 0, 1) := by decide +kernel
theorem dX10_secondOf_35 : decode cX10_secondOf 35 = .ok (.getfield 42, 3) := by decide +kernel
theorem dX10_secondOf_38 : decode cX10_secondOf 38 = .ok (.iload 5, 2) := by decide +kernel
theorem dX10_secondOf_40 : decode cX10_secondOf 40 = .ok (.iconst 1, 1) := by decide +kernel
theorem dX10_secondOf_41 : decode cX10_secondOf 41 = .ok (.iadd, 1) := by decide +kernel
theorem dX10_secondOf_42 : decode cX10_secondOf 42 = .ok (.iaload, 1) := by decide +kernel
theorem dX10_secondOf_43 : decode cX10_secondOf 43 = .ok (.ifCond .lt 50, 3) := by decide +kernel
theorem dX10_secondOf_46 : decode cX10_secondOf 46 = .ok (.aload_n 0, 1) := by decide +kernel
theorem dX10_secondOf_47 : decode cX10_secondOf 47 = .ok (.iload_n 2, 1) := by decide +kernel
theorem dX10_secondOf_48 : decode cX10_secondOf 48 = .ok (.iload 5, 2) := by decide +kernel
theorem dX10_secondOf_50 : decode cX10_secondOf 50 = .ok (.invokevirtual 172, 3) := by decide +kernel
theorem dX10_secondOf_53 : decode cX10_secondOf 53 = .ok (.ifCond .eq 40, 3) := by decide +kernel
theorem dX10_secondOf_56 : decode cX10_secondOf 56 = .ok (.aload_n 0, 1) := by decide +kernel
theorem dX10_secondOf_57 : decode cX10_secondOf 57 = .ok (.iload_n 2, 1) := by decide +kernel
theorem dX10_secondOf_58 : decode cX10_secondOf 58 = .ok (.iload 5, 2) := by decide +kernel
theorem dX10_secondOf_60 : decode cX10_secondOf 60 = .ok (.invokevirtual 176, 3) := by decide +kernel
theorem dX10_secondOf_63 : decode cX10_secondOf 63 = .ok (.aload_n 0, 1) := by decide +kernel
theorem dX10_secondOf_64 : decode cX10_secondOf 64 = .ok (.getfield 42, 3) := by decide +kernel
theorem dX10_secondOf_67 : decode cX10_secondOf 67 = .ok (.iload 5, 2) := by decide +kernel
theorem dX10_secondOf_69 : decode cX10_secondOf 69 = .ok (.iconst 1, 1) := by decide +kernel
theorem dX10_secondOf_70 : decode cX10_secondOf 70 = .ok (.iadd, 1) := by decide +kernel
theorem dX10_secondOf_71 : decode cX10_secondOf 71 = .ok (.iaload, 1) := by decide +kernel
theorem dX10_secondOf_72 : decode cX10_secondOf 72 = .ok (.iadd, 1) := by decide +kernel
theorem dX10_secondOf_73 : decode cX10_secondOf 73 = .ok (.istore 6, 2) := by decide +kernel
theorem dX10_secondOf_75 : decode cX10_secondOf 75 = .ok (.iload_n 3, 1) := by decide +kernel
theorem dX10_secondOf_76 : decode cX10_secondOf 76 = .ok (.ifCond .lt 10, 3) := by decide +kernel
theorem dX10_secondOf_79 : decode cX10_secondOf 79 = .ok (.iload 6, 2) := by decide +kernel
theorem dX10_secondOf_81 : decode cX10_secondOf 81 = .ok (.iload 4, 2) := by decide +kernel
theorem dX10_secondOf_83 : decode cX10_secondOf 83 = .ok (.if_icmp .gt 10, 3) := by decide +kernel
theorem dX10_secondOf_86 : decode cX10_secondOf 86 = .ok (.iload 5, 2) := by decide +kernel
theorem dX10_secondOf_88 : decode cX10_secondOf 88 = .ok (.istore_n 3, 1) := by decide +kernel
theorem dX10_secondOf_89 : decode cX10_secondOf 89 = .ok (.iload 6, 2) := by decide +kernel
theorem dX10_secondOf_91 : decode cX10_secondOf 91 = .ok (.istore 4, 2) := by decide +kernel
theorem dX10_secondOf_93 : decode cX10_secondOf 93 = .ok (.iinc 5 1, 3) := by decide +kernel
theorem dX10_secondOf_96 : decode cX10_secondOf 96 = .ok (.goto (-81), 3) := by decide +kernel
theorem dX10_secondOf_99 : decode cX10_secondOf 99 = .ok (.iload_n 3, 1) := by decide +kernel
theorem dX10_secondOf_100 : decode cX10_secondOf 100 = .ok (.ireturn, 1) := by decide +kernel
theorem dX10_secondDemerits_0 : decode cX10_secondDemerits 0 = .ok (.aload_n 0, 1) := by decide +kernel
theorem dX10_secondDemerits_1 : decode cX10_secondDemerits 1 = .ok (.iload_n 1, 1) := by decide +kernel
theorem dX10_secondDemerits_2 : decode cX10_secondDemerits 2 = .ok (.invokevirtual 195, 3) := by decide +kernel
theorem dX10_secondDemerits_5 : decode cX10_secondDemerits 5 = .ok (.istore_n 2, 1) := by decide +kernel
theorem dX10_secondDemerits_6 : decode cX10_secondDemerits 6 = .ok (.aload_n 0, 1) := by decide +kernel
theorem dX10_secondDemerits_7 : decode cX10_secondDemerits 7 = .ok (.iload_n 1, 1) := by decide +kernel
theorem dX10_secondDemerits_8 : decode cX10_secondDemerits 8 = .ok (.invokevirtual 198, 3) := by decide +kernel
theorem dX10_secondDemerits_11 : decode cX10_secondDemerits 11 = .ok (.aload_n 0, 1) := by decide +kernel
theorem dX10_secondDemerits_12 : decode cX10_secondDemerits 12 = .ok (.aload_n 0, 1) := by decide +kernel
theorem dX10_secondDemerits_13 : decode cX10_secondDemerits 13 = .ok (.getfield 48, 3) := by decide +kernel
theorem dX10_secondDemerits_16 : decode cX10_secondDemerits 16 = .ok (.iload_n 1, 1) := by decide +kernel
theorem dX10_secondDemerits_17 : decode cX10_secondDemerits 17 = .ok (.iaload, 1) := by decide +kernel
theorem dX10_secondDemerits_18 : decode cX10_secondDemerits 18 = .ok (.iload_n 2, 1) := by decide +kernel
theorem dX10_secondDemerits_19 : decode cX10_secondDemerits 19 = .ok (.invokevirtual 176, 3) := by decide +kernel
theorem dX10_secondDemerits_22 : decode cX10_secondDemerits 22 = .ok (.iadd, 1) := by decide +kernel
theorem dX10_secondDemerits_23 : decode cX10_secondDemerits 23 = .ok (.aload_n 0, 1) := by decide +kernel
theorem dX10_secondDemerits_24 : decode cX10_secondDemerits 24 = .ok (.getfield 42, 3) := by decide +kernel
theorem dX10_secondDemerits_27 : decode cX10_secondDemerits 27 = .ok (.iload_n 2, 1) := by decide +kernel
theorem dX10_secondDemerits_28 : decode cX10_secondDemerits 28 = .ok (.iconst 1, 1) := by decide +kernel
theorem dX10_secondDemerits_29 : decode cX10_secondDemerits 29 = .ok (.iadd, 1) := by decide +kernel
theorem dX10_secondDemerits_30 : decode cX10_secondDemerits 30 = .ok (.iaload, 1) := by decide +kernel
theorem dX10_secondDemerits_31 : decode cX10_secondDemerits 31 = .ok (.iadd, 1) := by decide +kernel
theorem dX10_secondDemerits_32 : decode cX10_secondDemerits 32 = .ok (.ireturn, 1) := by decide +kernel
theorem dX10_noLine_0 : decode cX10_noLine 0 = .ok (.iload_n 1, 1) := by decide +kernel
theorem dX10_noLine_1 : decode cX10_noLine 1 = .ok (.iconst 0, 1) := by decide +kernel
theorem dX10_noLine_2 : decode cX10_noLine 2 = .ok (.aload_n 0, 1) := by decide +kernel
theorem dX10_noLine_3 : decode cX10_noLine 3 = .ok (.getfield 147, 3) := by decide +kernel
theorem dX10_noLine_6 : decode cX10_noLine 6 = .ok (.iconst 1, 1) := by decide +kernel
theorem dX10_noLine_7 : decode cX10_noLine 7 = .ok (.isub, 1) := by decide +kernel
theorem dX10_noLine_8 : decode cX10_noLine 8 = .ok (.invokestatic 69, 3) := by decide +kernel
theorem dX10_noLine_11 : decode cX10_noLine 11 = .ok (.ifCond .ne 7, 3) := by decide +kernel
theorem dX10_noLine_14 : decode cX10_noLine 14 = .ok (.iconst 1, 1) := by decide +kernel
theorem dX10_noLine_15 : decode cX10_noLine 15 = .ok (.goto 4, 3) := by decide +kernel
theorem dX10_noLine_18 : decode cX10_noLine 18 = .ok (.iconst 0, 1) := by decide +kernel
theorem dX10_noLine_19 : decode cX10_noLine 19 = .ok (.ireturn, 1) := by decide +kernel
theorem dX10_takesSecond_0 : decode cX10_takesSecond 0 = .ok (.aload_n 0, 1) := by decide +kernel
theorem dX10_takesSecond_1 : decode cX10_takesSecond 1 = .ok (.iload_n 1, 1) := by decide +kernel
theorem dX10_takesSecond_2 : decode cX10_takesSecond 2 = .ok (.iconst 1, 1) := by decide +kernel
theorem dX10_takesSecond_3 : decode cX10_takesSecond 3 = .ok (.iadd, 1) := by decide +kernel
theorem dX10_takesSecond_4 : decode cX10_takesSecond 4 = .ok (.aload_n 0, 1) := by decide +kernel
theorem dX10_takesSecond_5 : decode cX10_takesSecond 5 = .ok (.iload_n 1, 1) := by decide +kernel
theorem dX10_takesSecond_6 : decode cX10_takesSecond 6 = .ok (.invokevirtual 195, 3) := by decide +kernel
theorem dX10_takesSecond_9 : decode cX10_takesSecond 9 = .ok (.iconst 1, 1) := by decide +kernel
theorem dX10_takesSecond_10 : decode cX10_takesSecond 10 = .ok (.iadd, 1) := by decide +kernel
theorem dX10_takesSecond_11 : decode cX10_takesSecond 11 = .ok (.invokevirtual 189, 3) := by decide +kernel
theorem dX10_takesSecond_14 : decode cX10_takesSecond 14 = .ok (.return_, 1) := by decide +kernel
theorem dX10_takeSecond_0 : decode cX10_takeSecond 0 = .ok (.aload_n 0, 1) := by decide +kernel
theorem dX10_takeSecond_1 : decode cX10_takeSecond 1 = .ok (.iload_n 1, 1) := by decide +kernel
theorem dX10_takeSecond_2 : decode cX10_takeSecond 2 = .ok (.invokevirtual 201, 3) := by decide +kernel
theorem dX10_takeSecond_5 : decode cX10_takeSecond 5 = .ok (.ifCond .eq 7, 3) := by decide +kernel
theorem dX10_takeSecond_8 : decode cX10_takeSecond 8 = .ok (.sipush (-1001), 3) := by decide +kernel
theorem dX10_takeSecond_11 : decode cX10_takeSecond 11 = .ok (.ireturn, 1) := by decide +kernel
theorem dX10_takeSecond_12 : decode cX10_takeSecond 12 = .ok (.aload_n 0, 1) := by decide +kernel
theorem dX10_takeSecond_13 : decode cX10_takeSecond 13 = .ok (.iload_n 1, 1) := by decide +kernel
theorem dX10_takeSecond_14 : decode cX10_takeSecond 14 = .ok (.invokevirtual 195, 3) := by decide +kernel
theorem dX10_takeSecond_17 : decode cX10_takeSecond 17 = .ok (.ifCond .ge 7, 3) := by decide +kernel
theorem dX10_takeSecond_20 : decode cX10_takeSecond 20 = .ok (.sipush (-1004), 3) := by decide +kernel
theorem dX10_takeSecond_23 : decode cX10_takeSecond 23 = .ok (.ireturn, 1) := by decide +kernel
theorem dX10_takeSecond_24 : decode cX10_takeSecond 24 = .ok (.aload_n 0, 1) := by decide +kernel
theorem dX10_takeSecond_25 : decode cX10_takeSecond 25 = .ok (.iload_n 1, 1) := by decide +kernel
theorem dX10_takeSecond_26 : decode cX10_takeSecond 26 = .ok (.invokevirtual 204, 3) := by decide +kernel
theorem dX10_takeSecond_29 : decode cX10_takeSecond 29 = .ok (.aload_n 0, 1) := by decide +kernel
theorem dX10_takeSecond_30 : decode cX10_takeSecond 30 = .ok (.getfield 147, 3) := by decide +kernel
theorem dX10_takeSecond_33 : decode cX10_takeSecond 33 = .ok (.ireturn, 1) := by decide +kernel
theorem dX10_share_0 : decode cX10_share 0 = .ok (.iload 4, 2) := by decide +kernel
theorem dX10_share_2 : decode cX10_share 2 = .ok (.istore 6, 2) := by decide +kernel
theorem dX10_share_4 : decode cX10_share 4 = .ok (.aload_n 0, 1) := by decide +kernel
theorem dX10_share_5 : decode cX10_share 5 = .ok (.getfield 19, 3) := by decide +kernel
theorem dX10_share_8 : decode cX10_share 8 = .ok (.iconst 3, 1) := by decide +kernel
theorem dX10_share_9 : decode cX10_share 9 = .ok (.iload_n 3, 1) := by decide +kernel
theorem dX10_share_10 : decode cX10_share 10 = .ok (.imul, 1) := by decide +kernel
theorem dX10_share_11 : decode cX10_share 11 = .ok (.iload 5, 2) := by decide +kernel
theorem dX10_share_13 : decode cX10_share 13 = .ok (.ifCond .le 7, 3) := by decide +kernel
theorem dX10_share_16 : decode cX10_share 16 = .ok (.iconst 2, 1) := by decide +kernel
theorem dX10_share_17 : decode cX10_share 17 = .ok (.goto 4, 3) := by decide +kernel
theorem dX10_share_20 : decode cX10_share 20 = .ok (.iconst 0, 1) := by decide +kernel
theorem dX10_share_21 : decode cX10_share 21 = .ok (.iadd, 1) := by decide +kernel
theorem dX10_share_22 : decode cX10_share 22 = .ok (.iaload, 1) := by decide +kernel
theorem dX10_share_23 : decode cX10_share 23 = .ok (.istore 7, 2) := by decide +kernel
theorem dX10_share_25 : decode cX10_share 25 = .ok (.iload_n 1, 1) := by decide +kernel
theorem dX10_share_26 : decode cX10_share 26 = .ok (.istore 8, 2) := by decide +kernel
theorem dX10_share_28 : decode cX10_share 28 = .ok (.iload 8, 2) := by decide +kernel
theorem dX10_share_30 : decode cX10_share 30 = .ok (.iload_n 2, 1) := by decide +kernel
theorem dX10_share_31 : decode cX10_share 31 = .ok (.if_icmp .ge 52, 3) := by decide +kernel
theorem dX10_share_34 : decode cX10_share 34 = .ok (.iload 6, 2) := by decide +kernel
theorem dX10_share_36 : decode cX10_share 36 = .ok (.ifCond .le 47, 3) := by decide +kernel
theorem dX10_share_39 : decode cX10_share 39 = .ok (.aload_n 0, 1) := by decide +kernel
theorem dX10_share_40 : decode cX10_share 40 = .ok (.getfield 29, 3) := by decide +kernel
theorem dX10_share_43 : decode cX10_share 43 = .ok (.iload 8, 2) := by decide +kernel
theorem dX10_share_45 : decode cX10_share 45 = .ok (.iaload, 1) := by decide +kernel
theorem dX10_share_46 : decode cX10_share 46 = .ok (.iload_n 3, 1) := by decide +kernel
theorem dX10_share_47 : decode cX10_share 47 = .ok (.if_icmp .ne 30, 3) := by decide +kernel
theorem dX10_share_50 : decode cX10_share 50 = .ok (.aload_n 0, 1) := by decide +kernel
theorem dX10_share_51 : decode cX10_share 51 = .ok (.getfield 54, 3) := by decide +kernel
theorem dX10_share_54 : decode cX10_share 54 = .ok (.iload 8, 2) := by decide +kernel
theorem dX10_share_56 : decode cX10_share 56 = .ok (.iaload, 1) := by decide +kernel
theorem dX10_share_57 : decode cX10_share 57 = .ok (.iload 7, 2) := by decide +kernel
theorem dX10_share_59 : decode cX10_share 59 = .ok (.if_icmp .eq 18, 3) := by decide +kernel
theorem dX10_share_62 : decode cX10_share 62 = .ok (.aload_n 0, 1) := by decide +kernel
theorem dX10_share_63 : decode cX10_share 63 = .ok (.getfield 54, 3) := by decide +kernel
theorem dX10_share_66 : decode cX10_share 66 = .ok (.iload 8, 2) := by decide +kernel
theorem dX10_share_68 : decode cX10_share 68 = .ok (.dup2, 1) := by decide +kernel
theorem dX10_share_69 : decode cX10_share 69 = .ok (.iaload, 1) := by decide +kernel
theorem dX10_share_70 : decode cX10_share 70 = .ok (.iload 5, 2) := by decide +kernel
theorem dX10_share_72 : decode cX10_share 72 = .ok (.iadd, 1) := by decide +kernel
theorem dX10_share_73 : decode cX10_share 73 = .ok (.iastore, 1) := by decide +kernel
theorem dX10_share_74 : decode cX10_share 74 = .ok (.iinc 6 (-1), 3) := by decide +kernel
theorem dX10_share_77 : decode cX10_share 77 = .ok (.iinc 8 1, 3) := by decide +kernel
theorem dX10_share_80 : decode cX10_share 80 = .ok (.goto (-52), 3) := by decide +kernel
theorem dX10_share_83 : decode cX10_share 83 = .ok (.iload 6, 2) := by decide +kernel
theorem dX10_share_85 : decode cX10_share 85 = .ok (.ireturn, 1) := by decide +kernel
theorem dX10_layLine_0 : decode cX10_layLine 0 = .ok (.aload_n 0, 1) := by decide +kernel
theorem dX10_layLine_1 : decode cX10_layLine 1 = .ok (.getfield 48, 3) := by decide +kernel
theorem dX10_layLine_4 : decode cX10_layLine 4 = .ok (.iload_n 1, 1) := by decide +kernel
theorem dX10_layLine_5 : decode cX10_layLine 5 = .ok (.iaload, 1) := by decide +kernel
theorem dX10_layLine_6 : decode cX10_layLine 6 = .ok (.istore_n 2, 1) := by decide +kernel
theorem dX10_layLine_7 : decode cX10_layLine 7 = .ok (.aload_n 0, 1) := by decide +kernel
theorem dX10_layLine_8 : decode cX10_layLine 8 = .ok (.iload_n 1, 1) := by decide +kernel
theorem dX10_layLine_9 : decode cX10_layLine 9 = .ok (.invokevirtual 192, 3) := by decide +kernel
theorem dX10_layLine_12 : decode cX10_layLine 12 = .ok (.istore_n 3, 1) := by decide +kernel
theorem dX10_layLine_13 : decode cX10_layLine 13 = .ok (.iload_n 2, 1) := by decide +kernel
theorem dX10_layLine_14 : decode cX10_layLine 14 = .ok (.istore 4, 2) := by decide +kernel
theorem dX10_layLine_16 : decode cX10_layLine 16 = .ok (.iload 4, 2) := by decide +kernel
theorem dX10_layLine_18 : decode cX10_layLine 18 = .ok (.iload_n 3, 1) := by decide +kernel
theorem dX10_layLine_19 : decode cX10_layLine 19 = .ok (.if_icmp .gt 50, 3) := by decide +kernel
theorem dX10_layLine_22 : decode cX10_layLine 22 = .ok (.aload_n 0, 1) := by decide +kernel
theorem dX10_layLine_23 : decode cX10_layLine 23 = .ok (.getfield 54, 3) := by decide +kernel
theorem dX10_layLine_26 : decode cX10_layLine 26 = .ok (.iload 4, 2) := by decide +kernel
theorem dX10_layLine_28 : decode cX10_layLine 28 = .ok (.iload 4, 2) := by decide +kernel
theorem dX10_layLine_30 : decode cX10_layLine 30 = .ok (.iload_n 3, 1) := by decide +kernel
theorem dX10_layLine_31 : decode cX10_layLine 31 = .ok (.if_icmp .ge 22, 3) := by decide +kernel
theorem dX10_layLine_34 : decode cX10_layLine 34 = .ok (.aload_n 0, 1) := by decide +kernel
theorem dX10_layLine_35 : decode cX10_layLine 35 = .ok (.getfield 19, 3) := by decide +kernel
theorem dX10_layLine_38 : decode cX10_layLine 38 = .ok (.iconst 3, 1) := by decide +kernel
theorem dX10_layLine_39 : decode cX10_layLine 39 = .ok (.aload_n 0, 1) := by decide +kernel
theorem dX10_layLine_40 : decode cX10_layLine 40 = .ok (.getfield 29, 3) := by decide +kernel
theorem dX10_layLine_43 : decode cX10_layLine 43 = .ok (.iload 4, 2) := by decide +kernel
theorem dX10_layLine_45 : decode cX10_layLine 45 = .ok (.iaload, 1) := by decide +kernel
theorem dX10_layLine_46 : decode cX10_layLine 46 = .ok (.imul, 1) := by decide +kernel
theorem dX10_layLine_47 : decode cX10_layLine 47 = .ok (.iconst 1, 1) := by decide +kernel
theorem dX10_layLine_48 : decode cX10_layLine 48 = .ok (.iadd, 1) := by decide +kernel
theorem dX10_layLine_49 : decode cX10_layLine 49 = .ok (.iaload, 1) := by decide +kernel
theorem dX10_layLine_50 : decode cX10_layLine 50 = .ok (.goto 4, 3) := by decide +kernel
theorem dX10_layLine_53 : decode cX10_layLine 53 = .ok (.iconst 0, 1) := by decide +kernel
theorem dX10_layLine_54 : decode cX10_layLine 54 = .ok (.iastore, 1) := by decide +kernel
theorem dX10_layLine_55 : decode cX10_layLine 55 = .ok (.aload_n 0, 1) := by decide +kernel
theorem dX10_layLine_56 : decode cX10_layLine 56 = .ok (.getfield 60, 3) := by decide +kernel
theorem dX10_layLine_59 : decode cX10_layLine 59 = .ok (.iload 4, 2) := by decide +kernel
theorem dX10_layLine_61 : decode cX10_layLine 61 = .ok (.iload_n 1, 1) := by decide +kernel
theorem dX10_layLine_62 : decode cX10_layLine 62 = .ok (.iastore, 1) := by decide +kernel
theorem dX10_layLine_63 : decode cX10_layLine 63 = .ok (.iinc 4 1, 3) := by decide +kernel
theorem dX10_layLine_66 : decode cX10_layLine 66 = .ok (.goto (-50), 3) := by decide +kernel
theorem dX10_layLine_69 : decode cX10_layLine 69 = .ok (.aload_n 0, 1) := by decide +kernel
theorem dX10_layLine_70 : decode cX10_layLine 70 = .ok (.iload_n 2, 1) := by decide +kernel
theorem dX10_layLine_71 : decode cX10_layLine 71 = .ok (.iload_n 3, 1) := by decide +kernel
theorem dX10_layLine_72 : decode cX10_layLine 72 = .ok (.invokevirtual 163, 3) := by decide +kernel
theorem dX10_layLine_75 : decode cX10_layLine 75 = .ok (.istore 4, 2) := by decide +kernel
theorem dX10_layLine_77 : decode cX10_layLine 77 = .ok (.iload 4, 2) := by decide +kernel
theorem dX10_layLine_79 : decode cX10_layLine 79 = .ok (.ifCond .ge 9, 3) := by decide +kernel
theorem dX10_layLine_82 : decode cX10_layLine 82 = .ok (.iload 4, 2) := by decide +kernel
theorem dX10_layLine_84 : decode cX10_layLine 84 = .ok (.ineg, 1) := by decide +kernel
theorem dX10_layLine_85 : decode cX10_layLine 85 = .ok (.goto 17, 3) := by decide +kernel
theorem dX10_layLine_88 : decode cX10_layLine 88 = .ok (.aload_n 0, 1) := by decide +kernel
theorem dX10_layLine_89 : decode cX10_layLine 89 = .ok (.iload_n 3, 1) := by decide +kernel
theorem dX10_layLine_90 : decode cX10_layLine 90 = .ok (.invokevirtual 166, 3) := by decide +kernel
theorem dX10_layLine_93 : decode cX10_layLine 93 = .ok (.ifCond .eq 7, 3) := by decide +kernel
theorem dX10_layLine_96 : decode cX10_layLine 96 = .ok (.iconst 0, 1) := by decide +kernel
theorem dX10_layLine_97 : decode cX10_layLine 97 = .ok (.goto 5, 3) := by decide +kernel
theorem dX10_layLine_100 : decode cX10_layLine 100 = .ok (.iload 4, 2) := by decide +kernel
theorem dX10_layLine_102 : decode cX10_layLine 102 = .ok (.istore 5, 2) := by decide +kernel
theorem dX10_layLine_104 : decode cX10_layLine 104 = .ok (.iload 4, 2) := by decide +kernel
theorem dX10_layLine_106 : decode cX10_layLine 106 = .ok (.ifCond .ge 7, 3) := by decide +kernel
theorem dX10_layLine_109 : decode cX10_layLine 109 = .ok (.iconst (-1), 1) := by decide +kernel
theorem dX10_layLine_110 : decode cX10_layLine 110 = .ok (.goto 4, 3) := by decide +kernel
theorem dX10_layLine_113 : decode cX10_layLine 113 = .ok (.iconst 1, 1) := by decide +kernel
theorem dX10_layLine_114 : decode cX10_layLine 114 = .ok (.istore 6, 2) := by decide +kernel
theorem dX10_layLine_116 : decode cX10_layLine 116 = .ok (.iload 5, 2) := by decide +kernel
theorem dX10_layLine_118 : decode cX10_layLine 118 = .ok (.ifCond .le 63, 3) := by decide +kernel
theorem dX10_layLine_121 : decode cX10_layLine 121 = .ok (.aload_n 0, 1) := by decide +kernel
theorem dX10_layLine_122 : decode cX10_layLine 122 = .ok (.iload_n 2, 1) := by decide +kernel
theorem dX10_layLine_123 : decode cX10_layLine 123 = .ok (.iload_n 3, 1) := by decide +kernel
theorem dX10_layLine_124 : decode cX10_layLine 124 = .ok (.iload 4, 2) := by decide +kernel
theorem dX10_layLine_126 : decode cX10_layLine 126 = .ok (.ifCond .ge 7, 3) := by decide +kernel
theorem dX10_layLine_129 : decode cX10_layLine 129 = .ok (.iconst 1, 1) := by decide +kernel
theorem dX10_layLine_130 : decode cX10_layLine 130 = .ok (.goto 4, 3) := by decide +kernel
theorem dX10_layLine_133 : decode cX10_layLine 133 = .ok (.iconst 2, 1) := by decide +kernel
theorem dX10_layLine_134 : decode cX10_layLine 134 = .ok (.iload 5, 2) := by decide +kernel
theorem dX10_layLine_136 : decode cX10_layLine 136 = .ok (.iload 6, 2) := by decide +kernel
theorem dX10_layLine_138 : decode cX10_layLine 138 = .ok (.invokevirtual 208, 3) := by decide +kernel
theorem dX10_layLine_141 : decode cX10_layLine 141 = .ok (.istore 5, 2) := by decide +kernel
theorem dX10_layLine_143 : decode cX10_layLine 143 = .ok (.aload_n 0, 1) := by decide +kernel
theorem dX10_layLine_144 : decode cX10_layLine 144 = .ok (.iload_n 2, 1) := by decide +kernel
theorem dX10_layLine_145 : decode cX10_layLine 145 = .ok (.iload_n 3, 1) := by decide +kernel
theorem dX10_layLine_146 : decode cX10_layLine 146 = .ok (.iload 4, 2) := by decide +kernel
theorem dX10_layLine_148 : decode cX10_layLine 148 = .ok (.ifCond .ge 7, 3) := by decide +kernel
theorem dX10_layLine_151 : decode cX10_layLine 151 = .ok (.iconst 2, 1) := by decide +kernel
theorem dX10_layLine_152 : decode cX10_layLine 152 = .ok (.goto 4, 3) := by decide +kernel
theorem dX10_layLine_155 : decode cX10_layLine 155 = .ok (.iconst 1, 1) := by decide +kernel
theorem dX10_layLine_156 : decode cX10_layLine 156 = .ok (.iload 5, 2) := by decide +kernel
theorem dX10_layLine_158 : decode cX10_layLine 158 = .ok (.iload 6, 2) := by decide +kernel
theorem dX10_layLine_160 : decode cX10_layLine 160 = .ok (.invokevirtual 208, 3) := by decide +kernel
theorem dX10_layLine_163 : decode cX10_layLine 163 = .ok (.istore 5, 2) := by decide +kernel
theorem dX10_layLine_165 : decode cX10_layLine 165 = .ok (.aload_n 0, 1) := by decide +kernel
theorem dX10_layLine_166 : decode cX10_layLine 166 = .ok (.iload_n 2, 1) := by decide +kernel
theorem dX10_layLine_167 : decode cX10_layLine 167 = .ok (.iload_n 3, 1) := by decide +kernel
theorem dX10_layLine_168 : decode cX10_layLine 168 = .ok (.iconst 0, 1) := by decide +kernel
theorem dX10_layLine_169 : decode cX10_layLine 169 = .ok (.iload 5, 2) := by decide +kernel
theorem dX10_layLine_171 : decode cX10_layLine 171 = .ok (.iload 6, 2) := by decide +kernel
theorem dX10_layLine_173 : decode cX10_layLine 173 = .ok (.invokevirtual 208, 3) := by decide +kernel
theorem dX10_layLine_176 : decode cX10_layLine 176 = .ok (.istore 5, 2) := by decide +kernel
theorem dX10_layLine_178 : decode cX10_layLine 178 = .ok (.goto (-62), 3) := by decide +kernel
theorem dX10_layLine_181 : decode cX10_layLine 181 = .ok (.aload_n 0, 1) := by decide +kernel
theorem dX10_layLine_182 : decode cX10_layLine 182 = .ok (.iload_n 2, 1) := by decide +kernel
theorem dX10_layLine_183 : decode cX10_layLine 183 = .ok (.invokevirtual 154, 3) := by decide +kernel
theorem dX10_layLine_186 : decode cX10_layLine 186 = .ok (.ineg, 1) := by decide +kernel
theorem dX10_layLine_187 : decode cX10_layLine 187 = .ok (.istore 7, 2) := by decide +kernel
theorem dX10_layLine_189 : decode cX10_layLine 189 = .ok (.iload_n 2, 1) := by decide +kernel
theorem dX10_layLine_190 : decode cX10_layLine 190 = .ok (.istore 8, 2) := by decide +kernel
theorem dX10_layLine_192 : decode cX10_layLine 192 = .ok (.iload 8, 2) := by decide +kernel
theorem dX10_layLine_194 : decode cX10_layLine 194 = .ok (.iload_n 3, 1) := by decide +kernel
theorem dX10_layLine_195 : decode cX10_layLine 195 = .ok (.if_icmp .gt 38, 3) := by decide +kernel
theorem dX10_layLine_198 : decode cX10_layLine 198 = .ok (.aload_n 0, 1) := by decide +kernel
theorem dX10_layLine_199 : decode cX10_layLine 199 = .ok (.getfield 51, 3) := by decide +kernel
theorem dX10_layLine_202 : decode cX10_layLine 202 = .ok (.iload 8, 2) := by decide +kernel
theorem dX10_layLine_204 : decode cX10_layLine 204 = .ok (.iload 7, 2) := by decide +kernel
theorem dX10_layLine_206 : decode cX10_layLine 206 = .ok (.iastore, 1) := by decide +kernel
theorem dX10_layLine_207 : decode cX10_layLine 207 = .ok (.iload 7, 2) := by decide +kernel
theorem dX10_layLine_209 : decode cX10_layLine 209 = .ok (.aload_n 0, 1) := by decide +kernel
theorem dX10_layLine_210 : decode cX10_layLine 210 = .ok (.getfield 23, 3) := by decide +kernel
theorem dX10_layLine_213 : decode cX10_layLine 213 = .ok (.iload 8, 2) := by decide +kernel
theorem dX10_layLine_215 : decode cX10_layLine 215 = .ok (.iaload, 1) := by decide +kernel
theorem dX10_layLine_216 : decode cX10_layLine 216 = .ok (.aload_n 0, 1) := by decide +kernel
theorem dX10_layLine_217 : decode cX10_layLine 217 = .ok (.getfield 54, 3) := by decide +kernel
theorem dX10_layLine_220 : decode cX10_layLine 220 = .ok (.iload 8, 2) := by decide +kernel
theorem dX10_layLine_222 : decode cX10_layLine 222 = .ok (.iaload, 1) := by decide +kernel
theorem dX10_layLine_223 : decode cX10_layLine 223 = .ok (.iadd, 1) := by decide +kernel
theorem dX10_layLine_224 : decode cX10_layLine 224 = .ok (.iadd, 1) := by decide +kernel
theorem dX10_layLine_225 : decode cX10_layLine 225 = .ok (.istore 7, 2) := by decide +kernel
theorem dX10_layLine_227 : decode cX10_layLine 227 = .ok (.iinc 8 1, 3) := by decide +kernel
theorem dX10_layLine_230 : decode cX10_layLine 230 = .ok (.goto (-38), 3) := by decide +kernel
theorem dX10_layLine_233 : decode cX10_layLine 233 = .ok (.return_, 1) := by decide +kernel
theorem dX10_spaceBegin_0 : decode cX10_spaceBegin 0 = .ok (.aload_n 0, 1) := by decide +kernel
theorem dX10_spaceBegin_1 : decode cX10_spaceBegin 1 = .ok (.getfield 51, 3) := by decide +kernel
theorem dX10_spaceBegin_4 : decode cX10_spaceBegin 4 = .ok (.iload_n 1, 1) := by decide +kernel
theorem dX10_spaceBegin_5 : decode cX10_spaceBegin 5 = .ok (.iaload, 1) := by decide +kernel
theorem dX10_spaceBegin_6 : decode cX10_spaceBegin 6 = .ok (.aload_n 0, 1) := by decide +kernel
theorem dX10_spaceBegin_7 : decode cX10_spaceBegin 7 = .ok (.getfield 23, 3) := by decide +kernel
theorem dX10_spaceBegin_10 : decode cX10_spaceBegin 10 = .ok (.iload_n 1, 1) := by decide +kernel
theorem dX10_spaceBegin_11 : decode cX10_spaceBegin 11 = .ok (.iaload, 1) := by decide +kernel
theorem dX10_spaceBegin_12 : decode cX10_spaceBegin 12 = .ok (.iadd, 1) := by decide +kernel
theorem dX10_spaceBegin_13 : decode cX10_spaceBegin 13 = .ok (.ireturn, 1) := by decide +kernel
theorem dX10_middle_0 : decode cX10_middle 0 = .ok (.iconst 2, 1) := by decide +kernel
theorem dX10_middle_1 : decode cX10_middle 1 = .ok (.aload_n 0, 1) := by decide +kernel
theorem dX10_middle_2 : decode cX10_middle 2 = .ok (.iload_n 1, 1) := by decide +kernel
theorem dX10_middle_3 : decode cX10_middle 3 = .ok (.invokevirtual 212, 3) := by decide +kernel
theorem dX10_middle_6 : decode cX10_middle 6 = .ok (.imul, 1) := by decide +kernel
theorem dX10_middle_7 : decode cX10_middle 7 = .ok (.aload_n 0, 1) := by decide +kernel
theorem dX10_middle_8 : decode cX10_middle 8 = .ok (.getfield 54, 3) := by decide +kernel
theorem dX10_middle_11 : decode cX10_middle 11 = .ok (.iload_n 1, 1) := by decide +kernel
theorem dX10_middle_12 : decode cX10_middle 12 = .ok (.iaload, 1) := by decide +kernel
theorem dX10_middle_13 : decode cX10_middle 13 = .ok (.iadd, 1) := by decide +kernel
theorem dX10_middle_14 : decode cX10_middle 14 = .ok (.ireturn, 1) := by decide +kernel
theorem dX10_hasSpace_0 : decode cX10_hasSpace 0 = .ok (.iload_n 1, 1) := by decide +kernel
theorem dX10_hasSpace_1 : decode cX10_hasSpace 1 = .ok (.aload_n 0, 1) := by decide +kernel
theorem dX10_hasSpace_2 : decode cX10_hasSpace 2 = .ok (.aload_n 0, 1) := by decide +kernel
theorem dX10_hasSpace_3 : decode cX10_hasSpace 3 = .ok (.getfield 60, 3) := by decide +kernel
theorem dX10_hasSpace_6 : decode cX10_hasSpace 6 = .ok (.iload_n 1, 1) := by decide +kernel
theorem dX10_hasSpace_7 : decode cX10_hasSpace 7 = .ok (.iaload, 1) := by decide +kernel
theorem dX10_hasSpace_8 : decode cX10_hasSpace 8 = .ok (.invokevirtual 192, 3) := by decide +kernel
theorem dX10_hasSpace_11 : decode cX10_hasSpace 11 = .ok (.if_icmp .ge 7, 3) := by decide +kernel
theorem dX10_hasSpace_14 : decode cX10_hasSpace 14 = .ok (.iconst 1, 1) := by decide +kernel
theorem dX10_hasSpace_15 : decode cX10_hasSpace 15 = .ok (.goto 4, 3) := by decide +kernel
theorem dX10_hasSpace_18 : decode cX10_hasSpace 18 = .ok (.iconst 0, 1) := by decide +kernel
theorem dX10_hasSpace_19 : decode cX10_hasSpace 19 = .ok (.ireturn, 1) := by decide +kernel
theorem dX10_areNear_0 : decode cX10_areNear 0 = .ok (.aload_n 0, 1) := by decide +kernel
theorem dX10_areNear_1 : decode cX10_areNear 1 = .ok (.iload_n 1, 1) := by decide +kernel
theorem dX10_areNear_2 : decode cX10_areNear 2 = .ok (.invokevirtual 215, 3) := by decide +kernel
theorem dX10_areNear_5 : decode cX10_areNear 5 = .ok (.ifCond .eq 45, 3) := by decide +kernel
theorem dX10_areNear_8 : decode cX10_areNear 8 = .ok (.aload_n 0, 1) := by decide +kernel
theorem dX10_areNear_9 : decode cX10_areNear 9 = .ok (.iload_n 2, 1) := by decide +kernel
theorem dX10_areNear_10 : decode cX10_areNear 10 = .ok (.invokevirtual 215, 3) := by decide +kernel
theorem dX10_areNear_13 : decode cX10_areNear 13 = .ok (.ifCond .eq 37, 3) := by decide +kernel
theorem dX10_areNear_16 : decode cX10_areNear 16 = .ok (.aload_n 0, 1) := by decide +kernel
theorem dX10_areNear_17 : decode cX10_areNear 17 = .ok (.iload_n 1, 1) := by decide +kernel
theorem dX10_areNear_18 : decode cX10_areNear 18 = .ok (.invokevirtual 218, 3) := by decide +kernel
theorem dX10_areNear_21 : decode cX10_areNear 21 = .ok (.aload_n 0, 1) := by decide +kernel
theorem dX10_areNear_22 : decode cX10_areNear 22 = .ok (.iload_n 2, 1) := by decide +kernel
theorem dX10_areNear_23 : decode cX10_areNear 23 = .ok (.invokevirtual 218, 3) := by decide +kernel
theorem dX10_areNear_26 : decode cX10_areNear 26 = .ok (.isub, 1) := by decide +kernel
theorem dX10_areNear_27 : decode cX10_areNear 27 = .ok (.bipush (-2), 2) := by decide +kernel
theorem dX10_areNear_29 : decode cX10_areNear 29 = .ok (.aload_n 0, 1) := by decide +kernel
theorem dX10_areNear_30 : decode cX10_areNear 30 = .ok (.getfield 16, 3) := by decide +kernel
theorem dX10_areNear_33 : decode cX10_areNear 33 = .ok (.imul, 1) := by decide +kernel
theorem dX10_areNear_34 : decode cX10_areNear 34 = .ok (.iconst 2, 1) := by decide +kernel
theorem dX10_areNear_35 : decode cX10_areNear 35 = .ok (.aload_n 0, 1) := by decide +kernel
theorem dX10_areNear_36 : decode cX10_areNear 36 = .ok (.getfield 16, 3) := by decide +kernel
theorem dX10_areNear_39 : decode cX10_areNear 39 = .ok (.imul, 1) := by decide +kernel
theorem dX10_areNear_40 : decode cX10_areNear 40 = .ok (.invokestatic 69, 3) := by decide +kernel
theorem dX10_areNear_43 : decode cX10_areNear 43 = .ok (.ifCond .eq 7, 3) := by decide +kernel
theorem dX10_areNear_46 : decode cX10_areNear 46 = .ok (.iconst 1, 1) := by decide +kernel
theorem dX10_areNear_47 : decode cX10_areNear 47 = .ok (.goto 4, 3) := by decide +kernel
theorem dX10_areNear_50 : decode cX10_areNear 50 = .ok (.iconst 0, 1) := by decide +kernel
theorem dX10_areNear_51 : decode cX10_areNear 51 = .ok (.ireturn, 1) := by decide +kernel
theorem dX10_above_0 : decode cX10_above 0 = .ok (.aload_n 0, 1) := by decide +kernel
theorem dX10_above_1 : decode cX10_above 1 = .ok (.getfield 60, 3) := by decide +kernel
theorem dX10_above_4 : decode cX10_above 4 = .ok (.iload_n 1, 1) := by decide +kernel
theorem dX10_above_5 : decode cX10_above 5 = .ok (.iaload, 1) := by decide +kernel
theorem dX10_above_6 : decode cX10_above 6 = .ok (.istore_n 2, 1) := by decide +kernel
theorem dX10_above_7 : decode cX10_above 7 = .ok (.iconst (-1), 1) := by decide +kernel
theorem dX10_above_8 : decode cX10_above 8 = .ok (.istore_n 3, 1) := by decide +kernel
theorem dX10_above_9 : decode cX10_above 9 = .ok (.iload_n 2, 1) := by decide +kernel
theorem dX10_above_10 : decode cX10_above 10 = .ok (.ifCond .ne 10, 3) := by decide +kernel
theorem dX10_above_13 : decode cX10_above 13 = .ok (.aload_n 0, 1) := by decide +kernel
theorem dX10_above_14 : decode cX10_above 14 = .ok (.getfield 90, 3) := by decide +kernel
theorem dX10_above_17 : decode cX10_above 17 = .ok (.goto 11, 3) := by decide +kernel
theorem dX10_above_20 : decode cX10_above 20 = .ok (.aload_n 0, 1) := by decide +kernel
theorem dX10_above_21 : decode cX10_above 21 = .ok (.getfield 48, 3) := by decide +kernel
theorem dX10_above_24 : decode cX10_above 24 = .ok (.iload_n 2, 1) := by decide +kernel
theorem dX10_above_25 : decode cX10_above 25 = .ok (.iconst 1, 1) := by decide +kernel
theorem dX10_above_26 : decode cX10_above 26 = .ok (.isub, 1) := by decide +kernel
theorem dX10_above_27 : decode cX10_above 27 = .ok (.iaload, 1) := by decide +kernel
theorem dX10_above_28 : decode cX10_above 28 = .ok (.istore 4, 2) := by decide +kernel
theorem dX10_above_30 : decode cX10_above 30 = .ok (.iload 4, 2) := by decide +kernel
theorem dX10_above_32 : decode cX10_above 32 = .ok (.aload_n 0, 1) := by decide +kernel
theorem dX10_above_33 : decode cX10_above 33 = .ok (.getfield 48, 3) := by decide +kernel
theorem dX10_above_36 : decode cX10_above 36 = .ok (.iload_n 2, 1) := by decide +kernel
theorem dX10_above_37 : decode cX10_above 37 = .ok (.iaload, 1) := by decide +kernel
theorem dX10_above_38 : decode cX10_above 38 = .ok (.if_icmp .ge 46, 3) := by decide +kernel
theorem dX10_above_41 : decode cX10_above 41 = .ok (.aload_n 0, 1) := by decide +kernel
theorem dX10_above_42 : decode cX10_above 42 = .ok (.iload_n 1, 1) := by decide +kernel
theorem dX10_above_43 : decode cX10_above 43 = .ok (.iload 4, 2) := by decide +kernel
theorem dX10_above_45 : decode cX10_above 45 = .ok (.invokevirtual 221, 3) := by decide +kernel
theorem dX10_above_48 : decode cX10_above 48 = .ok (.ifCond .eq 28, 3) := by decide +kernel
theorem dX10_above_51 : decode cX10_above 51 = .ok (.iload_n 3, 1) := by decide +kernel
theorem dX10_above_52 : decode cX10_above 52 = .ok (.ifCond .lt 19, 3) := by decide +kernel
theorem dX10_above_55 : decode cX10_above 55 = .ok (.aload_n 0, 1) := by decide +kernel
theorem dX10_above_56 : decode cX10_above 56 = .ok (.getfield 57, 3) := by decide +kernel
theorem dX10_above_59 : decode cX10_above 59 = .ok (.iload 4, 2) := by decide +kernel
theorem dX10_above_61 : decode cX10_above 61 = .ok (.iaload, 1) := by decide +kernel
theorem dX10_above_62 : decode cX10_above 62 = .ok (.aload_n 0, 1) := by decide +kernel
theorem dX10_above_63 : decode cX10_above 63 = .ok (.getfield 57, 3) := by decide +kernel
theorem dX10_above_66 : decode cX10_above 66 = .ok (.iload_n 3, 1) := by decide +kernel
theorem dX10_above_67 : decode cX10_above 67 = .ok (.iaload, 1) := by decide +kernel
theorem dX10_above_68 : decode cX10_above 68 = .ok (.if_icmp .le 8, 3) := by decide +kernel
theorem dX10_above_71 : decode cX10_above 71 = .ok (.iload 4, 2) := by decide +kernel
theorem dX10_above_73 : decode cX10_above 73 = .ok (.goto 4, 3) := by decide +kernel
theorem dX10_above_76 : decode cX10_above 76 = .ok (.iload_n 3, 1) := by decide +kernel
theorem dX10_above_77 : decode cX10_above 77 = .ok (.istore_n 3, 1) := by decide +kernel
theorem dX10_above_78 : decode cX10_above 78 = .ok (.iinc 4 1, 3) := by decide +kernel
theorem dX10_above_81 : decode cX10_above 81 = .ok (.goto (-51), 3) := by decide +kernel
theorem dX10_above_84 : decode cX10_above 84 = .ok (.iload_n 3, 1) := by decide +kernel
theorem dX10_above_85 : decode cX10_above 85 = .ok (.ireturn, 1) := by decide +kernel
theorem dX10_hasBelow_0 : decode cX10_hasBelow 0 = .ok (.aload_n 0, 1) := by decide +kernel
theorem dX10_hasBelow_1 : decode cX10_hasBelow 1 = .ok (.getfield 60, 3) := by decide +kernel
theorem dX10_hasBelow_4 : decode cX10_hasBelow 4 = .ok (.iload_n 1, 1) := by decide +kernel
theorem dX10_hasBelow_5 : decode cX10_hasBelow 5 = .ok (.iaload, 1) := by decide +kernel
theorem dX10_hasBelow_6 : decode cX10_hasBelow 6 = .ok (.istore_n 2, 1) := by decide +kernel
theorem dX10_hasBelow_7 : decode cX10_hasBelow 7 = .ok (.iconst 0, 1) := by decide +kernel
theorem dX10_hasBelow_8 : decode cX10_hasBelow 8 = .ok (.istore_n 3, 1) := by decide +kernel
theorem dX10_hasBelow_9 : decode cX10_hasBelow 9 = .ok (.aload_n 0, 1) := by decide +kernel
theorem dX10_hasBelow_10 : decode cX10_hasBelow 10 = .ok (.getfield 48, 3) := by decide +kernel
theorem dX10_hasBelow_13 : decode cX10_hasBelow 13 = .ok (.iload_n 2, 1) := by decide +kernel
theorem dX10_hasBelow_14 : decode cX10_hasBelow 14 = .ok (.iconst 1, 1) := by decide +kernel
theorem dX10_hasBelow_15 : decode cX10_hasBelow 15 = .ok (.iadd, 1) := by decide +kernel
theorem dX10_hasBelow_16 : decode cX10_hasBelow 16 = .ok (.iaload, 1) := by decide +kernel
theorem dX10_hasBelow_17 : decode cX10_hasBelow 17 = .ok (.istore 4, 2) := by decide +kernel
theorem dX10_hasBelow_19 : decode cX10_hasBelow 19 = .ok (.iload_n 2, 1) := by decide +kernel
theorem dX10_hasBelow_20 : decode cX10_hasBelow 20 = .ok (.iconst 1, 1) := by decide +kernel
theorem dX10_hasBelow_21 : decode cX10_hasBelow 21 = .ok (.iadd, 1) := by decide +kernel
theorem dX10_hasBelow_22 : decode cX10_hasBelow 22 = .ok (.aload_n 0, 1) := by decide +kernel
theorem dX10_hasBelow_23 : decode cX10_hasBelow 23 = .ok (.getfield 147, 3) := by decide +kernel
theorem dX10_hasBelow_26 : decode cX10_hasBelow 26 = .ok (.if_icmp .ge 42, 3) := by decide +kernel
theorem dX10_hasBelow_29 : decode cX10_hasBelow 29 = .ok (.iload 4, 2) := by decide +kernel
theorem dX10_hasBelow_31 : decode cX10_hasBelow 31 = .ok (.aload_n 0, 1) := by decide +kernel
theorem dX10_hasBelow_32 : decode cX10_hasBelow 32 = .ok (.getfield 48, 3) := by decide +kernel
theorem dX10_hasBelow_35 : decode cX10_hasBelow 35 = .ok (.iload_n 2, 1) := by decide +kernel
theorem dX10_hasBelow_36 : decode cX10_hasBelow 36 = .ok (.iconst 2, 1) := by decide +kernel
theorem dX10_hasBelow_37 : decode cX10_hasBelow 37 = .ok (.iadd, 1) := by decide +kernel
theorem dX10_hasBelow_38 : decode cX10_hasBelow 38 = .ok (.iaload, 1) := by decide +kernel
theorem dX10_hasBelow_39 : decode cX10_hasBelow 39 = .ok (.if_icmp .ge 29, 3) := by decide +kernel
theorem dX10_hasBelow_42 : decode cX10_hasBelow 42 = .ok (.iload_n 3, 1) := by decide +kernel
theorem dX10_hasBelow_43 : decode cX10_hasBelow 43 = .ok (.ifCond .ne 13, 3) := by decide +kernel
theorem dX10_hasBelow_46 : decode cX10_hasBelow 46 = .ok (.aload_n 0, 1) := by decide +kernel
theorem dX10_hasBelow_47 : decode cX10_hasBelow 47 = .ok (.iload_n 1, 1) := by decide +kernel
theorem dX10_hasBelow_48 : decode cX10_hasBelow 48 = .ok (.iload 4, 2) := by decide +kernel
theorem dX10_hasBelow_50 : decode cX10_hasBelow 50 = .ok (.invokevirtual 221, 3) := by decide +kernel
theorem dX10_hasBelow_53 : decode cX10_hasBelow 53 = .ok (.ifCond .eq 7, 3) := by decide +kernel
theorem dX10_hasBelow_56 : decode cX10_hasBelow 56 = .ok (.iconst 1, 1) := by decide +kernel
theorem dX10_hasBelow_57 : decode cX10_hasBelow 57 = .ok (.goto 4, 3) := by decide +kernel
theorem dX10_hasBelow_60 : decode cX10_hasBelow 60 = .ok (.iconst 0, 1) := by decide +kernel
theorem dX10_hasBelow_61 : decode cX10_hasBelow 61 = .ok (.istore_n 3, 1) := by decide +kernel
theorem dX10_hasBelow_62 : decode cX10_hasBelow 62 = .ok (.iinc 4 1, 3) := by decide +kernel
theorem dX10_hasBelow_65 : decode cX10_hasBelow 65 = .ok (.goto (-46), 3) := by decide +kernel
theorem dX10_hasBelow_68 : decode cX10_hasBelow 68 = .ok (.iload_n 3, 1) := by decide +kernel
theorem dX10_hasBelow_69 : decode cX10_hasBelow 69 = .ok (.ireturn, 1) := by decide +kernel
theorem dX10_layOut_0 : decode cX10_layOut 0 = .ok (.iconst 0, 1) := by decide +kernel
theorem dX10_layOut_1 : decode cX10_layOut 1 = .ok (.istore_n 1, 1) := by decide +kernel
theorem dX10_layOut_2 : decode cX10_layOut 2 = .ok (.iload_n 1, 1) := by decide +kernel
theorem dX10_layOut_3 : decode cX10_layOut 3 = .ok (.aload_n 0, 1) := by decide +kernel
theorem dX10_layOut_4 : decode cX10_layOut 4 = .ok (.getfield 147, 3) := by decide +kernel
theorem dX10_layOut_7 : decode cX10_layOut 7 = .ok (.if_icmp .ge 14, 3) := by decide +kernel
theorem dX10_layOut_10 : decode cX10_layOut 10 = .ok (.aload_n 0, 1) := by decide +kernel
theorem dX10_layOut_11 : decode cX10_layOut 11 = .ok (.iload_n 1, 1) := by decide +kernel
theorem dX10_layOut_12 : decode cX10_layOut 12 = .ok (.invokevirtual 224, 3) := by decide +kernel
theorem dX10_layOut_15 : decode cX10_layOut 15 = .ok (.iinc 1 1, 3) := by decide +kernel
theorem dX10_layOut_18 : decode cX10_layOut 18 = .ok (.goto (-16), 3) := by decide +kernel
theorem dX10_layOut_21 : decode cX10_layOut 21 = .ok (.iconst 0, 1) := by decide +kernel
theorem dX10_layOut_22 : decode cX10_layOut 22 = .ok (.istore_n 1, 1) := by decide +kernel
theorem dX10_layOut_23 : decode cX10_layOut 23 = .ok (.iload_n 1, 1) := by decide +kernel
theorem dX10_layOut_24 : decode cX10_layOut 24 = .ok (.aload_n 0, 1) := by decide +kernel
theorem dX10_layOut_25 : decode cX10_layOut 25 = .ok (.getfield 90, 3) := by decide +kernel
theorem dX10_layOut_28 : decode cX10_layOut 28 = .ok (.if_icmp .ge 61, 3) := by decide +kernel
theorem dX10_layOut_31 : decode cX10_layOut 31 = .ok (.aload_n 0, 1) := by decide +kernel
theorem dX10_layOut_32 : decode cX10_layOut 32 = .ok (.iload_n 1, 1) := by decide +kernel
theorem dX10_layOut_33 : decode cX10_layOut 33 = .ok (.invokevirtual 215, 3) := by decide +kernel
theorem dX10_layOut_36 : decode cX10_layOut 36 = .ok (.ifCond .eq 11, 3) := by decide +kernel
theorem dX10_layOut_39 : decode cX10_layOut 39 = .ok (.aload_n 0, 1) := by decide +kernel
theorem dX10_layOut_40 : decode cX10_layOut 40 = .ok (.iload_n 1, 1) := by decide +kernel
theorem dX10_layOut_41 : decode cX10_layOut 41 = .ok (.invokevirtual 227, 3) := by decide +kernel
theorem dX10_layOut_44 : decode cX10_layOut 44 = .ok (.goto 4, 3) := by decide +kernel
theorem dX10_layOut_47 : decode cX10_layOut 47 = .ok (.iconst (-1), 1) := by decide +kernel
theorem dX10_layOut_48 : decode cX10_layOut 48 = .ok (.istore_n 2, 1) := by decide +kernel
theorem dX10_layOut_49 : decode cX10_layOut 49 = .ok (.aload_n 0, 1) := by decide +kernel
theorem dX10_layOut_50 : decode cX10_layOut 50 = .ok (.getfield 57, 3) := by decide +kernel
theorem dX10_layOut_53 : decode cX10_layOut 53 = .ok (.iload_n 1, 1) := by decide +kernel
theorem dX10_layOut_54 : decode cX10_layOut 54 = .ok (.aload_n 0, 1) := by decide +kernel
theorem dX10_layOut_55 : decode cX10_layOut 55 = .ok (.iload_n 1, 1) := by decide +kernel
theorem dX10_layOut_56 : decode cX10_layOut 56 = .ok (.invokevirtual 215, 3) := by decide +kernel
theorem dX10_layOut_59 : decode cX10_layOut 59 = .ok (.ifCond .ne 7, 3) := by decide +kernel
theorem dX10_layOut_62 : decode cX10_layOut 62 = .ok (.iconst 0, 1) := by decide +kernel
theorem dX10_layOut_63 : decode cX10_layOut 63 = .ok (.goto 19, 3) := by decide +kernel
theorem dX10_layOut_66 : decode cX10_layOut 66 = .ok (.iload_n 2, 1) := by decide +kernel
theorem dX10_layOut_67 : decode cX10_layOut 67 = .ok (.ifCond .ge 7, 3) := by decide +kernel
theorem dX10_layOut_70 : decode cX10_layOut 70 = .ok (.iconst 1, 1) := by decide +kernel
theorem dX10_layOut_71 : decode cX10_layOut 71 = .ok (.goto 11, 3) := by decide +kernel
theorem dX10_layOut_74 : decode cX10_layOut 74 = .ok (.aload_n 0, 1) := by decide +kernel
theorem dX10_layOut_75 : decode cX10_layOut 75 = .ok (.getfield 57, 3) := by decide +kernel
theorem dX10_layOut_78 : decode cX10_layOut 78 = .ok (.iload_n 2, 1) := by decide +kernel
theorem dX10_layOut_79 : decode cX10_layOut 79 = .ok (.iaload, 1) := by decide +kernel
theorem dX10_layOut_80 : decode cX10_layOut 80 = .ok (.iconst 1, 1) := by decide +kernel
theorem dX10_layOut_81 : decode cX10_layOut 81 = .ok (.iadd, 1) := by decide +kernel
theorem dX10_layOut_82 : decode cX10_layOut 82 = .ok (.iastore, 1) := by decide +kernel
theorem dX10_layOut_83 : decode cX10_layOut 83 = .ok (.iinc 1 1, 3) := by decide +kernel
theorem dX10_layOut_86 : decode cX10_layOut 86 = .ok (.goto (-63), 3) := by decide +kernel
theorem dX10_layOut_89 : decode cX10_layOut 89 = .ok (.return_, 1) := by decide +kernel
theorem dX10_ends_0 : decode cX10_ends 0 = .ok (.aload_n 0, 1) := by decide +kernel
theorem dX10_ends_1 : decode cX10_ends 1 = .ok (.getfield 57, 3) := by decide +kernel
theorem dX10_ends_4 : decode cX10_ends 4 = .ok (.iload_n 1, 1) := by decide +kernel
theorem dX10_ends_5 : decode cX10_ends 5 = .ok (.iaload, 1) := by decide +kernel
theorem dX10_ends_6 : decode cX10_ends 6 = .ok (.iconst 3, 1) := by decide +kernel
theorem dX10_ends_7 : decode cX10_ends 7 = .ok (.if_icmp .lt 15, 3) := by decide +kernel
theorem dX10_ends_10 : decode cX10_ends 10 = .ok (.aload_n 0, 1) := by decide +kernel
theorem dX10_ends_11 : decode cX10_ends 11 = .ok (.iload_n 1, 1) := by decide +kernel
theorem dX10_ends_12 : decode cX10_ends 12 = .ok (.invokevirtual 230, 3) := by decide +kernel
theorem dX10_ends_15 : decode cX10_ends 15 = .ok (.ifCond .ne 7, 3) := by decide +kernel
theorem dX10_ends_18 : decode cX10_ends 18 = .ok (.iconst 1, 1) := by decide +kernel
theorem dX10_ends_19 : decode cX10_ends 19 = .ok (.goto 4, 3) := by decide +kernel
theorem dX10_ends_22 : decode cX10_ends 22 = .ok (.iconst 0, 1) := by decide +kernel
theorem dX10_ends_23 : decode cX10_ends 23 = .ok (.ireturn, 1) := by decide +kernel
theorem dX10_endOf_0 : decode cX10_endOf 0 = .ok (.iconst 0, 1) := by decide +kernel
theorem dX10_endOf_1 : decode cX10_endOf 1 = .ok (.istore_n 2, 1) := by decide +kernel
theorem dX10_endOf_2 : decode cX10_endOf 2 = .ok (.iconst 0, 1) := by decide +kernel
theorem dX10_endOf_3 : decode cX10_endOf 3 = .ok (.istore_n 3, 1) := by decide +kernel
theorem dX10_endOf_4 : decode cX10_endOf 4 = .ok (.iload_n 3, 1) := by decide +kernel
theorem dX10_endOf_5 : decode cX10_endOf 5 = .ok (.aload_n 0, 1) := by decide +kernel
theorem dX10_endOf_6 : decode cX10_endOf 6 = .ok (.getfield 90, 3) := by decide +kernel
theorem dX10_endOf_9 : decode cX10_endOf 9 = .ok (.if_icmp .ge 34, 3) := by decide +kernel
theorem dX10_endOf_12 : decode cX10_endOf 12 = .ok (.aload_n 0, 1) := by decide +kernel
theorem dX10_endOf_13 : decode cX10_endOf 13 = .ok (.getfield 147, 3) := by decide +kernel
theorem dX10_endOf_16 : decode cX10_endOf 16 = .ok (.ifCond .le 27, 3) := by decide +kernel
theorem dX10_endOf_19 : decode cX10_endOf 19 = .ok (.aload_n 0, 1) := by decide +kernel
theorem dX10_endOf_20 : decode cX10_endOf 20 = .ok (.iload_n 3, 1) := by decide +kernel
theorem dX10_endOf_21 : decode cX10_endOf 21 = .ok (.invokevirtual 233, 3) := by decide +kernel
theorem dX10_endOf_24 : decode cX10_endOf 24 = .ok (.ifCond .eq 13, 3) := by decide +kernel
theorem dX10_endOf_27 : decode cX10_endOf 27 = .ok (.iload_n 2, 1) := by decide +kernel
theorem dX10_endOf_28 : decode cX10_endOf 28 = .ok (.iload_n 1, 1) := by decide +kernel
theorem dX10_endOf_29 : decode cX10_endOf 29 = .ok (.if_icmp .ne 5, 3) := by decide +kernel
theorem dX10_endOf_32 : decode cX10_endOf 32 = .ok (.iload_n 3, 1) := by decide +kernel
theorem dX10_endOf_33 : decode cX10_endOf 33 = .ok (.ireturn, 1) := by decide +kernel
theorem dX10_endOf_34 : decode cX10_endOf 34 = .ok (.iinc 2 1, 3) := by decide +kernel
theorem dX10_endOf_37 : decode cX10_endOf 37 = .ok (.iinc 3 1, 3) := by decide +kernel
theorem dX10_endOf_40 : decode cX10_endOf 40 = .ok (.goto (-36), 3) := by decide +kernel
theorem dX10_endOf_43 : decode cX10_endOf 43 = .ok (.iload_n 2, 1) := by decide +kernel
theorem dX10_endOf_44 : decode cX10_endOf 44 = .ok (.sipush 1000, 3) := by decide +kernel
theorem dX10_endOf_47 : decode cX10_endOf 47 = .ok (.isub, 1) := by decide +kernel
theorem dX10_endOf_48 : decode cX10_endOf 48 = .ok (.ireturn, 1) := by decide +kernel
theorem dX10_strength_0 : decode cX10_strength 0 = .ok (.iconst 0, 1) := by decide +kernel
theorem dX10_strength_1 : decode cX10_strength 1 = .ok (.istore_n 1, 1) := by decide +kernel
theorem dX10_strength_2 : decode cX10_strength 2 = .ok (.iconst 0, 1) := by decide +kernel
theorem dX10_strength_3 : decode cX10_strength 3 = .ok (.istore_n 2, 1) := by decide +kernel
theorem dX10_strength_4 : decode cX10_strength 4 = .ok (.iload_n 2, 1) := by decide +kernel
theorem dX10_strength_5 : decode cX10_strength 5 = .ok (.aload_n 0, 1) := by decide +kernel
theorem dX10_strength_6 : decode cX10_strength 6 = .ok (.getfield 90, 3) := by decide +kernel
theorem dX10_strength_9 : decode cX10_strength 9 = .ok (.if_icmp .ge 39, 3) := by decide +kernel
theorem dX10_strength_12 : decode cX10_strength 12 = .ok (.aload_n 0, 1) := by decide +kernel
theorem dX10_strength_13 : decode cX10_strength 13 = .ok (.getfield 147, 3) := by decide +kernel
theorem dX10_strength_16 : decode cX10_strength 16 = .ok (.ifCond .le 32, 3) := by decide +kernel
theorem dX10_strength_19 : decode cX10_strength 19 = .ok (.iload_n 1, 1) := by decide +kernel
theorem dX10_strength_20 : decode cX10_strength 20 = .ok (.aload_n 0, 1) := by decide +kernel
theorem dX10_strength_21 : decode cX10_strength 21 = .ok (.iload_n 2, 1) := by decide +kernel
theorem dX10_strength_22 : decode cX10_strength 22 = .ok (.invokevirtual 233, 3) := by decide +kernel
theorem dX10_strength_25 : decode cX10_strength 25 = .ok (.ifCond .eq 14, 3) := by decide +kernel
theorem dX10_strength_28 : decode cX10_strength 28 = .ok (.aload_n 0, 1) := by decide +kernel
theorem dX10_strength_29 : decode cX10_strength 29 = .ok (.getfield 57, 3) := by decide +kernel
theorem dX10_strength_32 : decode cX10_strength 32 = .ok (.iload_n 2, 1) := by decide +kernel
theorem dX10_strength_33 : decode cX10_strength 33 = .ok (.iaload, 1) := by decide +kernel
theorem dX10_strength_34 : decode cX10_strength 34 = .ok (.iconst 2, 1) := by decide +kernel
theorem dX10_strength_35 : decode cX10_strength 35 = .ok (.isub, 1) := by decide +kernel
theorem dX10_strength_36 : decode cX10_strength 36 = .ok (.goto 4, 3) := by decide +kernel
theorem dX10_strength_39 : decode cX10_strength 39 = .ok (.iconst 0, 1) := by decide +kernel
theorem dX10_strength_40 : decode cX10_strength 40 = .ok (.iadd, 1) := by decide +kernel
theorem dX10_strength_41 : decode cX10_strength 41 = .ok (.istore_n 1, 1) := by decide +kernel
theorem dX10_strength_42 : decode cX10_strength 42 = .ok (.iinc 2 1, 3) := by decide +kernel
theorem dX10_strength_45 : decode cX10_strength 45 = .ok (.goto (-41), 3) := by decide +kernel
theorem dX10_strength_48 : decode cX10_strength 48 = .ok (.iload_n 1, 1) := by decide +kernel
theorem dX10_strength_49 : decode cX10_strength 49 = .ok (.ireturn, 1) := by decide +kernel
theorem dX10_strengthWith_0 : decode cX10_strengthWith 0 = .ok (.aload_n 0, 1) := by decide +kernel
theorem dX10_strengthWith_1 : decode cX10_strengthWith 1 = .ok (.getfield 147, 3) := by decide +kernel
theorem dX10_strengthWith_4 : decode cX10_strengthWith 4 = .ok (.istore_n 2, 1) := by decide +kernel
theorem dX10_strengthWith_5 : decode cX10_strengthWith 5 = .ok (.iconst 0, 1) := by decide +kernel
theorem dX10_strengthWith_6 : decode cX10_strengthWith 6 = .ok (.istore_n 3, 1) := by decide +kernel
theorem dX10_strengthWith_7 : decode cX10_strengthWith 7 = .ok (.iload_n 3, 1) := by decide +kernel
theorem dX10_strengthWith_8 : decode cX10_strengthWith 8 = .ok (.aload_n 0, 1) := by decide +kernel
theorem dX10_strengthWith_9 : decode cX10_strengthWith 9 = .ok (.getfield 147, 3) := by decide +kernel
theorem dX10_strengthWith_12 : decode cX10_strengthWith 12 = .ok (.if_icmp .gt 21, 3) := by decide +kernel
theorem dX10_strengthWith_15 : decode cX10_strengthWith 15 = .ok (.aload_n 0, 1) := by decide +kernel
theorem dX10_strengthWith_16 : decode cX10_strengthWith 16 = .ok (.getfield 63, 3) := by decide +kernel
theorem dX10_strengthWith_19 : decode cX10_strengthWith 19 = .ok (.iload_n 3, 1) := by decide +kernel
theorem dX10_strengthWith_20 : decode cX10_strengthWith 20 = .ok (.aload_n 0, 1) := by decide +kernel
theorem dX10_strengthWith_21 : decode cX10_strengthWith 21 = .ok (.getfield 48, 3) := by decide +kernel
theorem dX10_strengthWith_24 : decode cX10_strengthWith 24 = .ok (.iload_n 3, 1) := by decide +kernel
theorem dX10_strengthWith_25 : decode cX10_strengthWith 25 = .ok (.iaload, 1) := by decide +kernel
theorem dX10_strengthWith_26 : decode cX10_strengthWith 26 = .ok (.iastore, 1) := by decide +kernel
theorem dX10_strengthWith_27 : decode cX10_strengthWith 27 = .ok (.iinc 3 1, 3) := by decide +kernel
theorem dX10_strengthWith_30 : decode cX10_strengthWith 30 = .ok (.goto (-23), 3) := by decide +kernel
theorem dX10_strengthWith_33 : decode cX10_strengthWith 33 = .ok (.aload_n 0, 1) := by decide +kernel
theorem dX10_strengthWith_34 : decode cX10_strengthWith 34 = .ok (.iload_n 1, 1) := by decide +kernel
theorem dX10_strengthWith_35 : decode cX10_strengthWith 35 = .ok (.invokevirtual 204, 3) := by decide +kernel
theorem dX10_strengthWith_38 : decode cX10_strengthWith 38 = .ok (.aload_n 0, 1) := by decide +kernel
theorem dX10_strengthWith_39 : decode cX10_strengthWith 39 = .ok (.invokevirtual 236, 3) := by decide +kernel
theorem dX10_strengthWith_42 : decode cX10_strengthWith 42 = .ok (.istore_n 3, 1) := by decide +kernel
theorem dX10_strengthWith_43 : decode cX10_strengthWith 43 = .ok (.aload_n 0, 1) := by decide +kernel
theorem dX10_strengthWith_44 : decode cX10_strengthWith 44 = .ok (.iload_n 2, 1) := by decide +kernel
theorem dX10_strengthWith_45 : decode cX10_strengthWith 45 = .ok (.putfield 147, 3) := by decide +kernel
theorem dX10_strengthWith_48 : decode cX10_strengthWith 48 = .ok (.iconst 0, 1) := by decide +kernel
theorem dX10_strengthWith_49 : decode cX10_strengthWith 49 = .ok (.istore 4, 2) := by decide +kernel
theorem dX10_strengthWith_51 : decode cX10_strengthWith 51 = .ok (.iload 4, 2) := by decide +kernel
theorem dX10_strengthWith_53 : decode cX10_strengthWith 53 = .ok (.aload_n 0, 1) := by decide +kernel
theorem dX10_strengthWith_54 : decode cX10_strengthWith 54 = .ok (.getfield 147, 3) := by decide +kernel
theorem dX10_strengthWith_57 : decode cX10_strengthWith 57 = .ok (.if_icmp .gt 23, 3) := by decide +kernel
theorem dX10_strengthWith_60 : decode cX10_strengthWith 60 = .ok (.aload_n 0, 1) := by decide +kernel
theorem dX10_strengthWith_61 : decode cX10_strengthWith 61 = .ok (.getfield 48, 3) := by decide +kernel
theorem dX10_strengthWith_64 : decode cX10_strengthWith 64 = .ok (.iload 4, 2) := by decide +kernel
theorem dX10_strengthWith_66 : decode cX10_strengthWith 66 = .ok (.aload_n 0, 1) := by decide +kernel
theorem dX10_strengthWith_67 : decode cX10_strengthWith 67 = .ok (.getfield 63, 3) := by decide +kernel
theorem dX10_strengthWith_70 : decode cX10_strengthWith 70 = .ok (.iload 4, 2) := by decide +kernel
theorem dX10_strengthWith_72 : decode cX10_strengthWith 72 = .ok (.iaload, 1) := by decide +kernel
theorem dX10_strengthWith_73 : decode cX10_strengthWith 73 = .ok (.iastore, 1) := by decide +kernel
theorem dX10_strengthWith_74 : decode cX10_strengthWith 74 = .ok (.iinc 4 1, 3) := by decide +kernel
theorem dX10_strengthWith_77 : decode cX10_strengthWith 77 = .ok (.goto (-26), 3) := by decide +kernel
theorem dX10_strengthWith_80 : decode cX10_strengthWith 80 = .ok (.aload_n 0, 1) := by decide +kernel
theorem dX10_strengthWith_81 : decode cX10_strengthWith 81 = .ok (.invokevirtual 179, 3) := by decide +kernel
theorem dX10_strengthWith_84 : decode cX10_strengthWith 84 = .ok (.iload_n 3, 1) := by decide +kernel
theorem dX10_strengthWith_85 : decode cX10_strengthWith 85 = .ok (.ireturn, 1) := by decide +kernel
theorem dX10_breaker_0 : decode cX10_breaker 0 = .ok (.iconst (-1), 1) := by decide +kernel
theorem dX10_breaker_1 : decode cX10_breaker 1 = .ok (.istore_n 1, 1) := by decide +kernel
theorem dX10_breaker_2 : decode cX10_breaker 2 = .ok (.iconst 0, 1) := by decide +kernel
theorem dX10_breaker_3 : decode cX10_breaker 3 = .ok (.istore_n 2, 1) := by decide +kernel
theorem dX10_breaker_4 : decode cX10_breaker 4 = .ok (.iconst 0, 1) := by decide +kernel
theorem dX10_breaker_5 : decode cX10_breaker 5 = .ok (.istore_n 3, 1) := by decide +kernel
theorem dX10_breaker_6 : decode cX10_breaker 6 = .ok (.iload_n 3, 1) := by decide +kernel
theorem dX10_breaker_7 : decode cX10_breaker 7 = .ok (.aload_n 0, 1) := by decide +kernel
theorem dX10_breaker_8 : decode cX10_breaker 8 = .ok (.getfield 147, 3) := by decide +kernel
theorem dX10_breaker_11 : decode cX10_breaker 11 = .ok (.if_icmp .ge 83, 3) := by decide +kernel
theorem dX10_breaker_14 : decode cX10_breaker 14 = .ok (.aload_n 0, 1) := by decide +kernel
theorem dX10_breaker_15 : decode cX10_breaker 15 = .ok (.iload_n 3, 1) := by decide +kernel
theorem dX10_breaker_16 : decode cX10_breaker 16 = .ok (.invokevirtual 195, 3) := by decide +kernel
theorem dX10_breaker_19 : decode cX10_breaker 19 = .ok (.ifCond .lt 69, 3) := by decide +kernel
theorem dX10_breaker_22 : decode cX10_breaker 22 = .ok (.aload_n 0, 1) := by decide +kernel
theorem dX10_breaker_23 : decode cX10_breaker 23 = .ok (.iload_n 3, 1) := by decide +kernel
theorem dX10_breaker_24 : decode cX10_breaker 24 = .ok (.invokevirtual 239, 3) := by decide +kernel
theorem dX10_breaker_27 : decode cX10_breaker 27 = .ok (.istore 4, 2) := by decide +kernel
theorem dX10_breaker_29 : decode cX10_breaker 29 = .ok (.iload_n 1, 1) := by decide +kernel
theorem dX10_breaker_30 : decode cX10_breaker 30 = .ok (.ifCond .lt 28, 3) := by decide +kernel
theorem dX10_breaker_33 : decode cX10_breaker 33 = .ok (.iload 4, 2) := by decide +kernel
theorem dX10_breaker_35 : decode cX10_breaker 35 = .ok (.iload_n 2, 1) := by decide +kernel
theorem dX10_breaker_36 : decode cX10_breaker 36 = .ok (.if_icmp .lt 22, 3) := by decide +kernel
theorem dX10_breaker_39 : decode cX10_breaker 39 = .ok (.iload 4, 2) := by decide +kernel
theorem dX10_breaker_41 : decode cX10_breaker 41 = .ok (.iload_n 2, 1) := by decide +kernel
theorem dX10_breaker_42 : decode cX10_breaker 42 = .ok (.if_icmp .ne 20, 3) := by decide +kernel
theorem dX10_breaker_45 : decode cX10_breaker 45 = .ok (.aload_n 0, 1) := by decide +kernel
theorem dX10_breaker_46 : decode cX10_breaker 46 = .ok (.iload_n 3, 1) := by decide +kernel
theorem dX10_breaker_47 : decode cX10_breaker 47 = .ok (.invokevirtual 242, 3) := by decide +kernel
theorem dX10_breaker_50 : decode cX10_breaker 50 = .ok (.aload_n 0, 1) := by decide +kernel
theorem dX10_breaker_51 : decode cX10_breaker 51 = .ok (.iload_n 1, 1) := by decide +kernel
theorem dX10_breaker_52 : decode cX10_breaker 52 = .ok (.invokevirtual 242, 3) := by decide +kernel
theorem dX10_breaker_55 : decode cX10_breaker 55 = .ok (.if_icmp .ge 7, 3) := by decide +kernel
theorem dX10_breaker_58 : decode cX10_breaker 58 = .ok (.iconst 1, 1) := by decide +kernel
theorem dX10_breaker_59 : decode cX10_breaker 59 = .ok (.goto 4, 3) := by decide +kernel
theorem dX10_breaker_62 : decode cX10_breaker 62 = .ok (.iconst 0, 1) := by decide +kernel
theorem dX10_breaker_63 : decode cX10_breaker 63 = .ok (.istore 5, 2) := by decide +kernel
theorem dX10_breaker_65 : decode cX10_breaker 65 = .ok (.iload 5, 2) := by decide +kernel
theorem dX10_breaker_67 : decode cX10_breaker 67 = .ok (.ifCond .eq 7, 3) := by decide +kernel
theorem dX10_breaker_70 : decode cX10_breaker 70 = .ok (.iload_n 3, 1) := by decide +kernel
theorem dX10_breaker_71 : decode cX10_breaker 71 = .ok (.goto 4, 3) := by decide +kernel
theorem dX10_breaker_74 : decode cX10_breaker 74 = .ok (.iload_n 1, 1) := by decide +kernel
theorem dX10_breaker_75 : decode cX10_breaker 75 = .ok (.istore_n 1, 1) := by decide +kernel
theorem dX10_breaker_76 : decode cX10_breaker 76 = .ok (.iload 5, 2) := by decide +kernel
theorem dX10_breaker_78 : decode cX10_breaker 78 = .ok (.ifCond .eq 8, 3) := by decide +kernel
theorem dX10_breaker_81 : decode cX10_breaker 81 = .ok (.iload 4, 2) := by decide +kernel
theorem dX10_breaker_83 : decode cX10_breaker 83 = .ok (.goto 4, 3) := by decide +kernel
theorem dX10_breaker_86 : decode cX10_breaker 86 = .ok (.iload_n 2, 1) := by decide +kernel
theorem dX10_breaker_87 : decode cX10_breaker 87 = .ok (.istore_n 2, 1) := by decide +kernel
theorem dX10_breaker_88 : decode cX10_breaker 88 = .ok (.iinc 3 1, 3) := by decide +kernel
theorem dX10_breaker_91 : decode cX10_breaker 91 = .ok (.goto (-85), 3) := by decide +kernel
theorem dX10_breaker_94 : decode cX10_breaker 94 = .ok (.iload_n 1, 1) := by decide +kernel
theorem dX10_breaker_95 : decode cX10_breaker 95 = .ok (.ifCond .lt 15, 3) := by decide +kernel
theorem dX10_breaker_98 : decode cX10_breaker 98 = .ok (.iload_n 2, 1) := by decide +kernel
theorem dX10_breaker_99 : decode cX10_breaker 99 = .ok (.aload_n 0, 1) := by decide +kernel
theorem dX10_breaker_100 : decode cX10_breaker 100 = .ok (.invokevirtual 236, 3) := by decide +kernel
theorem dX10_breaker_103 : decode cX10_breaker 103 = .ok (.if_icmp .ge 7, 3) := by decide +kernel
theorem dX10_breaker_106 : decode cX10_breaker 106 = .ok (.iload_n 1, 1) := by decide +kernel
theorem dX10_breaker_107 : decode cX10_breaker 107 = .ok (.goto 4, 3) := by decide +kernel
theorem dX10_breaker_110 : decode cX10_breaker 110 = .ok (.iconst (-1), 1) := by decide +kernel
theorem dX10_breaker_111 : decode cX10_breaker 111 = .ok (.ireturn, 1) := by decide +kernel
theorem dX10_breakRivers_0 : decode cX10_breakRivers 0 = .ok (.iconst 0, 1) := by decide +kernel
theorem dX10_breakRivers_1 : decode cX10_breakRivers 1 = .ok (.istore_n 1, 1) := by decide +kernel
theorem dX10_breakRivers_2 : decode cX10_breakRivers 2 = .ok (.aload_n 0, 1) := by decide +kernel
theorem dX10_breakRivers_3 : decode cX10_breakRivers 3 = .ok (.invokevirtual 245, 3) := by decide +kernel
theorem dX10_breakRivers_6 : decode cX10_breakRivers 6 = .ok (.istore_n 2, 1) := by decide +kernel
theorem dX10_breakRivers_7 : decode cX10_breakRivers 7 = .ok (.iload_n 2, 1) := by decide +kernel
theorem dX10_breakRivers_8 : decode cX10_breakRivers 8 = .ok (.ifCond .lt 35, 3) := by decide +kernel
theorem dX10_breakRivers_11 : decode cX10_breakRivers 11 = .ok (.iload_n 1, 1) := by decide +kernel
theorem dX10_breakRivers_12 : decode cX10_breakRivers 12 = .ok (.bipush 10, 2) := by decide +kernel
theorem dX10_breakRivers_14 : decode cX10_breakRivers 14 = .ok (.if_icmp .ge 29, 3) := by decide +kernel
theorem dX10_breakRivers_17 : decode cX10_breakRivers 17 = .ok (.aload_n 0, 1) := by decide +kernel
theorem dX10_breakRivers_18 : decode cX10_breakRivers 18 = .ok (.iload_n 2, 1) := by decide +kernel
theorem dX10_breakRivers_19 : decode cX10_breakRivers 19 = .ok (.invokevirtual 204, 3) := by decide +kernel
theorem dX10_breakRivers_22 : decode cX10_breakRivers 22 = .ok (.iinc 1 1, 3) := by decide +kernel
theorem dX10_breakRivers_25 : decode cX10_breakRivers 25 = .ok (.iload_n 1, 1) := by decide +kernel
theorem dX10_breakRivers_26 : decode cX10_breakRivers 26 = .ok (.bipush 10, 2) := by decide +kernel
theorem dX10_breakRivers_28 : decode cX10_breakRivers 28 = .ok (.if_icmp .ge 10, 3) := by decide +kernel
theorem dX10_breakRivers_31 : decode cX10_breakRivers 31 = .ok (.aload_n 0, 1) := by decide +kernel
theorem dX10_breakRivers_32 : decode cX10_breakRivers 32 = .ok (.invokevirtual 245, 3) := by decide +kernel
theorem dX10_breakRivers_35 : decode cX10_breakRivers 35 = .ok (.goto 4, 3) := by decide +kernel
theorem dX10_breakRivers_38 : decode cX10_breakRivers 38 = .ok (.iconst (-1), 1) := by decide +kernel
theorem dX10_breakRivers_39 : decode cX10_breakRivers 39 = .ok (.istore_n 2, 1) := by decide +kernel
theorem dX10_breakRivers_40 : decode cX10_breakRivers 40 = .ok (.goto (-33), 3) := by decide +kernel
theorem dX10_breakRivers_43 : decode cX10_breakRivers 43 = .ok (.iload_n 1, 1) := by decide +kernel
theorem dX10_breakRivers_44 : decode cX10_breakRivers 44 = .ok (.ireturn, 1) := by decide +kernel
theorem dX10_count_0 : decode cX10_count 0 = .ok (.iconst 0, 1) := by decide +kernel
theorem dX10_count_1 : decode cX10_count 1 = .ok (.istore_n 2, 1) := by decide +kernel
theorem dX10_count_2 : decode cX10_count 2 = .ok (.iconst 0, 1) := by decide +kernel
theorem dX10_count_3 : decode cX10_count 3 = .ok (.istore_n 3, 1) := by decide +kernel
theorem dX10_count_4 : decode cX10_count 4 = .ok (.iload_n 3, 1) := by decide +kernel
theorem dX10_count_5 : decode cX10_count 5 = .ok (.aload_n 0, 1) := by decide +kernel
theorem dX10_count_6 : decode cX10_count 6 = .ok (.getfield 90, 3) := by decide +kernel
theorem dX10_count_9 : decode cX10_count 9 = .ok (.if_icmp .ge 37, 3) := by decide +kernel
theorem dX10_count_12 : decode cX10_count 12 = .ok (.aload_n 0, 1) := by decide +kernel
theorem dX10_count_13 : decode cX10_count 13 = .ok (.getfield 147, 3) := by decide +kernel
theorem dX10_count_16 : decode cX10_count 16 = .ok (.ifCond .le 30, 3) := by decide +kernel
theorem dX10_count_19 : decode cX10_count 19 = .ok (.aload_n 0, 1) := by decide +kernel
theorem dX10_count_20 : decode cX10_count 20 = .ok (.getfield 57, 3) := by decide +kernel
theorem dX10_count_23 : decode cX10_count 23 = .ok (.iload_n 3, 1) := by decide +kernel
theorem dX10_count_24 : decode cX10_count 24 = .ok (.iaload, 1) := by decide +kernel
theorem dX10_count_25 : decode cX10_count 25 = .ok (.iload_n 2, 1) := by decide +kernel
theorem dX10_count_26 : decode cX10_count 26 = .ok (.if_icmp .le 12, 3) := by decide +kernel
theorem dX10_count_29 : decode cX10_count 29 = .ok (.aload_n 0, 1) := by decide +kernel
theorem dX10_count_30 : decode cX10_count 30 = .ok (.getfield 57, 3) := by decide +kernel
theorem dX10_count_33 : decode cX10_count 33 = .ok (.iload_n 3, 1) := by decide +kernel
theorem dX10_count_34 : decode cX10_count 34 = .ok (.iaload, 1) := by decide +kernel
theorem dX10_count_35 : decode cX10_count 35 = .ok (.goto 4, 3) := by decide +kernel
theorem dX10_count_38 : decode cX10_count 38 = .ok (.iload_n 2, 1) := by decide +kernel
theorem dX10_count_39 : decode cX10_count 39 = .ok (.istore_n 2, 1) := by decide +kernel
theorem dX10_count_40 : decode cX10_count 40 = .ok (.iinc 3 1, 3) := by decide +kernel
theorem dX10_count_43 : decode cX10_count 43 = .ok (.goto (-39), 3) := by decide +kernel
theorem dX10_count_46 : decode cX10_count 46 = .ok (.iload_n 1, 1) := by decide +kernel
theorem dX10_count_47 : decode cX10_count 47 = .ok (.tableswitch 122 0 9 #[53, 58, 63, 72, 90, 100, 102, 107, 112, 117], 53) := by decide +kernel
theorem dX10_count_100 : decode cX10_count 100 = .ok (.aload_n 0, 1) := by decide +kernel
theorem dX10_count_101 : decode cX10_count 101 = .ok (.getfield 90, 3) := by decide +kernel
theorem dX10_count_104 : decode cX10_count 104 = .ok (.ireturn, 1) := by decide +kernel
theorem dX10_count_105 : decode cX10_count 105 = .ok (.aload_n 0, 1) := by decide +kernel
theorem dX10_count_106 : decode cX10_count 106 = .ok (.getfield 147, 3) := by decide +kernel
theorem dX10_count_109 : decode cX10_count 109 = .ok (.ireturn, 1) := by decide +kernel
theorem dX10_count_110 : decode cX10_count 110 = .ok (.aload_n 0, 1) := by decide +kernel
theorem dX10_count_111 : decode cX10_count 111 = .ok (.aload_n 0, 1) := by decide +kernel
theorem dX10_count_112 : decode cX10_count 112 = .ok (.getfield 147, 3) := by decide +kernel
theorem dX10_count_115 : decode cX10_count 115 = .ok (.invokevirtual 198, 3) := by decide +kernel
theorem dX10_count_118 : decode cX10_count 118 = .ok (.ireturn, 1) := by decide +kernel
theorem dX10_count_119 : decode cX10_count 119 = .ok (.aload_n 0, 1) := by decide +kernel
theorem dX10_count_120 : decode cX10_count 120 = .ok (.getfield 147, 3) := by decide +kernel
theorem dX10_count_123 : decode cX10_count 123 = .ok (.ifCond .ne 7, 3) := by decide +kernel
theorem dX10_count_126 : decode cX10_count 126 = .ok (.iconst 0, 1) := by decide +kernel
theorem dX10_count_127 : decode cX10_count 127 = .ok (.goto 9, 3) := by decide +kernel
theorem dX10_count_130 : decode cX10_count 130 = .ok (.aload_n 0, 1) := by decide +kernel
theorem dX10_count_131 : decode cX10_count 131 = .ok (.getfield 42, 3) := by decide +kernel
theorem dX10_count_134 : decode cX10_count 134 = .ok (.iconst 0, 1) := by decide +kernel
theorem dX10_count_135 : decode cX10_count 135 = .ok (.iaload, 1) := by decide +kernel
theorem dX10_count_136 : decode cX10_count 136 = .ok (.ireturn, 1) := by decide +kernel
theorem dX10_count_137 : decode cX10_count 137 = .ok (.aload_n 0, 1) := by decide +kernel
theorem dX10_count_138 : decode cX10_count 138 = .ok (.iconst (-1), 1) := by decide +kernel
theorem dX10_count_139 : decode cX10_count 139 = .ok (.invokevirtual 248, 3) := by decide +kernel
theorem dX10_count_142 : decode cX10_count 142 = .ok (.sipush 1000, 3) := by decide +kernel
theorem dX10_count_145 : decode cX10_count 145 = .ok (.iadd, 1) := by decide +kernel
theorem dX10_count_146 : decode cX10_count 146 = .ok (.ireturn, 1) := by decide +kernel
theorem dX10_count_147 : decode cX10_count 147 = .ok (.iload_n 2, 1) := by decide +kernel
theorem dX10_count_148 : decode cX10_count 148 = .ok (.ireturn, 1) := by decide +kernel
theorem dX10_count_149 : decode cX10_count 149 = .ok (.aload_n 0, 1) := by decide +kernel
theorem dX10_count_150 : decode cX10_count 150 = .ok (.invokevirtual 236, 3) := by decide +kernel
theorem dX10_count_153 : decode cX10_count 153 = .ok (.ireturn, 1) := by decide +kernel
theorem dX10_count_154 : decode cX10_count 154 = .ok (.aload_n 0, 1) := by decide +kernel
theorem dX10_count_155 : decode cX10_count 155 = .ok (.getfield 7, 3) := by decide +kernel
theorem dX10_count_158 : decode cX10_count 158 = .ok (.ireturn, 1) := by decide +kernel
theorem dX10_count_159 : decode cX10_count 159 = .ok (.aload_n 0, 1) := by decide +kernel
theorem dX10_count_160 : decode cX10_count 160 = .ok (.getfield 13, 3) := by decide +kernel
theorem dX10_count_163 : decode cX10_count 163 = .ok (.ireturn, 1) := by decide +kernel
theorem dX10_count_164 : decode cX10_count 164 = .ok (.aload_n 0, 1) := by decide +kernel
theorem dX10_count_165 : decode cX10_count 165 = .ok (.getfield 16, 3) := by decide +kernel
theorem dX10_count_168 : decode cX10_count 168 = .ok (.ireturn, 1) := by decide +kernel
theorem dX10_count_169 : decode cX10_count 169 = .ok (.sipush (-1002), 3) := by decide +kernel
theorem dX10_count_172 : decode cX10_count 172 = .ok (.ireturn, 1) := by decide +kernel
theorem dX10_spaceWidth_0 : decode cX10_spaceWidth 0 = .ok (.iload_n 1, 1) := by decide +kernel
theorem dX10_spaceWidth_1 : decode cX10_spaceWidth 1 = .ok (.iconst 0, 1) := by decide +kernel
theorem dX10_spaceWidth_2 : decode cX10_spaceWidth 2 = .ok (.iconst 2, 1) := by decide +kernel
theorem dX10_spaceWidth_3 : decode cX10_spaceWidth 3 = .ok (.invokestatic 69, 3) := by decide +kernel
theorem dX10_spaceWidth_6 : decode cX10_spaceWidth 6 = .ok (.ifCond .ne 7, 3) := by decide +kernel
theorem dX10_spaceWidth_9 : decode cX10_spaceWidth 9 = .ok (.sipush (-1001), 3) := by decide +kernel
theorem dX10_spaceWidth_12 : decode cX10_spaceWidth 12 = .ok (.ireturn, 1) := by decide +kernel
theorem dX10_spaceWidth_13 : decode cX10_spaceWidth 13 = .ok (.iload_n 2, 1) := by decide +kernel
theorem dX10_spaceWidth_14 : decode cX10_spaceWidth 14 = .ok (.iconst 0, 1) := by decide +kernel
theorem dX10_spaceWidth_15 : decode cX10_spaceWidth 15 = .ok (.iconst 2, 1) := by decide +kernel
theorem dX10_spaceWidth_16 : decode cX10_spaceWidth 16 = .ok (.invokestatic 69, 3) := by decide +kernel
theorem dX10_spaceWidth_19 : decode cX10_spaceWidth 19 = .ok (.ifCond .eq 16, 3) := by decide +kernel
theorem dX10_spaceWidth_22 : decode cX10_spaceWidth 22 = .ok (.aload_n 0, 1) := by decide +kernel
theorem dX10_spaceWidth_23 : decode cX10_spaceWidth 23 = .ok (.getfield 19, 3) := by decide +kernel
theorem dX10_spaceWidth_26 : decode cX10_spaceWidth 26 = .ok (.iconst 3, 1) := by decide +kernel
theorem dX10_spaceWidth_27 : decode cX10_spaceWidth 27 = .ok (.iload_n 1, 1) := by decide +kernel
theorem dX10_spaceWidth_28 : decode cX10_spaceWidth 28 = .ok (.imul, 1) := by decide +kernel
theorem dX10_spaceWidth_29 : decode cX10_spaceWidth 29 = .ok (.iload_n 2, 1) := by decide +kernel
theorem dX10_spaceWidth_30 : decode cX10_spaceWidth 30 = .ok (.iadd, 1) := by decide +kernel
theorem dX10_spaceWidth_31 : decode cX10_spaceWidth 31 = .ok (.iaload, 1) := by decide +kernel
theorem dX10_spaceWidth_32 : decode cX10_spaceWidth 32 = .ok (.goto 6, 3) := by decide +kernel
theorem dX10_spaceWidth_35 : decode cX10_spaceWidth 35 = .ok (.sipush (-1002), 3) := by decide +kernel
theorem dX10_spaceWidth_38 : decode cX10_spaceWidth 38 = .ok (.ireturn, 1) := by decide +kernel
theorem dX10_noWord_0 : decode cX10_noWord 0 = .ok (.iload_n 1, 1) := by decide +kernel
theorem dX10_noWord_1 : decode cX10_noWord 1 = .ok (.iconst 0, 1) := by decide +kernel
theorem dX10_noWord_2 : decode cX10_noWord 2 = .ok (.aload_n 0, 1) := by decide +kernel
theorem dX10_noWord_3 : decode cX10_noWord 3 = .ok (.getfield 90, 3) := by decide +kernel
theorem dX10_noWord_6 : decode cX10_noWord 6 = .ok (.iconst 1, 1) := by decide +kernel
theorem dX10_noWord_7 : decode cX10_noWord 7 = .ok (.isub, 1) := by decide +kernel
theorem dX10_noWord_8 : decode cX10_noWord 8 = .ok (.invokestatic 69, 3) := by decide +kernel
theorem dX10_noWord_11 : decode cX10_noWord 11 = .ok (.ifCond .ne 7, 3) := by decide +kernel
theorem dX10_noWord_14 : decode cX10_noWord 14 = .ok (.iconst 1, 1) := by decide +kernel
theorem dX10_noWord_15 : decode cX10_noWord 15 = .ok (.goto 4, 3) := by decide +kernel
theorem dX10_noWord_18 : decode cX10_noWord 18 = .ok (.iconst 0, 1) := by decide +kernel
theorem dX10_noWord_19 : decode cX10_noWord 19 = .ok (.ireturn, 1) := by decide +kernel
theorem dX10_word_0 : decode cX10_word 0 = .ok (.aload_n 0, 1) := by decide +kernel
theorem dX10_word_1 : decode cX10_word 1 = .ok (.iload_n 1, 1) := by decide +kernel
theorem dX10_word_2 : decode cX10_word 2 = .ok (.invokevirtual 251, 3) := by decide +kernel
theorem dX10_word_5 : decode cX10_word 5 = .ok (.ifCond .eq 7, 3) := by decide +kernel
theorem dX10_word_8 : decode cX10_word 8 = .ok (.sipush (-1001), 3) := by decide +kernel
theorem dX10_word_11 : decode cX10_word 11 = .ok (.ireturn, 1) := by decide +kernel
theorem dX10_word_12 : decode cX10_word 12 = .ok (.iload_n 2, 1) := by decide +kernel
theorem dX10_word_13 : decode cX10_word 13 = .ok (.tableswitch 72 0 3 #[31, 38, 45, 52], 31) := by decide +kernel
theorem dX10_word_44 : decode cX10_word 44 = .ok (.aload_n 0, 1) := by decide +kernel
theorem dX10_word_45 : decode cX10_word 45 = .ok (.getfield 23, 3) := by decide +kernel
theorem dX10_word_48 : decode cX10_word 48 = .ok (.iload_n 1, 1) := by decide +kernel
theorem dX10_word_49 : decode cX10_word 49 = .ok (.iaload, 1) := by decide +kernel
theorem dX10_word_50 : decode cX10_word 50 = .ok (.ireturn, 1) := by decide +kernel
theorem dX10_word_51 : decode cX10_word 51 = .ok (.aload_n 0, 1) := by decide +kernel
theorem dX10_word_52 : decode cX10_word 52 = .ok (.getfield 26, 3) := by decide +kernel
theorem dX10_word_55 : decode cX10_word 55 = .ok (.iload_n 1, 1) := by decide +kernel
theorem dX10_word_56 : decode cX10_word 56 = .ok (.iaload, 1) := by decide +kernel
theorem dX10_word_57 : decode cX10_word 57 = .ok (.ireturn, 1) := by decide +kernel
theorem dX10_word_58 : decode cX10_word 58 = .ok (.aload_n 0, 1) := by decide +kernel
theorem dX10_word_59 : decode cX10_word 59 = .ok (.getfield 29, 3) := by decide +kernel
theorem dX10_word_62 : decode cX10_word 62 = .ok (.iload_n 1, 1) := by decide +kernel
theorem dX10_word_63 : decode cX10_word 63 = .ok (.iaload, 1) := by decide +kernel
theorem dX10_word_64 : decode cX10_word 64 = .ok (.ireturn, 1) := by decide +kernel
theorem dX10_word_65 : decode cX10_word 65 = .ok (.aload_n 0, 1) := by decide +kernel
theorem dX10_word_66 : decode cX10_word 66 = .ok (.getfield 147, 3) := by decide +kernel
theorem dX10_word_69 : decode cX10_word 69 = .ok (.ifCond .ne 9, 3) := by decide +kernel
theorem dX10_word_72 : decode cX10_word 72 = .ok (.sipush (-1004), 3) := by decide +kernel
theorem dX10_word_75 : decode cX10_word 75 = .ok (.goto 9, 3) := by decide +kernel
theorem dX10_word_78 : decode cX10_word 78 = .ok (.aload_n 0, 1) := by decide +kernel
theorem dX10_word_79 : decode cX10_word 79 = .ok (.getfield 60, 3) := by decide +kernel
theorem dX10_word_82 : decode cX10_word 82 = .ok (.iload_n 1, 1) := by decide +kernel
theorem dX10_word_83 : decode cX10_word 83 = .ok (.iaload, 1) := by decide +kernel
theorem dX10_word_84 : decode cX10_word 84 = .ok (.ireturn, 1) := by decide +kernel
theorem dX10_word_85 : decode cX10_word 85 = .ok (.sipush (-1002), 3) := by decide +kernel
theorem dX10_word_88 : decode cX10_word 88 = .ok (.ireturn, 1) := by decide +kernel
theorem dX10_line_0 : decode cX10_line 0 = .ok (.aload_n 0, 1) := by decide +kernel
theorem dX10_line_1 : decode cX10_line 1 = .ok (.iload_n 1, 1) := by decide +kernel
theorem dX10_line_2 : decode cX10_line 2 = .ok (.invokevirtual 201, 3) := by decide +kernel
theorem dX10_line_5 : decode cX10_line 5 = .ok (.ifCond .eq 7, 3) := by decide +kernel
theorem dX10_line_8 : decode cX10_line 8 = .ok (.sipush (-1001), 3) := by decide +kernel
theorem dX10_line_11 : decode cX10_line 11 = .ok (.ireturn, 1) := by decide +kernel
theorem dX10_line_12 : decode cX10_line 12 = .ok (.aload_n 0, 1) := by decide +kernel
theorem dX10_line_13 : decode cX10_line 13 = .ok (.getfield 48, 3) := by decide +kernel
theorem dX10_line_16 : decode cX10_line 16 = .ok (.iload_n 1, 1) := by decide +kernel
theorem dX10_line_17 : decode cX10_line 17 = .ok (.iaload, 1) := by decide +kernel
theorem dX10_line_18 : decode cX10_line 18 = .ok (.istore_n 3, 1) := by decide +kernel
theorem dX10_line_19 : decode cX10_line 19 = .ok (.aload_n 0, 1) := by decide +kernel
theorem dX10_line_20 : decode cX10_line 20 = .ok (.iload_n 1, 1) := by decide +kernel
theorem dX10_line_21 : decode cX10_line 21 = .ok (.invokevirtual 192, 3) := by decide +kernel
theorem dX10_line_24 : decode cX10_line 24 = .ok (.istore 4, 2) := by decide +kernel
theorem dX10_line_26 : decode cX10_line 26 = .ok (.iload_n 2, 1) := by decide +kernel
theorem dX10_line_27 : decode cX10_line 27 = .ok (.tableswitch 122 0 8 #[49, 51, 54, 62, 70, 78, 86, 92, 99], 49) := by decide +kernel
theorem dX10_line_76 : decode cX10_line 76 = .ok (.iload_n 3, 1) := by decide +kernel
theorem dX10_line_77 : decode cX10_line 77 = .ok (.ireturn, 1) := by decide +kernel
theorem dX10_line_78 : decode cX10_line 78 = .ok (.iload 4, 2) := by decide +kernel
theorem dX10_line_80 : decode cX10_line 80 = .ok (.ireturn, 1) := by decide +kernel
theorem dX10_line_81 : decode cX10_line 81 = .ok (.aload_n 0, 1) := by decide +kernel
theorem dX10_line_82 : decode cX10_line 82 = .ok (.iload_n 3, 1) := by decide +kernel
theorem dX10_line_83 : decode cX10_line 83 = .ok (.iload 4, 2) := by decide +kernel
theorem dX10_line_85 : decode cX10_line 85 = .ok (.invokevirtual 160, 3) := by decide +kernel
theorem dX10_line_88 : decode cX10_line 88 = .ok (.ireturn, 1) := by decide +kernel
theorem dX10_line_89 : decode cX10_line 89 = .ok (.aload_n 0, 1) := by decide +kernel
theorem dX10_line_90 : decode cX10_line 90 = .ok (.iload_n 3, 1) := by decide +kernel
theorem dX10_line_91 : decode cX10_line 91 = .ok (.iload 4, 2) := by decide +kernel
theorem dX10_line_93 : decode cX10_line 93 = .ok (.invokevirtual 163, 3) := by decide +kernel
theorem dX10_line_96 : decode cX10_line 96 = .ok (.ireturn, 1) := by decide +kernel
theorem dX10_line_97 : decode cX10_line 97 = .ok (.aload_n 0, 1) := by decide +kernel
theorem dX10_line_98 : decode cX10_line 98 = .ok (.iload_n 3, 1) := by decide +kernel
theorem dX10_line_99 : decode cX10_line 99 = .ok (.iload 4, 2) := by decide +kernel
theorem dX10_line_101 : decode cX10_line 101 = .ok (.invokevirtual 169, 3) := by decide +kernel
theorem dX10_line_104 : decode cX10_line 104 = .ok (.ireturn, 1) := by decide +kernel
theorem dX10_line_105 : decode cX10_line 105 = .ok (.aload_n 0, 1) := by decide +kernel
theorem dX10_line_106 : decode cX10_line 106 = .ok (.iload_n 3, 1) := by decide +kernel
theorem dX10_line_107 : decode cX10_line 107 = .ok (.iload 4, 2) := by decide +kernel
theorem dX10_line_109 : decode cX10_line 109 = .ok (.invokevirtual 176, 3) := by decide +kernel
theorem dX10_line_112 : decode cX10_line 112 = .ok (.ireturn, 1) := by decide +kernel
theorem dX10_line_113 : decode cX10_line 113 = .ok (.aload_n 0, 1) := by decide +kernel
theorem dX10_line_114 : decode cX10_line 114 = .ok (.iload_n 3, 1) := by decide +kernel
theorem dX10_line_115 : decode cX10_line 115 = .ok (.invokevirtual 154, 3) := by decide +kernel
theorem dX10_line_118 : decode cX10_line 118 = .ok (.ireturn, 1) := by decide +kernel
theorem dX10_line_119 : decode cX10_line 119 = .ok (.aload_n 0, 1) := by decide +kernel
theorem dX10_line_120 : decode cX10_line 120 = .ok (.iload 4, 2) := by decide +kernel
theorem dX10_line_122 : decode cX10_line 122 = .ok (.invokevirtual 157, 3) := by decide +kernel
theorem dX10_line_125 : decode cX10_line 125 = .ok (.ireturn, 1) := by decide +kernel
theorem dX10_line_126 : decode cX10_line 126 = .ok (.aload_n 0, 1) := by decide +kernel
theorem dX10_line_127 : decode cX10_line 127 = .ok (.getfield 51, 3) := by decide +kernel
theorem dX10_line_130 : decode cX10_line 130 = .ok (.iload 4, 2) := by decide +kernel
theorem dX10_line_132 : decode cX10_line 132 = .ok (.iaload, 1) := by decide +kernel
theorem dX10_line_133 : decode cX10_line 133 = .ok (.aload_n 0, 1) := by decide +kernel
theorem dX10_line_134 : decode cX10_line 134 = .ok (.getfield 23, 3) := by decide +kernel
theorem dX10_line_137 : decode cX10_line 137 = .ok (.iload 4, 2) := by decide +kernel
theorem dX10_line_139 : decode cX10_line 139 = .ok (.iaload, 1) := by decide +kernel
theorem dX10_line_140 : decode cX10_line 140 = .ok (.iadd, 1) := by decide +kernel
theorem dX10_line_141 : decode cX10_line 141 = .ok (.aload_n 0, 1) := by decide +kernel
theorem dX10_line_142 : decode cX10_line 142 = .ok (.iload 4, 2) := by decide +kernel
theorem dX10_line_144 : decode cX10_line 144 = .ok (.invokevirtual 157, 3) := by decide +kernel
theorem dX10_line_147 : decode cX10_line 147 = .ok (.isub, 1) := by decide +kernel
theorem dX10_line_148 : decode cX10_line 148 = .ok (.ireturn, 1) := by decide +kernel
theorem dX10_line_149 : decode cX10_line 149 = .ok (.sipush (-1002), 3) := by decide +kernel
theorem dX10_line_152 : decode cX10_line 152 = .ok (.ireturn, 1) := by decide +kernel
theorem dX10_space_0 : decode cX10_space 0 = .ok (.aload_n 0, 1) := by decide +kernel
theorem dX10_space_1 : decode cX10_space 1 = .ok (.iload_n 1, 1) := by decide +kernel
theorem dX10_space_2 : decode cX10_space 2 = .ok (.invokevirtual 201, 3) := by decide +kernel
theorem dX10_space_5 : decode cX10_space 5 = .ok (.ifCond .ne 25, 3) := by decide +kernel
theorem dX10_space_8 : decode cX10_space 8 = .ok (.iload_n 2, 1) := by decide +kernel
theorem dX10_space_9 : decode cX10_space 9 = .ok (.iconst 0, 1) := by decide +kernel
theorem dX10_space_10 : decode cX10_space 10 = .ok (.aload_n 0, 1) := by decide +kernel
theorem dX10_space_11 : decode cX10_space 11 = .ok (.iload_n 1, 1) := by decide +kernel
theorem dX10_space_12 : decode cX10_space 12 = .ok (.invokevirtual 192, 3) := by decide +kernel
theorem dX10_space_15 : decode cX10_space 15 = .ok (.aload_n 0, 1) := by decide +kernel
theorem dX10_space_16 : decode cX10_space 16 = .ok (.getfield 48, 3) := by decide +kernel
theorem dX10_space_19 : decode cX10_space 19 = .ok (.iload_n 1, 1) := by decide +kernel
theorem dX10_space_20 : decode cX10_space 20 = .ok (.iaload, 1) := by decide +kernel
theorem dX10_space_21 : decode cX10_space 21 = .ok (.isub, 1) := by decide +kernel
theorem dX10_space_22 : decode cX10_space 22 = .ok (.iconst 1, 1) := by decide +kernel
theorem dX10_space_23 : decode cX10_space 23 = .ok (.isub, 1) := by decide +kernel
theorem dX10_space_24 : decode cX10_space 24 = .ok (.invokestatic 69, 3) := by decide +kernel
theorem dX10_space_27 : decode cX10_space 27 = .ok (.ifCond .ne 7, 3) := by decide +kernel
theorem dX10_space_30 : decode cX10_space 30 = .ok (.sipush (-1001), 3) := by decide +kernel
theorem dX10_space_33 : decode cX10_space 33 = .ok (.ireturn, 1) := by decide +kernel
theorem dX10_space_34 : decode cX10_space 34 = .ok (.aload_n 0, 1) := by decide +kernel
theorem dX10_space_35 : decode cX10_space 35 = .ok (.getfield 48, 3) := by decide +kernel
theorem dX10_space_38 : decode cX10_space 38 = .ok (.iload_n 1, 1) := by decide +kernel
theorem dX10_space_39 : decode cX10_space 39 = .ok (.iaload, 1) := by decide +kernel
theorem dX10_space_40 : decode cX10_space 40 = .ok (.iload_n 2, 1) := by decide +kernel
theorem dX10_space_41 : decode cX10_space 41 = .ok (.iadd, 1) := by decide +kernel
theorem dX10_space_42 : decode cX10_space 42 = .ok (.istore 4, 2) := by decide +kernel
theorem dX10_space_44 : decode cX10_space 44 = .ok (.iload_n 3, 1) := by decide +kernel
theorem dX10_space_45 : decode cX10_space 45 = .ok (.tableswitch 62 0 3 #[31, 39, 46, 54], 31) := by decide +kernel
theorem dX10_space_76 : decode cX10_space 76 = .ok (.aload_n 0, 1) := by decide +kernel
theorem dX10_space_77 : decode cX10_space 77 = .ok (.getfield 54, 3) := by decide +kernel
theorem dX10_space_80 : decode cX10_space 80 = .ok (.iload 4, 2) := by decide +kernel
theorem dX10_space_82 : decode cX10_space 82 = .ok (.iaload, 1) := by decide +kernel
theorem dX10_space_83 : decode cX10_space 83 = .ok (.ireturn, 1) := by decide +kernel
theorem dX10_space_84 : decode cX10_space 84 = .ok (.aload_n 0, 1) := by decide +kernel
theorem dX10_space_85 : decode cX10_space 85 = .ok (.iload 4, 2) := by decide +kernel
theorem dX10_space_87 : decode cX10_space 87 = .ok (.invokevirtual 212, 3) := by decide +kernel
theorem dX10_space_90 : decode cX10_space 90 = .ok (.ireturn, 1) := by decide +kernel
theorem dX10_space_91 : decode cX10_space 91 = .ok (.aload_n 0, 1) := by decide +kernel
theorem dX10_space_92 : decode cX10_space 92 = .ok (.getfield 29, 3) := by decide +kernel
theorem dX10_space_95 : decode cX10_space 95 = .ok (.iload 4, 2) := by decide +kernel
theorem dX10_space_97 : decode cX10_space 97 = .ok (.iaload, 1) := by decide +kernel
theorem dX10_space_98 : decode cX10_space 98 = .ok (.ireturn, 1) := by decide +kernel
theorem dX10_space_99 : decode cX10_space 99 = .ok (.aload_n 0, 1) := by decide +kernel
theorem dX10_space_100 : decode cX10_space 100 = .ok (.getfield 57, 3) := by decide +kernel
theorem dX10_space_103 : decode cX10_space 103 = .ok (.iload 4, 2) := by decide +kernel
theorem dX10_space_105 : decode cX10_space 105 = .ok (.iaload, 1) := by decide +kernel
theorem dX10_space_106 : decode cX10_space 106 = .ok (.ireturn, 1) := by decide +kernel
theorem dX10_space_107 : decode cX10_space 107 = .ok (.sipush (-1002), 3) := by decide +kernel
theorem dX10_space_110 : decode cX10_space 110 = .ok (.ireturn, 1) := by decide +kernel
theorem dX10_begin_0 : decode cX10_begin 0 = .ok (.aload_n 0, 1) := by decide +kernel
theorem dX10_begin_1 : decode cX10_begin 1 = .ok (.iload_n 1, 1) := by decide +kernel
theorem dX10_begin_2 : decode cX10_begin 2 = .ok (.invokevirtual 251, 3) := by decide +kernel
theorem dX10_begin_5 : decode cX10_begin 5 = .ok (.ifCond .eq 7, 3) := by decide +kernel
theorem dX10_begin_8 : decode cX10_begin 8 = .ok (.sipush (-1001), 3) := by decide +kernel
theorem dX10_begin_11 : decode cX10_begin 11 = .ok (.ireturn, 1) := by decide +kernel
theorem dX10_begin_12 : decode cX10_begin 12 = .ok (.aload_n 0, 1) := by decide +kernel
theorem dX10_begin_13 : decode cX10_begin 13 = .ok (.getfield 147, 3) := by decide +kernel
theorem dX10_begin_16 : decode cX10_begin 16 = .ok (.ifCond .ne 9, 3) := by decide +kernel
theorem dX10_begin_19 : decode cX10_begin 19 = .ok (.sipush (-1004), 3) := by decide +kernel
theorem dX10_begin_22 : decode cX10_begin 22 = .ok (.goto 9, 3) := by decide +kernel
theorem dX10_begin_25 : decode cX10_begin 25 = .ok (.aload_n 0, 1) := by decide +kernel
theorem dX10_begin_26 : decode cX10_begin 26 = .ok (.getfield 51, 3) := by decide +kernel
theorem dX10_begin_29 : decode cX10_begin 29 = .ok (.iload_n 1, 1) := by decide +kernel
theorem dX10_begin_30 : decode cX10_begin 30 = .ok (.iaload, 1) := by decide +kernel
theorem dX10_begin_31 : decode cX10_begin 31 = .ok (.ireturn, 1) := by decide +kernel
theorem dX10_second_0 : decode cX10_second 0 = .ok (.aload_n 0, 1) := by decide +kernel
theorem dX10_second_1 : decode cX10_second 1 = .ok (.iload_n 1, 1) := by decide +kernel
theorem dX10_second_2 : decode cX10_second 2 = .ok (.invokevirtual 201, 3) := by decide +kernel
theorem dX10_second_5 : decode cX10_second 5 = .ok (.ifCond .eq 7, 3) := by decide +kernel
theorem dX10_second_8 : decode cX10_second 8 = .ok (.sipush (-1001), 3) := by decide +kernel
theorem dX10_second_11 : decode cX10_second 11 = .ok (.ireturn, 1) := by decide +kernel
theorem dX10_second_12 : decode cX10_second 12 = .ok (.iload_n 2, 1) := by decide +kernel
theorem dX10_second_13 : decode cX10_second 13 = .ok (.iconst 0, 1) := by decide +kernel
theorem dX10_second_14 : decode cX10_second 14 = .ok (.iconst 1, 1) := by decide +kernel
theorem dX10_second_15 : decode cX10_second 15 = .ok (.invokestatic 69, 3) := by decide +kernel
theorem dX10_second_18 : decode cX10_second 18 = .ok (.ifCond .ne 7, 3) := by decide +kernel
theorem dX10_second_21 : decode cX10_second 21 = .ok (.sipush (-1002), 3) := by decide +kernel
theorem dX10_second_24 : decode cX10_second 24 = .ok (.ireturn, 1) := by decide +kernel
theorem dX10_second_25 : decode cX10_second 25 = .ok (.aload_n 0, 1) := by decide +kernel
theorem dX10_second_26 : decode cX10_second 26 = .ok (.iload_n 1, 1) := by decide +kernel
theorem dX10_second_27 : decode cX10_second 27 = .ok (.invokevirtual 195, 3) := by decide +kernel
theorem dX10_second_30 : decode cX10_second 30 = .ok (.istore_n 3, 1) := by decide +kernel
theorem dX10_second_31 : decode cX10_second 31 = .ok (.iload_n 3, 1) := by decide +kernel
theorem dX10_second_32 : decode cX10_second 32 = .ok (.ifCond .ge 9, 3) := by decide +kernel
theorem dX10_second_35 : decode cX10_second 35 = .ok (.sipush (-1004), 3) := by decide +kernel
theorem dX10_second_38 : decode cX10_second 38 = .ok (.goto 16, 3) := by decide +kernel
theorem dX10_second_41 : decode cX10_second 41 = .ok (.iload_n 2, 1) := by decide +kernel
theorem dX10_second_42 : decode cX10_second 42 = .ok (.ifCond .ne 7, 3) := by decide +kernel
theorem dX10_second_45 : decode cX10_second 45 = .ok (.iload_n 3, 1) := by decide +kernel
theorem dX10_second_46 : decode cX10_second 46 = .ok (.goto 8, 3) := by decide +kernel
theorem dX10_second_49 : decode cX10_second 49 = .ok (.aload_n 0, 1) := by decide +kernel
theorem dX10_second_50 : decode cX10_second 50 = .ok (.iload_n 1, 1) := by decide +kernel
theorem dX10_second_51 : decode cX10_second 51 = .ok (.invokevirtual 242, 3) := by decide +kernel
theorem dX10_second_54 : decode cX10_second 54 = .ok (.ireturn, 1) := by decide +kernel
theorem dX10_badnessOf_0 : decode cX10_badnessOf 0 = .ok (.aload_n 0, 1) := by decide +kernel
theorem dX10_badnessOf_1 : decode cX10_badnessOf 1 = .ok (.aload_n 0, 1) := by decide +kernel
theorem dX10_badnessOf_2 : decode cX10_badnessOf 2 = .ok (.getfield 48, 3) := by decide +kernel
theorem dX10_badnessOf_5 : decode cX10_badnessOf 5 = .ok (.iload_n 1, 1) := by decide +kernel
theorem dX10_badnessOf_6 : decode cX10_badnessOf 6 = .ok (.iaload, 1) := by decide +kernel
theorem dX10_badnessOf_7 : decode cX10_badnessOf 7 = .ok (.aload_n 0, 1) := by decide +kernel
theorem dX10_badnessOf_8 : decode cX10_badnessOf 8 = .ok (.iload_n 1, 1) := by decide +kernel
theorem dX10_badnessOf_9 : decode cX10_badnessOf 9 = .ok (.invokevirtual 192, 3) := by decide +kernel
theorem dX10_badnessOf_12 : decode cX10_badnessOf 12 = .ok (.invokevirtual 169, 3) := by decide +kernel
theorem dX10_badnessOf_15 : decode cX10_badnessOf 15 = .ok (.ireturn, 1) := by decide +kernel
theorem dX10_worst_0 : decode cX10_worst 0 = .ok (.iload_n 1, 1) := by decide +kernel
theorem dX10_worst_1 : decode cX10_worst 1 = .ok (.ifCond .ge 7, 3) := by decide +kernel
theorem dX10_worst_4 : decode cX10_worst 4 = .ok (.sipush (-1002), 3) := by decide +kernel
theorem dX10_worst_7 : decode cX10_worst 7 = .ok (.ireturn, 1) := by decide +kernel
theorem dX10_worst_8 : decode cX10_worst 8 = .ok (.iconst 0, 1) := by decide +kernel
theorem dX10_worst_9 : decode cX10_worst 9 = .ok (.istore_n 2, 1) := by decide +kernel
theorem dX10_worst_10 : decode cX10_worst 10 = .ok (.iload_n 2, 1) := by decide +kernel
theorem dX10_worst_11 : decode cX10_worst 11 = .ok (.aload_n 0, 1) := by decide +kernel
theorem dX10_worst_12 : decode cX10_worst 12 = .ok (.getfield 147, 3) := by decide +kernel
theorem dX10_worst_15 : decode cX10_worst 15 = .ok (.if_icmp .ge 78, 3) := by decide +kernel
theorem dX10_worst_18 : decode cX10_worst 18 = .ok (.iconst 0, 1) := by decide +kernel
theorem dX10_worst_19 : decode cX10_worst 19 = .ok (.istore_n 3, 1) := by decide +kernel
theorem dX10_worst_20 : decode cX10_worst 20 = .ok (.iconst 0, 1) := by decide +kernel
theorem dX10_worst_21 : decode cX10_worst 21 = .ok (.istore 4, 2) := by decide +kernel
theorem dX10_worst_23 : decode cX10_worst 23 = .ok (.iload 4, 2) := by decide +kernel
theorem dX10_worst_25 : decode cX10_worst 25 = .ok (.aload_n 0, 1) := by decide +kernel
theorem dX10_worst_26 : decode cX10_worst 26 = .ok (.getfield 147, 3) := by decide +kernel
theorem dX10_worst_29 : decode cX10_worst 29 = .ok (.if_icmp .ge 51, 3) := by decide +kernel
theorem dX10_worst_32 : decode cX10_worst 32 = .ok (.iload_n 3, 1) := by decide +kernel
theorem dX10_worst_33 : decode cX10_worst 33 = .ok (.aload_n 0, 1) := by decide +kernel
theorem dX10_worst_34 : decode cX10_worst 34 = .ok (.iload 4, 2) := by decide +kernel
theorem dX10_worst_36 : decode cX10_worst 36 = .ok (.invokevirtual 254, 3) := by decide +kernel
theorem dX10_worst_39 : decode cX10_worst 39 = .ok (.aload_n 0, 1) := by decide +kernel
theorem dX10_worst_40 : decode cX10_worst 40 = .ok (.iload_n 2, 1) := by decide +kernel
theorem dX10_worst_41 : decode cX10_worst 41 = .ok (.invokevirtual 254, 3) := by decide +kernel
theorem dX10_worst_44 : decode cX10_worst 44 = .ok (.if_icmp .gt 23, 3) := by decide +kernel
theorem dX10_worst_47 : decode cX10_worst 47 = .ok (.aload_n 0, 1) := by decide +kernel
theorem dX10_worst_48 : decode cX10_worst 48 = .ok (.iload 4, 2) := by decide +kernel
theorem dX10_worst_50 : decode cX10_worst 50 = .ok (.invokevirtual 254, 3) := by decide +kernel
theorem dX10_worst_53 : decode cX10_worst 53 = .ok (.aload_n 0, 1) := by decide +kernel
theorem dX10_worst_54 : decode cX10_worst 54 = .ok (.iload_n 2, 1) := by decide +kernel
theorem dX10_worst_55 : decode cX10_worst 55 = .ok (.invokevirtual 254, 3) := by decide +kernel
theorem dX10_worst_58 : decode cX10_worst 58 = .ok (.if_icmp .ne 13, 3) := by decide +kernel
theorem dX10_worst_61 : decode cX10_worst 61 = .ok (.iload 4, 2) := by decide +kernel
theorem dX10_worst_63 : decode cX10_worst 63 = .ok (.iload_n 2, 1) := by decide +kernel
theorem dX10_worst_64 : decode cX10_worst 64 = .ok (.if_icmp .ge 7, 3) := by decide +kernel
theorem dX10_worst_67 : decode cX10_worst 67 = .ok (.iconst 1, 1) := by decide +kernel
theorem dX10_worst_68 : decode cX10_worst 68 = .ok (.goto 4, 3) := by decide +kernel
theorem dX10_worst_71 : decode cX10_worst 71 = .ok (.iconst 0, 1) := by decide +kernel
theorem dX10_worst_72 : decode cX10_worst 72 = .ok (.iadd, 1) := by decide +kernel
theorem dX10_worst_73 : decode cX10_worst 73 = .ok (.istore_n 3, 1) := by decide +kernel
theorem dX10_worst_74 : decode cX10_worst 74 = .ok (.iinc 4 1, 3) := by decide +kernel
theorem dX10_worst_77 : decode cX10_worst 77 = .ok (.goto (-54), 3) := by decide +kernel
theorem dX10_worst_80 : decode cX10_worst 80 = .ok (.iload_n 3, 1) := by decide +kernel
theorem dX10_worst_81 : decode cX10_worst 81 = .ok (.iload_n 1, 1) := by decide +kernel
theorem dX10_worst_82 : decode cX10_worst 82 = .ok (.if_icmp .ne 5, 3) := by decide +kernel
theorem dX10_worst_85 : decode cX10_worst 85 = .ok (.iload_n 2, 1) := by decide +kernel
theorem dX10_worst_86 : decode cX10_worst 86 = .ok (.ireturn, 1) := by decide +kernel
theorem dX10_worst_87 : decode cX10_worst 87 = .ok (.iinc 2 1, 3) := by decide +kernel
theorem dX10_worst_90 : decode cX10_worst 90 = .ok (.goto (-80), 3) := by decide +kernel
theorem dX10_worst_93 : decode cX10_worst 93 = .ok (.sipush (-1004), 3) := by decide +kernel
theorem dX10_worst_96 : decode cX10_worst 96 = .ok (.ireturn, 1) := by decide +kernel
theorem dX10_river_0 : decode cX10_river 0 = .ok (.iload_n 1, 1) := by decide +kernel
theorem dX10_river_1 : decode cX10_river 1 = .ok (.ifCond .ge 7, 3) := by decide +kernel
theorem dX10_river_4 : decode cX10_river 4 = .ok (.iconst (-1), 1) := by decide +kernel
theorem dX10_river_5 : decode cX10_river 5 = .ok (.goto 8, 3) := by decide +kernel
theorem dX10_river_8 : decode cX10_river 8 = .ok (.aload_n 0, 1) := by decide +kernel
theorem dX10_river_9 : decode cX10_river 9 = .ok (.iload_n 1, 1) := by decide +kernel
theorem dX10_river_10 : decode cX10_river 10 = .ok (.invokevirtual 248, 3) := by decide +kernel
theorem dX10_river_13 : decode cX10_river 13 = .ok (.istore_n 3, 1) := by decide +kernel
theorem dX10_river_14 : decode cX10_river 14 = .ok (.iload_n 3, 1) := by decide +kernel
theorem dX10_river_15 : decode cX10_river 15 = .ok (.ifCond .ge 7, 3) := by decide +kernel
theorem dX10_river_18 : decode cX10_river 18 = .ok (.sipush (-1001), 3) := by decide +kernel
theorem dX10_river_21 : decode cX10_river 21 = .ok (.ireturn, 1) := by decide +kernel
theorem dX10_river_22 : decode cX10_river 22 = .ok (.iload_n 2, 1) := by decide +kernel
theorem dX10_river_23 : decode cX10_river 23 = .ok (.ifCond .ge 7, 3) := by decide +kernel
theorem dX10_river_26 : decode cX10_river 26 = .ok (.sipush (-1002), 3) := by decide +kernel
theorem dX10_river_29 : decode cX10_river 29 = .ok (.ireturn, 1) := by decide +kernel
theorem dX10_river_30 : decode cX10_river 30 = .ok (.iload_n 2, 1) := by decide +kernel
theorem dX10_river_31 : decode cX10_river 31 = .ok (.aload_n 0, 1) := by decide +kernel
theorem dX10_river_32 : decode cX10_river 32 = .ok (.getfield 57, 3) := by decide +kernel
theorem dX10_river_35 : decode cX10_river 35 = .ok (.iload_n 3, 1) := by decide +kernel
theorem dX10_river_36 : decode cX10_river 36 = .ok (.iaload, 1) := by decide +kernel
theorem dX10_river_37 : decode cX10_river 37 = .ok (.if_icmp .lt 7, 3) := by decide +kernel
theorem dX10_river_40 : decode cX10_river 40 = .ok (.sipush (-1004), 3) := by decide +kernel
theorem dX10_river_43 : decode cX10_river 43 = .ok (.ireturn, 1) := by decide +kernel
theorem dX10_river_44 : decode cX10_river 44 = .ok (.iconst 0, 1) := by decide +kernel
theorem dX10_river_45 : decode cX10_river 45 = .ok (.istore 4, 2) := by decide +kernel
theorem dX10_river_47 : decode cX10_river 47 = .ok (.iload 4, 2) := by decide +kernel
theorem dX10_river_49 : decode cX10_river 49 = .ok (.iload_n 2, 1) := by decide +kernel
theorem dX10_river_50 : decode cX10_river 50 = .ok (.if_icmp .ge 15, 3) := by decide +kernel
theorem dX10_river_53 : decode cX10_river 53 = .ok (.aload_n 0, 1) := by decide +kernel
theorem dX10_river_54 : decode cX10_river 54 = .ok (.iload_n 3, 1) := by decide +kernel
theorem dX10_river_55 : decode cX10_river 55 = .ok (.invokevirtual 227, 3) := by decide +kernel
theorem dX10_river_58 : decode cX10_river 58 = .ok (.istore_n 3, 1) := by decide +kernel
theorem dX10_river_59 : decode cX10_river 59 = .ok (.iinc 4 1, 3) := by decide +kernel
theorem dX10_river_62 : decode cX10_river 62 = .ok (.goto (-15), 3) := by decide +kernel
theorem dX10_river_65 : decode cX10_river 65 = .ok (.bipush 100, 2) := by decide +kernel
theorem dX10_river_67 : decode cX10_river 67 = .ok (.aload_n 0, 1) := by decide +kernel
theorem dX10_river_68 : decode cX10_river 68 = .ok (.getfield 60, 3) := by decide +kernel
theorem dX10_river_71 : decode cX10_river 71 = .ok (.iload_n 3, 1) := by decide +kernel
theorem dX10_river_72 : decode cX10_river 72 = .ok (.iaload, 1) := by decide +kernel
theorem dX10_river_73 : decode cX10_river 73 = .ok (.imul, 1) := by decide +kernel
theorem dX10_river_74 : decode cX10_river 74 = .ok (.iload_n 3, 1) := by decide +kernel
theorem dX10_river_75 : decode cX10_river 75 = .ok (.iadd, 1) := by decide +kernel
theorem dX10_river_76 : decode cX10_river 76 = .ok (.aload_n 0, 1) := by decide +kernel
theorem dX10_river_77 : decode cX10_river 77 = .ok (.getfield 48, 3) := by decide +kernel
theorem dX10_river_80 : decode cX10_river 80 = .ok (.aload_n 0, 1) := by decide +kernel
theorem dX10_river_81 : decode cX10_river 81 = .ok (.getfield 60, 3) := by decide +kernel
theorem dX10_river_84 : decode cX10_river 84 = .ok (.iload_n 3, 1) := by decide +kernel
theorem dX10_river_85 : decode cX10_river 85 = .ok (.iaload, 1) := by decide +kernel
theorem dX10_river_86 : decode cX10_river 86 = .ok (.iaload, 1) := by decide +kernel
theorem dX10_river_87 : decode cX10_river 87 = .ok (.isub, 1) := by decide +kernel
theorem dX10_river_88 : decode cX10_river 88 = .ok (.ireturn, 1) := by decide +kernel
end
section
theorem dJ0_length_8abf5_0 : decode cJ0_length_8abf5 0 = .ok (.aload_n 0, 1) := by decide +kernel
theorem dJ0_length_8abf5_1 : decode cJ0_length_8abf5 1 = .ok (.getfield 9, 3) := by decide +kernel
theorem dJ0_length_8abf5_4 : decode cJ0_length_8abf5 4 = .ok (.arraylength, 1) := by decide +kernel
theorem dJ0_length_8abf5_5 : decode cJ0_length_8abf5 5 = .ok (.aload_n 0, 1) := by decide +kernel
theorem dJ0_length_8abf5_6 : decode cJ0_length_8abf5 6 = .ok (.invokevirtual 335, 3) := by decide +kernel
theorem dJ0_length_8abf5_9 : decode cJ0_length_8abf5 9 = .ok (.ishr, 1) := by decide +kernel
theorem dJ0_length_8abf5_10 : decode cJ0_length_8abf5 10 = .ok (.ireturn, 1) := by decide +kernel
theorem dJ0_charAt_5068e_0 : decode cJ0_charAt_5068e 0 = .ok (.aload_n 0, 1) := by decide +kernel
theorem dJ0_charAt_5068e_1 : decode cJ0_charAt_5068e 1 = .ok (.invokevirtual 492, 3) := by decide +kernel
theorem dJ0_charAt_5068e_4 : decode cJ0_charAt_5068e 4 = .ok (.ifCond .eq 12, 3) := by decide +kernel
theorem dJ0_charAt_5068e_7 : decode cJ0_charAt_5068e 7 = .ok (.aload_n 0, 1) := by decide +kernel
theorem dJ0_charAt_5068e_8 : decode cJ0_charAt_5068e 8 = .ok (.getfield 9, 3) := by decide +kernel
theorem dJ0_charAt_5068e_11 : decode cJ0_charAt_5068e 11 = .ok (.iload_n 1, 1) := by decide +kernel
theorem dJ0_charAt_5068e_12 : decode cJ0_charAt_5068e 12 = .ok (.invokestatic 495, 3) := by decide +kernel
theorem dJ0_charAt_5068e_15 : decode cJ0_charAt_5068e 15 = .ok (.ireturn, 1) := by decide +kernel
theorem dJ0_charAt_5068e_16 : decode cJ0_charAt_5068e 16 = .ok (.aload_n 0, 1) := by decide +kernel
theorem dJ0_charAt_5068e_17 : decode cJ0_charAt_5068e 17 = .ok (.getfield 9, 3) := by decide +kernel
theorem dJ0_charAt_5068e_20 : decode cJ0_charAt_5068e 20 = .ok (.iload_n 1, 1) := by decide +kernel
theorem dJ0_charAt_5068e_21 : decode cJ0_charAt_5068e 21 = .ok (.invokestatic 498, 3) := by decide +kernel
theorem dJ0_charAt_5068e_24 : decode cJ0_charAt_5068e 24 = .ok (.ireturn, 1) := by decide +kernel
theorem dJ0_indexOf_0f7a4_0 : decode cJ0_indexOf_0f7a4 0 = .ok (.aload_n 0, 1) := by decide +kernel
theorem dJ0_indexOf_0f7a4_1 : decode cJ0_indexOf_0f7a4 1 = .ok (.iload_n 1, 1) := by decide +kernel
theorem dJ0_indexOf_0f7a4_2 : decode cJ0_indexOf_0f7a4 2 = .ok (.iconst 0, 1) := by decide +kernel
theorem dJ0_indexOf_0f7a4_3 : decode cJ0_indexOf_0f7a4 3 = .ok (.invokevirtual 633, 3) := by decide +kernel
theorem dJ0_indexOf_0f7a4_6 : decode cJ0_indexOf_0f7a4 6 = .ok (.ireturn, 1) := by decide +kernel
theorem dJ0_indexOf_7cf53_0 : decode cJ0_indexOf_7cf53 0 = .ok (.aload_n 0, 1) := by decide +kernel
theorem dJ0_indexOf_7cf53_1 : decode cJ0_indexOf_7cf53 1 = .ok (.invokevirtual 492, 3) := by decide +kernel
theorem dJ0_indexOf_7cf53_4 : decode cJ0_indexOf_7cf53 4 = .ok (.ifCond .eq 19, 3) := by decide +kernel
theorem dJ0_indexOf_7cf53_7 : decode cJ0_indexOf_7cf53 7 = .ok (.aload_n 0, 1) := by decide +kernel
theorem dJ0_indexOf_7cf53_8 : decode cJ0_indexOf_7cf53 8 = .ok (.getfield 9, 3) := by decide +kernel
theorem dJ0_indexOf_7cf53_11 : decode cJ0_indexOf_7cf53 11 = .ok (.iload_n 1, 1) := by decide +kernel
theorem dJ0_indexOf_7cf53_12 : decode cJ0_indexOf_7cf53 12 = .ok (.iload_n 2, 1) := by decide +kernel
theorem dJ0_indexOf_7cf53_13 : decode cJ0_indexOf_7cf53 13 = .ok (.aload_n 0, 1) := by decide +kernel
theorem dJ0_indexOf_7cf53_14 : decode cJ0_indexOf_7cf53 14 = .ok (.invokevirtual 505, 3) := by decide +kernel
theorem dJ0_indexOf_7cf53_17 : decode cJ0_indexOf_7cf53 17 = .ok (.invokestatic 637, 3) := by decide +kernel
theorem dJ0_indexOf_7cf53_20 : decode cJ0_indexOf_7cf53 20 = .ok (.goto 16, 3) := by decide +kernel
theorem dJ0_indexOf_7cf53_23 : decode cJ0_indexOf_7cf53 23 = .ok (.aload_n 0, 1) := by decide +kernel
theorem dJ0_indexOf_7cf53_24 : decode cJ0_indexOf_7cf53 24 = .ok (.getfield 9, 3) := by decide +kernel
theorem dJ0_indexOf_7cf53_27 : decode cJ0_indexOf_7cf53 27 = .ok (.iload_n 1, 1) := by decide +kernel
theorem dJ0_indexOf_7cf53_28 : decode cJ0_indexOf_7cf53 28 = .ok (.iload_n 2, 1) := by decide +kernel
theorem dJ0_indexOf_7cf53_29 : decode cJ0_indexOf_7cf53 29 = .ok (.aload_n 0, 1) := by decide +kernel
theorem dJ0_indexOf_7cf53_30 : decode cJ0_indexOf_7cf53 30 = .ok (.invokevirtual 505, 3) := by decide +kernel
theorem dJ0_indexOf_7cf53_33 : decode cJ0_indexOf_7cf53 33 = .ok (.invokestatic 640, 3) := by decide +kernel
theorem dJ0_indexOf_7cf53_36 : decode cJ0_indexOf_7cf53 36 = .ok (.ireturn, 1) := by decide +kernel
theorem dJ0_coder_7d493_0 : decode cJ0_coder_7d493 0 = .ok (.getstatic 38, 3) := by decide +kernel
theorem dJ0_coder_7d493_3 : decode cJ0_coder_7d493 3 = .ok (.ifCond .eq 10, 3) := by decide +kernel
theorem dJ0_coder_7d493_6 : decode cJ0_coder_7d493 6 = .ok (.aload_n 0, 1) := by decide +kernel
theorem dJ0_coder_7d493_7 : decode cJ0_coder_7d493 7 = .ok (.getfield 15, 3) := by decide +kernel
theorem dJ0_coder_7d493_10 : decode cJ0_coder_7d493 10 = .ok (.goto 4, 3) := by decide +kernel
theorem dJ0_coder_7d493_13 : decode cJ0_coder_7d493 13 = .ok (.iconst 1, 1) := by decide +kernel
theorem dJ0_coder_7d493_14 : decode cJ0_coder_7d493 14 = .ok (.ireturn, 1) := by decide +kernel
theorem dJ0_isLatin1_aae02_0 : decode cJ0_isLatin1_aae02 0 = .ok (.getstatic 38, 3) := by decide +kernel
theorem dJ0_isLatin1_aae02_3 : decode cJ0_isLatin1_aae02 3 = .ok (.ifCond .eq 14, 3) := by decide +kernel
theorem dJ0_isLatin1_aae02_6 : decode cJ0_isLatin1_aae02 6 = .ok (.aload_n 0, 1) := by decide +kernel
theorem dJ0_isLatin1_aae02_7 : decode cJ0_isLatin1_aae02 7 = .ok (.getfield 15, 3) := by decide +kernel
theorem dJ0_isLatin1_aae02_10 : decode cJ0_isLatin1_aae02 10 = .ok (.ifCond .ne 7, 3) := by decide +kernel
theorem dJ0_isLatin1_aae02_13 : decode cJ0_isLatin1_aae02 13 = .ok (.iconst 1, 1) := by decide +kernel
theorem dJ0_isLatin1_aae02_14 : decode cJ0_isLatin1_aae02 14 = .ok (.goto 4, 3) := by decide +kernel
theorem dJ0_isLatin1_aae02_17 : decode cJ0_isLatin1_aae02 17 = .ok (.iconst 0, 1) := by decide +kernel
theorem dJ0_isLatin1_aae02_18 : decode cJ0_isLatin1_aae02 18 = .ok (.ireturn, 1) := by decide +kernel
theorem dJ0_checkIndex_df160_0 : decode cJ0_checkIndex_df160 0 = .ok (.iload_n 0, 1) := by decide +kernel
theorem dJ0_checkIndex_df160_1 : decode cJ0_checkIndex_df160 1 = .ok (.iload_n 1, 1) := by decide +kernel
theorem dJ0_checkIndex_df160_2 : decode cJ0_checkIndex_df160 2 = .ok (.getstatic 1053, 3) := by decide +kernel
theorem dJ0_checkIndex_df160_5 : decode cJ0_checkIndex_df160 5 = .ok (.invokestatic 1059, 3) := by decide +kernel
theorem dJ0_checkIndex_df160_8 : decode cJ0_checkIndex_df160 8 = .ok (.pop, 1) := by decide +kernel
theorem dJ0_checkIndex_df160_9 : decode cJ0_checkIndex_df160 9 = .ok (.return_, 1) := by decide +kernel
theorem dJ0_checkBoundsBeginEnd_23922_0 : decode cJ0_checkBoundsBeginEnd_23922 0 = .ok (.iload_n 0, 1) := by decide +kernel
theorem dJ0_checkBoundsBeginEnd_23922_1 : decode cJ0_checkBoundsBeginEnd_23922 1 = .ok (.iload_n 1, 1) := by decide +kernel
theorem dJ0_checkBoundsBeginEnd_23922_2 : decode cJ0_checkBoundsBeginEnd_23922 2 = .ok (.iload_n 2, 1) := by decide +kernel
theorem dJ0_checkBoundsBeginEnd_23922_3 : decode cJ0_checkBoundsBeginEnd_23922 3 = .ok (.getstatic 1053, 3) := by decide +kernel
theorem dJ0_checkBoundsBeginEnd_23922_6 : decode cJ0_checkBoundsBeginEnd_23922 6 = .ok (.invokestatic 1062, 3) := by decide +kernel
theorem dJ0_checkBoundsBeginEnd_23922_9 : decode cJ0_checkBoundsBeginEnd_23922 9 = .ok (.pop, 1) := by decide +kernel
theorem dJ0_checkBoundsBeginEnd_23922_10 : decode cJ0_checkBoundsBeginEnd_23922 10 = .ok (.return_, 1) := by decide +kernel
theorem dJ1_charAt_3b067_0 : decode cJ1_charAt_3b067 0 = .ok (.iload_n 1, 1) := by decide +kernel
theorem dJ1_charAt_3b067_1 : decode cJ1_charAt_3b067 1 = .ok (.aload_n 0, 1) := by decide +kernel
theorem dJ1_charAt_3b067_2 : decode cJ1_charAt_3b067 2 = .ok (.arraylength, 1) := by decide +kernel
theorem dJ1_charAt_3b067_3 : decode cJ1_charAt_3b067 3 = .ok (.invokestatic 9, 3) := by decide +kernel
theorem dJ1_charAt_3b067_6 : decode cJ1_charAt_3b067 6 = .ok (.aload_n 0, 1) := by decide +kernel
theorem dJ1_charAt_3b067_7 : decode cJ1_charAt_3b067 7 = .ok (.iload_n 1, 1) := by decide +kernel
theorem dJ1_charAt_3b067_8 : decode cJ1_charAt_3b067 8 = .ok (.baload, 1) := by decide +kernel
theorem dJ1_charAt_3b067_9 : decode cJ1_charAt_3b067 9 = .ok (.sipush 255, 3) := by decide +kernel
theorem dJ1_charAt_3b067_12 : decode cJ1_charAt_3b067 12 = .ok (.iand, 1) := by decide +kernel
theorem dJ1_charAt_3b067_13 : decode cJ1_charAt_3b067 13 = .ok (.i2c, 1) := by decide +kernel
theorem dJ1_charAt_3b067_14 : decode cJ1_charAt_3b067 14 = .ok (.ireturn, 1) := by decide +kernel
theorem dJ1_canEncode_9a6ad_0 : decode cJ1_canEncode_9a6ad 0 = .ok (.iload_n 0, 1) := by decide +kernel
theorem dJ1_canEncode_9a6ad_1 : decode cJ1_canEncode_9a6ad 1 = .ok (.ifCond .lt 14, 3) := by decide +kernel
theorem dJ1_canEncode_9a6ad_4 : decode cJ1_canEncode_9a6ad 4 = .ok (.iload_n 0, 1) := by decide +kernel
theorem dJ1_canEncode_9a6ad_5 : decode cJ1_canEncode_9a6ad 5 = .ok (.sipush 255, 3) := by decide +kernel
theorem dJ1_canEncode_9a6ad_8 : decode cJ1_canEncode_9a6ad 8 = .ok (.if_icmp .gt 7, 3) := by decide +kernel
theorem dJ1_canEncode_9a6ad_11 : decode cJ1_canEncode_9a6ad 11 = .ok (.iconst 1, 1) := by decide +kernel
theorem dJ1_canEncode_9a6ad_12 : decode cJ1_canEncode_9a6ad 12 = .ok (.goto 4, 3) := by decide +kernel
theorem dJ1_canEncode_9a6ad_15 : decode cJ1_canEncode_9a6ad 15 = .ok (.iconst 0, 1) := by decide +kernel
theorem dJ1_canEncode_9a6ad_16 : decode cJ1_canEncode_9a6ad 16 = .ok (.ireturn, 1) := by decide +kernel
theorem dJ1_indexOf_4cfef_0 : decode cJ1_indexOf_4cfef 0 = .ok (.iload_n 1, 1) := by decide +kernel
theorem dJ1_indexOf_4cfef_1 : decode cJ1_indexOf_4cfef 1 = .ok (.invokestatic 88, 3) := by decide +kernel
theorem dJ1_indexOf_4cfef_4 : decode cJ1_indexOf_4cfef 4 = .ok (.ifCond .ne 5, 3) := by decide +kernel
theorem dJ1_indexOf_4cfef_7 : decode cJ1_indexOf_4cfef 7 = .ok (.iconst (-1), 1) := by decide +kernel
theorem dJ1_indexOf_4cfef_8 : decode cJ1_indexOf_4cfef 8 = .ok (.ireturn, 1) := by decide +kernel
theorem dJ1_indexOf_4cfef_9 : decode cJ1_indexOf_4cfef 9 = .ok (.iload_n 2, 1) := by decide +kernel
theorem dJ1_indexOf_4cfef_10 : decode cJ1_indexOf_4cfef 10 = .ok (.iconst 0, 1) := by decide +kernel
theorem dJ1_indexOf_4cfef_11 : decode cJ1_indexOf_4cfef 11 = .ok (.invokestatic 92, 3) := by decide +kernel
theorem dJ1_indexOf_4cfef_14 : decode cJ1_indexOf_4cfef 14 = .ok (.istore_n 2, 1) := by decide +kernel
theorem dJ1_indexOf_4cfef_15 : decode cJ1_indexOf_4cfef 15 = .ok (.iload_n 3, 1) := by decide +kernel
theorem dJ1_indexOf_4cfef_16 : decode cJ1_indexOf_4cfef 16 = .ok (.aload_n 0, 1) := by decide +kernel
theorem dJ1_indexOf_4cfef_17 : decode cJ1_indexOf_4cfef 17 = .ok (.arraylength, 1) := by decide +kernel
theorem dJ1_indexOf_4cfef_18 : decode cJ1_indexOf_4cfef 18 = .ok (.invokestatic 38, 3) := by decide +kernel
theorem dJ1_indexOf_4cfef_21 : decode cJ1_indexOf_4cfef 21 = .ok (.istore_n 3, 1) := by decide +kernel
theorem dJ1_indexOf_4cfef_22 : decode cJ1_indexOf_4cfef 22 = .ok (.iload_n 2, 1) := by decide +kernel
theorem dJ1_indexOf_4cfef_23 : decode cJ1_indexOf_4cfef 23 = .ok (.iload_n 3, 1) := by decide +kernel
theorem dJ1_indexOf_4cfef_24 : decode cJ1_indexOf_4cfef 24 = .ok (.if_icmp .lt 5, 3) := by decide +kernel
theorem dJ1_indexOf_4cfef_27 : decode cJ1_indexOf_4cfef 27 = .ok (.iconst (-1), 1) := by decide +kernel
theorem dJ1_indexOf_4cfef_28 : decode cJ1_indexOf_4cfef 28 = .ok (.ireturn, 1) := by decide +kernel
theorem dJ1_indexOf_4cfef_29 : decode cJ1_indexOf_4cfef 29 = .ok (.aload_n 0, 1) := by decide +kernel
theorem dJ1_indexOf_4cfef_30 : decode cJ1_indexOf_4cfef 30 = .ok (.iload_n 1, 1) := by decide +kernel
theorem dJ1_indexOf_4cfef_31 : decode cJ1_indexOf_4cfef 31 = .ok (.iload_n 2, 1) := by decide +kernel
theorem dJ1_indexOf_4cfef_32 : decode cJ1_indexOf_4cfef 32 = .ok (.iload_n 3, 1) := by decide +kernel
theorem dJ1_indexOf_4cfef_33 : decode cJ1_indexOf_4cfef 33 = .ok (.invokestatic 95, 3) := by decide +kernel
theorem dJ1_indexOf_4cfef_36 : decode cJ1_indexOf_4cfef 36 = .ok (.ireturn, 1) := by decide +kernel
theorem dJ1_indexOfChar_4cfef_0 : decode cJ1_indexOfChar_4cfef 0 = .ok (.iload_n 1, 1) := by decide +kernel
theorem dJ1_indexOfChar_4cfef_1 : decode cJ1_indexOfChar_4cfef 1 = .ok (.i2b, 1) := by decide +kernel
theorem dJ1_indexOfChar_4cfef_2 : decode cJ1_indexOfChar_4cfef 2 = .ok (.istore 4, 2) := by decide +kernel
theorem dJ1_indexOfChar_4cfef_4 : decode cJ1_indexOfChar_4cfef 4 = .ok (.iload_n 2, 1) := by decide +kernel
theorem dJ1_indexOfChar_4cfef_5 : decode cJ1_indexOfChar_4cfef 5 = .ok (.istore 5, 2) := by decide +kernel
theorem dJ1_indexOfChar_4cfef_7 : decode cJ1_indexOfChar_4cfef 7 = .ok (.iload 5, 2) := by decide +kernel
theorem dJ1_indexOfChar_4cfef_9 : decode cJ1_indexOfChar_4cfef 9 = .ok (.iload_n 3, 1) := by decide +kernel
theorem dJ1_indexOfChar_4cfef_10 : decode cJ1_indexOfChar_4cfef 10 = .ok (.if_icmp .ge 21, 3) := by decide +kernel
theorem dJ1_indexOfChar_4cfef_13 : decode cJ1_indexOfChar_4cfef 13 = .ok (.aload_n 0, 1) := by decide +kernel
theorem dJ1_indexOfChar_4cfef_14 : decode cJ1_indexOfChar_4cfef 14 = .ok (.iload 5, 2) := by decide +kernel
theorem dJ1_indexOfChar_4cfef_16 : decode cJ1_indexOfChar_4cfef 16 = .ok (.baload, 1) := by decide +kernel
theorem dJ1_indexOfChar_4cfef_17 : decode cJ1_indexOfChar_4cfef 17 = .ok (.iload 4, 2) := by decide +kernel
theorem dJ1_indexOfChar_4cfef_19 : decode cJ1_indexOfChar_4cfef 19 = .ok (.if_icmp .ne 6, 3) := by decide +kernel
theorem dJ1_indexOfChar_4cfef_22 : decode cJ1_indexOfChar_4cfef 22 = .ok (.iload 5, 2) := by decide +kernel
theorem dJ1_indexOfChar_4cfef_24 : decode cJ1_indexOfChar_4cfef 24 = .ok (.ireturn, 1) := by decide +kernel
theorem dJ1_indexOfChar_4cfef_25 : decode cJ1_indexOfChar_4cfef 25 = .ok (.iinc 5 1, 3) := by decide +kernel
theorem dJ1_indexOfChar_4cfef_28 : decode cJ1_indexOfChar_4cfef 28 = .ok (.goto (-21), 3) := by decide +kernel
theorem dJ1_indexOfChar_4cfef_31 : decode cJ1_indexOfChar_4cfef 31 = .ok (.iconst (-1), 1) := by decide +kernel
theorem dJ1_indexOfChar_4cfef_32 : decode cJ1_indexOfChar_4cfef 32 = .ok (.ireturn, 1) := by decide +kernel
theorem dJ3_checkIndex_8e157_0 : decode cJ3_checkIndex_8e157 0 = .ok (.iload_n 0, 1) := by decide +kernel
theorem dJ3_checkIndex_8e157_1 : decode cJ3_checkIndex_8e157 1 = .ok (.ifCond .lt 8, 3) := by decide +kernel
theorem dJ3_checkIndex_8e157_4 : decode cJ3_checkIndex_8e157 4 = .ok (.iload_n 0, 1) := by decide +kernel
theorem dJ3_checkIndex_8e157_5 : decode cJ3_checkIndex_8e157 5 = .ok (.iload_n 1, 1) := by decide +kernel
theorem dJ3_checkIndex_8e157_6 : decode cJ3_checkIndex_8e157 6 = .ok (.if_icmp .lt 10, 3) := by decide +kernel
theorem dJ3_checkIndex_8e157_9 : decode cJ3_checkIndex_8e157 9 = .ok (.aload_n 2, 1) := by decide +kernel
theorem dJ3_checkIndex_8e157_10 : decode cJ3_checkIndex_8e157 10 = .ok (.iload_n 0, 1) := by decide +kernel
theorem dJ3_checkIndex_8e157_11 : decode cJ3_checkIndex_8e157 11 = .ok (.iload_n 1, 1) := by decide +kernel
theorem dJ3_checkIndex_8e157_12 : decode cJ3_checkIndex_8e157 12 = .ok (.invokestatic 95, 3) := by decide +kernel
theorem dJ3_checkIndex_8e157_15 : decode cJ3_checkIndex_8e157 15 = .ok (.athrow, 1) := by decide +kernel
theorem dJ3_checkIndex_8e157_16 : decode cJ3_checkIndex_8e157 16 = .ok (.iload_n 0, 1) := by decide +kernel
theorem dJ3_checkIndex_8e157_17 : decode cJ3_checkIndex_8e157 17 = .ok (.ireturn, 1) := by decide +kernel
theorem dJ3_checkFromToIndex_8c36e_0 : decode cJ3_checkFromToIndex_8c36e 0 = .ok (.iload_n 0, 1) := by decide +kernel
theorem dJ3_checkFromToIndex_8c36e_1 : decode cJ3_checkFromToIndex_8c36e 1 = .ok (.ifCond .lt 13, 3) := by decide +kernel
theorem dJ3_checkFromToIndex_8c36e_4 : decode cJ3_checkFromToIndex_8c36e 4 = .ok (.iload_n 0, 1) := by decide +kernel
theorem dJ3_checkFromToIndex_8c36e_5 : decode cJ3_checkFromToIndex_8c36e 5 = .ok (.iload_n 1, 1) := by decide +kernel
theorem dJ3_checkFromToIndex_8c36e_6 : decode cJ3_checkFromToIndex_8c36e 6 = .ok (.if_icmp .gt 8, 3) := by decide +kernel
theorem dJ3_checkFromToIndex_8c36e_9 : decode cJ3_checkFromToIndex_8c36e 9 = .ok (.iload_n 1, 1) := by decide +kernel
theorem dJ3_checkFromToIndex_8c36e_10 : decode cJ3_checkFromToIndex_8c36e 10 = .ok (.iload_n 2, 1) := by decide +kernel
theorem dJ3_checkFromToIndex_8c36e_11 : decode cJ3_checkFromToIndex_8c36e 11 = .ok (.if_icmp .le 11, 3) := by decide +kernel
theorem dJ3_checkFromToIndex_8c36e_14 : decode cJ3_checkFromToIndex_8c36e 14 = .ok (.aload_n 3, 1) := by decide +kernel
theorem dJ3_checkFromToIndex_8c36e_15 : decode cJ3_checkFromToIndex_8c36e 15 = .ok (.iload_n 0, 1) := by decide +kernel
theorem dJ3_checkFromToIndex_8c36e_16 : decode cJ3_checkFromToIndex_8c36e 16 = .ok (.iload_n 1, 1) := by decide +kernel
theorem dJ3_checkFromToIndex_8c36e_17 : decode cJ3_checkFromToIndex_8c36e 17 = .ok (.iload_n 2, 1) := by decide +kernel
theorem dJ3_checkFromToIndex_8c36e_18 : decode cJ3_checkFromToIndex_8c36e 18 = .ok (.invokestatic 99, 3) := by decide +kernel
theorem dJ3_checkFromToIndex_8c36e_21 : decode cJ3_checkFromToIndex_8c36e 21 = .ok (.athrow, 1) := by decide +kernel
theorem dJ3_checkFromToIndex_8c36e_22 : decode cJ3_checkFromToIndex_8c36e 22 = .ok (.iload_n 0, 1) := by decide +kernel
theorem dJ3_checkFromToIndex_8c36e_23 : decode cJ3_checkFromToIndex_8c36e 23 = .ok (.ireturn, 1) := by decide +kernel
theorem dL_law_0 : decode cL_law 0 = .ok (.new 7, 3) := by decide +kernel
theorem dL_law_3 : decode cL_law 3 = .ok (.dup, 1) := by decide +kernel
theorem dL_law_4 : decode cL_law 4 = .ok (.invokespecial 9, 3) := by decide +kernel
theorem dL_law_7 : decode cL_law 7 = .ok (.astore_n 1, 1) := by decide +kernel
theorem dL_law_8 : decode cL_law 8 = .ok (.new 10, 3) := by decide +kernel
theorem dL_law_11 : decode cL_law 11 = .ok (.dup, 1) := by decide +kernel
theorem dL_law_12 : decode cL_law 12 = .ok (.invokespecial 12, 3) := by decide +kernel
theorem dL_law_15 : decode cL_law 15 = .ok (.astore_n 2, 1) := by decide +kernel
theorem dL_law_16 : decode cL_law 16 = .ok (.iconst 0, 1) := by decide +kernel
theorem dL_law_17 : decode cL_law 17 = .ok (.istore_n 3, 1) := by decide +kernel
theorem dL_law_18 : decode cL_law 18 = .ok (.iload_n 3, 1) := by decide +kernel
theorem dL_law_19 : decode cL_law 19 = .ok (.aload_n 0, 1) := by decide +kernel
theorem dL_law_20 : decode cL_law 20 = .ok (.arraylength, 1) := by decide +kernel
theorem dL_law_21 : decode cL_law 21 = .ok (.iconst 5, 1) := by decide +kernel
theorem dL_law_22 : decode cL_law 22 = .ok (.isub, 1) := by decide +kernel
theorem dL_law_23 : decode cL_law 23 = .ok (.if_icmp .gt 623, 3) := by decide +kernel
theorem dL_law_26 : decode cL_law 26 = .ok (.aload_n 0, 1) := by decide +kernel
theorem dL_law_27 : decode cL_law 27 = .ok (.iload_n 3, 1) := by decide +kernel
theorem dL_law_28 : decode cL_law 28 = .ok (.iaload, 1) := by decide +kernel
theorem dL_law_29 : decode cL_law 29 = .ok (.bipush 31, 2) := by decide +kernel
theorem dL_law_31 : decode cL_law 31 = .ok (.iand, 1) := by decide +kernel
theorem dL_law_32 : decode cL_law 32 = .ok (.tableswitch 608 0 19 #[96, 121, 134, 147, 160, 183, 206, 229, 282, 295, 318, 331, 354, 387, 420, 453, 496, 519, 552, 575], 96) := by decide +kernel
theorem dL_law_128 : decode cL_law 128 = .ok (.aload_n 1, 1) := by decide +kernel
theorem dL_law_129 : decode cL_law 129 = .ok (.aload_n 0, 1) := by decide +kernel
theorem dL_law_130 : decode cL_law 130 = .ok (.iload_n 3, 1) := by decide +kernel
theorem dL_law_131 : decode cL_law 131 = .ok (.iconst 1, 1) := by decide +kernel
theorem dL_law_132 : decode cL_law 132 = .ok (.iadd, 1) := by decide +kernel
theorem dL_law_133 : decode cL_law 133 = .ok (.iaload, 1) := by decide +kernel
theorem dL_law_134 : decode cL_law 134 = .ok (.i2c, 1) := by decide +kernel
theorem dL_law_135 : decode cL_law 135 = .ok (.invokevirtual 13, 3) := by decide +kernel
theorem dL_law_138 : decode cL_law 138 = .ok (.aload_n 2, 1) := by decide +kernel
theorem dL_law_139 : decode cL_law 139 = .ok (.aload_n 0, 1) := by decide +kernel
theorem dL_law_140 : decode cL_law 140 = .ok (.iload_n 3, 1) := by decide +kernel
theorem dL_law_141 : decode cL_law 141 = .ok (.iconst 1, 1) := by decide +kernel
theorem dL_law_142 : decode cL_law 142 = .ok (.iadd, 1) := by decide +kernel
theorem dL_law_143 : decode cL_law 143 = .ok (.iaload, 1) := by decide +kernel
theorem dL_law_144 : decode cL_law 144 = .ok (.i2c, 1) := by decide +kernel
theorem dL_law_145 : decode cL_law 145 = .ok (.invokevirtual 17, 3) := by decide +kernel
theorem dL_law_148 : decode cL_law 148 = .ok (.if_icmp .eq 492, 3) := by decide +kernel
theorem dL_law_151 : decode cL_law 151 = .ok (.iconst 0, 1) := by decide +kernel
theorem dL_law_152 : decode cL_law 152 = .ok (.ireturn, 1) := by decide +kernel
theorem dL_law_153 : decode cL_law 153 = .ok (.aload_n 1, 1) := by decide +kernel
theorem dL_law_154 : decode cL_law 154 = .ok (.invokevirtual 18, 3) := by decide +kernel
theorem dL_law_157 : decode cL_law 157 = .ok (.aload_n 2, 1) := by decide +kernel
theorem dL_law_158 : decode cL_law 158 = .ok (.invokevirtual 22, 3) := by decide +kernel
theorem dL_law_161 : decode cL_law 161 = .ok (.if_icmp .eq 479, 3) := by decide +kernel
theorem dL_law_164 : decode cL_law 164 = .ok (.iconst 0, 1) := by decide +kernel
theorem dL_law_165 : decode cL_law 165 = .ok (.ireturn, 1) := by decide +kernel
theorem dL_law_166 : decode cL_law 166 = .ok (.aload_n 1, 1) := by decide +kernel
theorem dL_law_167 : decode cL_law 167 = .ok (.invokevirtual 23, 3) := by decide +kernel
theorem dL_law_170 : decode cL_law 170 = .ok (.aload_n 2, 1) := by decide +kernel
theorem dL_law_171 : decode cL_law 171 = .ok (.invokevirtual 26, 3) := by decide +kernel
theorem dL_law_174 : decode cL_law 174 = .ok (.if_icmp .eq 466, 3) := by decide +kernel
theorem dL_law_177 : decode cL_law 177 = .ok (.iconst 0, 1) := by decide +kernel
theorem dL_law_178 : decode cL_law 178 = .ok (.ireturn, 1) := by decide +kernel
theorem dL_law_179 : decode cL_law 179 = .ok (.aload_n 1, 1) := by decide +kernel
theorem dL_law_180 : decode cL_law 180 = .ok (.invokevirtual 27, 3) := by decide +kernel
theorem dL_law_183 : decode cL_law 183 = .ok (.aload_n 2, 1) := by decide +kernel
theorem dL_law_184 : decode cL_law 184 = .ok (.invokevirtual 30, 3) := by decide +kernel
theorem dL_law_187 : decode cL_law 187 = .ok (.if_icmp .eq 453, 3) := by decide +kernel
theorem dL_law_190 : decode cL_law 190 = .ok (.iconst 0, 1) := by decide +kernel
theorem dL_law_191 : decode cL_law 191 = .ok (.ireturn, 1) := by decide +kernel
theorem dL_law_192 : decode cL_law 192 = .ok (.aload_n 1, 1) := by decide +kernel
theorem dL_law_193 : decode cL_law 193 = .ok (.aload_n 0, 1) := by decide +kernel
theorem dL_law_194 : decode cL_law 194 = .ok (.iload_n 3, 1) := by decide +kernel
theorem dL_law_195 : decode cL_law 195 = .ok (.iconst 1, 1) := by decide +kernel
theorem dL_law_196 : decode cL_law 196 = .ok (.iadd, 1) := by decide +kernel
theorem dL_law_197 : decode cL_law 197 = .ok (.iaload, 1) := by decide +kernel
theorem dL_law_198 : decode cL_law 198 = .ok (.invokevirtual 31, 3) := by decide +kernel
theorem dL_law_201 : decode cL_law 201 = .ok (.aload_n 2, 1) := by decide +kernel
theorem dL_law_202 : decode cL_law 202 = .ok (.aload_n 0, 1) := by decide +kernel
theorem dL_law_203 : decode cL_law 203 = .ok (.iload_n 3, 1) := by decide +kernel
theorem dL_law_204 : decode cL_law 204 = .ok (.iconst 1, 1) := by decide +kernel
theorem dL_law_205 : decode cL_law 205 = .ok (.iadd, 1) := by decide +kernel
theorem dL_law_206 : decode cL_law 206 = .ok (.iaload, 1) := by decide +kernel
theorem dL_law_207 : decode cL_law 207 = .ok (.invokevirtual 35, 3) := by decide +kernel
theorem dL_law_210 : decode cL_law 210 = .ok (.if_icmp .eq 430, 3) := by decide +kernel
theorem dL_law_213 : decode cL_law 213 = .ok (.iconst 0, 1) := by decide +kernel
theorem dL_law_214 : decode cL_law 214 = .ok (.ireturn, 1) := by decide +kernel
theorem dL_law_215 : decode cL_law 215 = .ok (.aload_n 1, 1) := by decide +kernel
theorem dL_law_216 : decode cL_law 216 = .ok (.aload_n 0, 1) := by decide +kernel
theorem dL_law_217 : decode cL_law 217 = .ok (.iload_n 3, 1) := by decide +kernel
theorem dL_law_218 : decode cL_law 218 = .ok (.iconst 1, 1) := by decide +kernel
theorem dL_law_219 : decode cL_law 219 = .ok (.iadd, 1) := by decide +kernel
theorem dL_law_220 : decode cL_law 220 = .ok (.iaload, 1) := by decide +kernel
theorem dL_law_221 : decode cL_law 221 = .ok (.invokevirtual 36, 3) := by decide +kernel
theorem dL_law_224 : decode cL_law 224 = .ok (.aload_n 2, 1) := by decide +kernel
theorem dL_law_225 : decode cL_law 225 = .ok (.aload_n 0, 1) := by decide +kernel
theorem dL_law_226 : decode cL_law 226 = .ok (.iload_n 3, 1) := by decide +kernel
theorem dL_law_227 : decode cL_law 227 = .ok (.iconst 1, 1) := by decide +kernel
theorem dL_law_228 : decode cL_law 228 = .ok (.iadd, 1) := by decide +kernel
theorem dL_law_229 : decode cL_law 229 = .ok (.iaload, 1) := by decide +kernel
theorem dL_law_230 : decode cL_law 230 = .ok (.invokevirtual 39, 3) := by decide +kernel
theorem dL_law_233 : decode cL_law 233 = .ok (.if_icmp .eq 407, 3) := by decide +kernel
theorem dL_law_236 : decode cL_law 236 = .ok (.iconst 0, 1) := by decide +kernel
theorem dL_law_237 : decode cL_law 237 = .ok (.ireturn, 1) := by decide +kernel
theorem dL_law_238 : decode cL_law 238 = .ok (.aload_n 1, 1) := by decide +kernel
theorem dL_law_239 : decode cL_law 239 = .ok (.aload_n 0, 1) := by decide +kernel
theorem dL_law_240 : decode cL_law 240 = .ok (.iload_n 3, 1) := by decide +kernel
theorem dL_law_241 : decode cL_law 241 = .ok (.iconst 1, 1) := by decide +kernel
theorem dL_law_242 : decode cL_law 242 = .ok (.iadd, 1) := by decide +kernel
theorem dL_law_243 : decode cL_law 243 = .ok (.iaload, 1) := by decide +kernel
theorem dL_law_244 : decode cL_law 244 = .ok (.invokevirtual 40, 3) := by decide +kernel
theorem dL_law_247 : decode cL_law 247 = .ok (.aload_n 2, 1) := by decide +kernel
theorem dL_law_248 : decode cL_law 248 = .ok (.aload_n 0, 1) := by decide +kernel
theorem dL_law_249 : decode cL_law 249 = .ok (.iload_n 3, 1) := by decide +kernel
theorem dL_law_250 : decode cL_law 250 = .ok (.iconst 1, 1) := by decide +kernel
theorem dL_law_251 : decode cL_law 251 = .ok (.iadd, 1) := by decide +kernel
theorem dL_law_252 : decode cL_law 252 = .ok (.iaload, 1) := by decide +kernel
theorem dL_law_253 : decode cL_law 253 = .ok (.invokevirtual 43, 3) := by decide +kernel
theorem dL_law_256 : decode cL_law 256 = .ok (.if_icmp .eq 384, 3) := by decide +kernel
theorem dL_law_259 : decode cL_law 259 = .ok (.iconst 0, 1) := by decide +kernel
theorem dL_law_260 : decode cL_law 260 = .ok (.ireturn, 1) := by decide +kernel
theorem dL_law_261 : decode cL_law 261 = .ok (.aload_n 1, 1) := by decide +kernel
theorem dL_law_262 : decode cL_law 262 = .ok (.aload_n 0, 1) := by decide +kernel
theorem dL_law_263 : decode cL_law 263 = .ok (.iload_n 3, 1) := by decide +kernel
theorem dL_law_264 : decode cL_law 264 = .ok (.iconst 1, 1) := by decide +kernel
theorem dL_law_265 : decode cL_law 265 = .ok (.iadd, 1) := by decide +kernel
theorem dL_law_266 : decode cL_law 266 = .ok (.iaload, 1) := by decide +kernel
theorem dL_law_267 : decode cL_law 267 = .ok (.aload_n 0, 1) := by decide +kernel
theorem dL_law_268 : decode cL_law 268 = .ok (.iload_n 3, 1) := by decide +kernel
theorem dL_law_269 : decode cL_law 269 = .ok (.iconst 2, 1) := by decide +kernel
theorem dL_law_270 : decode cL_law 270 = .ok (.iadd, 1) := by decide +kernel
theorem dL_law_271 : decode cL_law 271 = .ok (.iaload, 1) := by decide +kernel
theorem dL_law_272 : decode cL_law 272 = .ok (.aload_n 0, 1) := by decide +kernel
theorem dL_law_273 : decode cL_law 273 = .ok (.iload_n 3, 1) := by decide +kernel
theorem dL_law_274 : decode cL_law 274 = .ok (.iconst 3, 1) := by decide +kernel
theorem dL_law_275 : decode cL_law 275 = .ok (.iadd, 1) := by decide +kernel
theorem dL_law_276 : decode cL_law 276 = .ok (.iaload, 1) := by decide +kernel
theorem dL_law_277 : decode cL_law 277 = .ok (.aload_n 0, 1) := by decide +kernel
theorem dL_law_278 : decode cL_law 278 = .ok (.iload_n 3, 1) := by decide +kernel
theorem dL_law_279 : decode cL_law 279 = .ok (.iconst 4, 1) := by decide +kernel
theorem dL_law_280 : decode cL_law 280 = .ok (.iadd, 1) := by decide +kernel
theorem dL_law_281 : decode cL_law 281 = .ok (.iaload, 1) := by decide +kernel
theorem dL_law_282 : decode cL_law 282 = .ok (.invokevirtual 44, 3) := by decide +kernel
theorem dL_law_285 : decode cL_law 285 = .ok (.aload_n 2, 1) := by decide +kernel
theorem dL_law_286 : decode cL_law 286 = .ok (.aload_n 0, 1) := by decide +kernel
theorem dL_law_287 : decode cL_law 287 = .ok (.iload_n 3, 1) := by decide +kernel
theorem dL_law_288 : decode cL_law 288 = .ok (.iconst 1, 1) := by decide +kernel
theorem dL_law_289 : decode cL_law 289 = .ok (.iadd, 1) := by decide +kernel
theorem dL_law_290 : decode cL_law 290 = .ok (.iaload, 1) := by decide +kernel
theorem dL_law_291 : decode cL_law 291 = .ok (.aload_n 0, 1) := by decide +kernel
theorem dL_law_292 : decode cL_law 292 = .ok (.iload_n 3, 1) := by decide +kernel
theorem dL_law_293 : decode cL_law 293 = .ok (.iconst 2, 1) := by decide +kernel
theorem dL_law_294 : decode cL_law 294 = .ok (.iadd, 1) := by decide +kernel
theorem dL_law_295 : decode cL_law 295 = .ok (.iaload, 1) := by decide +kernel
theorem dL_law_296 : decode cL_law 296 = .ok (.aload_n 0, 1) := by decide +kernel
theorem dL_law_297 : decode cL_law 297 = .ok (.iload_n 3, 1) := by decide +kernel
theorem dL_law_298 : decode cL_law 298 = .ok (.iconst 3, 1) := by decide +kernel
theorem dL_law_299 : decode cL_law 299 = .ok (.iadd, 1) := by decide +kernel
theorem dL_law_300 : decode cL_law 300 = .ok (.iaload, 1) := by decide +kernel
theorem dL_law_301 : decode cL_law 301 = .ok (.aload_n 0, 1) := by decide +kernel
theorem dL_law_302 : decode cL_law 302 = .ok (.iload_n 3, 1) := by decide +kernel
theorem dL_law_303 : decode cL_law 303 = .ok (.iconst 4, 1) := by decide +kernel
theorem dL_law_304 : decode cL_law 304 = .ok (.iadd, 1) := by decide +kernel
theorem dL_law_305 : decode cL_law 305 = .ok (.iaload, 1) := by decide +kernel
theorem dL_law_306 : decode cL_law 306 = .ok (.invokevirtual 48, 3) := by decide +kernel
theorem dL_law_309 : decode cL_law 309 = .ok (.if_icmp .eq 331, 3) := by decide +kernel
theorem dL_law_312 : decode cL_law 312 = .ok (.iconst 0, 1) := by decide +kernel
theorem dL_law_313 : decode cL_law 313 = .ok (.ireturn, 1) := by decide +kernel
theorem dL_law_314 : decode cL_law 314 = .ok (.aload_n 1, 1) := by decide +kernel
theorem dL_law_315 : decode cL_law 315 = .ok (.invokevirtual 49, 3) := by decide +kernel
theorem dL_law_318 : decode cL_law 318 = .ok (.aload_n 2, 1) := by decide +kernel
theorem dL_law_319 : decode cL_law 319 = .ok (.invokevirtual 52, 3) := by decide +kernel
theorem dL_law_322 : decode cL_law 322 = .ok (.if_icmp .eq 318, 3) := by decide +kernel
theorem dL_law_325 : decode cL_law 325 = .ok (.iconst 0, 1) := by decide +kernel
theorem dL_law_326 : decode cL_law 326 = .ok (.ireturn, 1) := by decide +kernel
theorem dL_law_327 : decode cL_law 327 = .ok (.aload_n 1, 1) := by decide +kernel
theorem dL_law_328 : decode cL_law 328 = .ok (.aload_n 0, 1) := by decide +kernel
theorem dL_law_329 : decode cL_law 329 = .ok (.iload_n 3, 1) := by decide +kernel
theorem dL_law_330 : decode cL_law 330 = .ok (.iconst 1, 1) := by decide +kernel
theorem dL_law_331 : decode cL_law 331 = .ok (.iadd, 1) := by decide +kernel
theorem dL_law_332 : decode cL_law 332 = .ok (.iaload, 1) := by decide +kernel
theorem dL_law_333 : decode cL_law 333 = .ok (.invokevirtual 53, 3) := by decide +kernel
theorem dL_law_336 : decode cL_law 336 = .ok (.aload_n 2, 1) := by decide +kernel
theorem dL_law_337 : decode cL_law 337 = .ok (.aload_n 0, 1) := by decide +kernel
theorem dL_law_338 : decode cL_law 338 = .ok (.iload_n 3, 1) := by decide +kernel
theorem dL_law_339 : decode cL_law 339 = .ok (.iconst 1, 1) := by decide +kernel
theorem dL_law_340 : decode cL_law 340 = .ok (.iadd, 1) := by decide +kernel
theorem dL_law_341 : decode cL_law 341 = .ok (.iaload, 1) := by decide +kernel
theorem dL_law_342 : decode cL_law 342 = .ok (.invokevirtual 56, 3) := by decide +kernel
theorem dL_law_345 : decode cL_law 345 = .ok (.if_icmp .eq 295, 3) := by decide +kernel
theorem dL_law_348 : decode cL_law 348 = .ok (.iconst 0, 1) := by decide +kernel
theorem dL_law_349 : decode cL_law 349 = .ok (.ireturn, 1) := by decide +kernel
theorem dL_law_350 : decode cL_law 350 = .ok (.aload_n 1, 1) := by decide +kernel
theorem dL_law_351 : decode cL_law 351 = .ok (.invokevirtual 57, 3) := by decide +kernel
theorem dL_law_354 : decode cL_law 354 = .ok (.aload_n 2, 1) := by decide +kernel
theorem dL_law_355 : decode cL_law 355 = .ok (.invokevirtual 60, 3) := by decide +kernel
theorem dL_law_358 : decode cL_law 358 = .ok (.if_icmp .eq 282, 3) := by decide +kernel
theorem dL_law_361 : decode cL_law 361 = .ok (.iconst 0, 1) := by decide +kernel
theorem dL_law_362 : decode cL_law 362 = .ok (.ireturn, 1) := by decide +kernel
theorem dL_law_363 : decode cL_law 363 = .ok (.aload_n 1, 1) := by decide +kernel
theorem dL_law_364 : decode cL_law 364 = .ok (.aload_n 0, 1) := by decide +kernel
theorem dL_law_365 : decode cL_law 365 = .ok (.iload_n 3, 1) := by decide +kernel
theorem dL_law_366 : decode cL_law 366 = .ok (.iconst 1, 1) := by decide +kernel
theorem dL_law_367 : decode cL_law 367 = .ok (.iadd, 1) := by decide +kernel
theorem dL_law_368 : decode cL_law 368 = .ok (.iaload, 1) := by decide +kernel
theorem dL_law_369 : decode cL_law 369 = .ok (.invokevirtual 61, 3) := by decide +kernel
theorem dL_law_372 : decode cL_law 372 = .ok (.aload_n 2, 1) := by decide +kernel
theorem dL_law_373 : decode cL_law 373 = .ok (.aload_n 0, 1) := by decide +kernel
theorem dL_law_374 : decode cL_law 374 = .ok (.iload_n 3, 1) := by decide +kernel
theorem dL_law_375 : decode cL_law 375 = .ok (.iconst 1, 1) := by decide +kernel
theorem dL_law_376 : decode cL_law 376 = .ok (.iadd, 1) := by decide +kernel
theorem dL_law_377 : decode cL_law 377 = .ok (.iaload, 1) := by decide +kernel
theorem dL_law_378 : decode cL_law 378 = .ok (.invokevirtual 64, 3) := by decide +kernel
theorem dL_law_381 : decode cL_law 381 = .ok (.if_icmp .eq 259, 3) := by decide +kernel
theorem dL_law_384 : decode cL_law 384 = .ok (.iconst 0, 1) := by decide +kernel
theorem dL_law_385 : decode cL_law 385 = .ok (.ireturn, 1) := by decide +kernel
theorem dL_law_386 : decode cL_law 386 = .ok (.aload_n 1, 1) := by decide +kernel
theorem dL_law_387 : decode cL_law 387 = .ok (.aload_n 0, 1) := by decide +kernel
theorem dL_law_388 : decode cL_law 388 = .ok (.iload_n 3, 1) := by decide +kernel
theorem dL_law_389 : decode cL_law 389 = .ok (.iconst 1, 1) := by decide +kernel
theorem dL_law_390 : decode cL_law 390 = .ok (.iadd, 1) := by decide +kernel
theorem dL_law_391 : decode cL_law 391 = .ok (.iaload, 1) := by decide +kernel
theorem dL_law_392 : decode cL_law 392 = .ok (.aload_n 0, 1) := by decide +kernel
theorem dL_law_393 : decode cL_law 393 = .ok (.iload_n 3, 1) := by decide +kernel
theorem dL_law_394 : decode cL_law 394 = .ok (.iconst 2, 1) := by decide +kernel
theorem dL_law_395 : decode cL_law 395 = .ok (.iadd, 1) := by decide +kernel
theorem dL_law_396 : decode cL_law 396 = .ok (.iaload, 1) := by decide +kernel
theorem dL_law_397 : decode cL_law 397 = .ok (.invokevirtual 65, 3) := by decide +kernel
theorem dL_law_400 : decode cL_law 400 = .ok (.aload_n 2, 1) := by decide +kernel
theorem dL_law_401 : decode cL_law 401 = .ok (.aload_n 0, 1) := by decide +kernel
theorem dL_law_402 : decode cL_law 402 = .ok (.iload_n 3, 1) := by decide +kernel
theorem dL_law_403 : decode cL_law 403 = .ok (.iconst 1, 1) := by decide +kernel
theorem dL_law_404 : decode cL_law 404 = .ok (.iadd, 1) := by decide +kernel
theorem dL_law_405 : decode cL_law 405 = .ok (.iaload, 1) := by decide +kernel
theorem dL_law_406 : decode cL_law 406 = .ok (.aload_n 0, 1) := by decide +kernel
theorem dL_law_407 : decode cL_law 407 = .ok (.iload_n 3, 1) := by decide +kernel
theorem dL_law_408 : decode cL_law 408 = .ok (.iconst 2, 1) := by decide +kernel
theorem dL_law_409 : decode cL_law 409 = .ok (.iadd, 1) := by decide +kernel
theorem dL_law_410 : decode cL_law 410 = .ok (.iaload, 1) := by decide +kernel
theorem dL_law_411 : decode cL_law 411 = .ok (.invokevirtual 69, 3) := by decide +kernel
theorem dL_law_414 : decode cL_law 414 = .ok (.if_icmp .eq 226, 3) := by decide +kernel
theorem dL_law_417 : decode cL_law 417 = .ok (.iconst 0, 1) := by decide +kernel
theorem dL_law_418 : decode cL_law 418 = .ok (.ireturn, 1) := by decide +kernel
theorem dL_law_419 : decode cL_law 419 = .ok (.aload_n 1, 1) := by decide +kernel
theorem dL_law_420 : decode cL_law 420 = .ok (.aload_n 0, 1) := by decide +kernel
theorem dL_law_421 : decode cL_law 421 = .ok (.iload_n 3, 1) := by decide +kernel
theorem dL_law_422 : decode cL_law 422 = .ok (.iconst 1, 1) := by decide +kernel
theorem dL_law_423 : decode cL_law 423 = .ok (.iadd, 1) := by decide +kernel
theorem dL_law_424 : decode cL_law 424 = .ok (.iaload, 1) := by decide +kernel
theorem dL_law_425 : decode cL_law 425 = .ok (.aload_n 0, 1) := by decide +kernel
theorem dL_law_426 : decode cL_law 426 = .ok (.iload_n 3, 1) := by decide +kernel
theorem dL_law_427 : decode cL_law 427 = .ok (.iconst 2, 1) := by decide +kernel
theorem dL_law_428 : decode cL_law 428 = .ok (.iadd, 1) := by decide +kernel
theorem dL_law_429 : decode cL_law 429 = .ok (.iaload, 1) := by decide +kernel
theorem dL_law_430 : decode cL_law 430 = .ok (.invokevirtual 70, 3) := by decide +kernel
theorem dL_law_433 : decode cL_law 433 = .ok (.aload_n 2, 1) := by decide +kernel
theorem dL_law_434 : decode cL_law 434 = .ok (.aload_n 0, 1) := by decide +kernel
theorem dL_law_435 : decode cL_law 435 = .ok (.iload_n 3, 1) := by decide +kernel
theorem dL_law_436 : decode cL_law 436 = .ok (.iconst 1, 1) := by decide +kernel
theorem dL_law_437 : decode cL_law 437 = .ok (.iadd, 1) := by decide +kernel
theorem dL_law_438 : decode cL_law 438 = .ok (.iaload, 1) := by decide +kernel
theorem dL_law_439 : decode cL_law 439 = .ok (.aload_n 0, 1) := by decide +kernel
theorem dL_law_440 : decode cL_law 440 = .ok (.iload_n 3, 1) := by decide +kernel
theorem dL_law_441 : decode cL_law 441 = .ok (.iconst 2, 1) := by decide +kernel
theorem dL_law_442 : decode cL_law 442 = .ok (.iadd, 1) := by decide +kernel
theorem dL_law_443 : decode cL_law 443 = .ok (.iaload, 1) := by decide +kernel
theorem dL_law_444 : decode cL_law 444 = .ok (.invokevirtual 73, 3) := by decide +kernel
theorem dL_law_447 : decode cL_law 447 = .ok (.if_icmp .eq 193, 3) := by decide +kernel
theorem dL_law_450 : decode cL_law 450 = .ok (.iconst 0, 1) := by decide +kernel
theorem dL_law_451 : decode cL_law 451 = .ok (.ireturn, 1) := by decide +kernel
theorem dL_law_452 : decode cL_law 452 = .ok (.aload_n 1, 1) := by decide +kernel
theorem dL_law_453 : decode cL_law 453 = .ok (.aload_n 0, 1) := by decide +kernel
theorem dL_law_454 : decode cL_law 454 = .ok (.iload_n 3, 1) := by decide +kernel
theorem dL_law_455 : decode cL_law 455 = .ok (.iconst 1, 1) := by decide +kernel
theorem dL_law_456 : decode cL_law 456 = .ok (.iadd, 1) := by decide +kernel
theorem dL_law_457 : decode cL_law 457 = .ok (.iaload, 1) := by decide +kernel
theorem dL_law_458 : decode cL_law 458 = .ok (.aload_n 0, 1) := by decide +kernel
theorem dL_law_459 : decode cL_law 459 = .ok (.iload_n 3, 1) := by decide +kernel
theorem dL_law_460 : decode cL_law 460 = .ok (.iconst 2, 1) := by decide +kernel
theorem dL_law_461 : decode cL_law 461 = .ok (.iadd, 1) := by decide +kernel
theorem dL_law_462 : decode cL_law 462 = .ok (.iaload, 1) := by decide +kernel
theorem dL_law_463 : decode cL_law 463 = .ok (.invokevirtual 74, 3) := by decide +kernel
theorem dL_law_466 : decode cL_law 466 = .ok (.aload_n 2, 1) := by decide +kernel
theorem dL_law_467 : decode cL_law 467 = .ok (.aload_n 0, 1) := by decide +kernel
theorem dL_law_468 : decode cL_law 468 = .ok (.iload_n 3, 1) := by decide +kernel
theorem dL_law_469 : decode cL_law 469 = .ok (.iconst 1, 1) := by decide +kernel
theorem dL_law_470 : decode cL_law 470 = .ok (.iadd, 1) := by decide +kernel
theorem dL_law_471 : decode cL_law 471 = .ok (.iaload, 1) := by decide +kernel
theorem dL_law_472 : decode cL_law 472 = .ok (.aload_n 0, 1) := by decide +kernel
theorem dL_law_473 : decode cL_law 473 = .ok (.iload_n 3, 1) := by decide +kernel
theorem dL_law_474 : decode cL_law 474 = .ok (.iconst 2, 1) := by decide +kernel
theorem dL_law_475 : decode cL_law 475 = .ok (.iadd, 1) := by decide +kernel
theorem dL_law_476 : decode cL_law 476 = .ok (.iaload, 1) := by decide +kernel
theorem dL_law_477 : decode cL_law 477 = .ok (.invokevirtual 77, 3) := by decide +kernel
theorem dL_law_480 : decode cL_law 480 = .ok (.if_icmp .eq 160, 3) := by decide +kernel
theorem dL_law_483 : decode cL_law 483 = .ok (.iconst 0, 1) := by decide +kernel
theorem dL_law_484 : decode cL_law 484 = .ok (.ireturn, 1) := by decide +kernel
theorem dL_law_485 : decode cL_law 485 = .ok (.aload_n 1, 1) := by decide +kernel
theorem dL_law_486 : decode cL_law 486 = .ok (.aload_n 0, 1) := by decide +kernel
theorem dL_law_487 : decode cL_law 487 = .ok (.iload_n 3, 1) := by decide +kernel
theorem dL_law_488 : decode cL_law 488 = .ok (.iconst 1, 1) := by decide +kernel
theorem dL_law_489 : decode cL_law 489 = .ok (.iadd, 1) := by decide +kernel
theorem dL_law_490 : decode cL_law 490 = .ok (.iaload, 1) := by decide +kernel
theorem dL_law_491 : decode cL_law 491 = .ok (.aload_n 0, 1) := by decide +kernel
theorem dL_law_492 : decode cL_law 492 = .ok (.iload_n 3, 1) := by decide +kernel
theorem dL_law_493 : decode cL_law 493 = .ok (.iconst 2, 1) := by decide +kernel
theorem dL_law_494 : decode cL_law 494 = .ok (.iadd, 1) := by decide +kernel
theorem dL_law_495 : decode cL_law 495 = .ok (.iaload, 1) := by decide +kernel
theorem dL_law_496 : decode cL_law 496 = .ok (.aload_n 0, 1) := by decide +kernel
theorem dL_law_497 : decode cL_law 497 = .ok (.iload_n 3, 1) := by decide +kernel
theorem dL_law_498 : decode cL_law 498 = .ok (.iconst 3, 1) := by decide +kernel
theorem dL_law_499 : decode cL_law 499 = .ok (.iadd, 1) := by decide +kernel
theorem dL_law_500 : decode cL_law 500 = .ok (.iaload, 1) := by decide +kernel
theorem dL_law_501 : decode cL_law 501 = .ok (.invokevirtual 78, 3) := by decide +kernel
theorem dL_law_504 : decode cL_law 504 = .ok (.aload_n 2, 1) := by decide +kernel
theorem dL_law_505 : decode cL_law 505 = .ok (.aload_n 0, 1) := by decide +kernel
theorem dL_law_506 : decode cL_law 506 = .ok (.iload_n 3, 1) := by decide +kernel
theorem dL_law_507 : decode cL_law 507 = .ok (.iconst 1, 1) := by decide +kernel
theorem dL_law_508 : decode cL_law 508 = .ok (.iadd, 1) := by decide +kernel
theorem dL_law_509 : decode cL_law 509 = .ok (.iaload, 1) := by decide +kernel
theorem dL_law_510 : decode cL_law 510 = .ok (.aload_n 0, 1) := by decide +kernel
theorem dL_law_511 : decode cL_law 511 = .ok (.iload_n 3, 1) := by decide +kernel
theorem dL_law_512 : decode cL_law 512 = .ok (.iconst 2, 1) := by decide +kernel
theorem dL_law_513 : decode cL_law 513 = .ok (.iadd, 1) := by decide +kernel
theorem dL_law_514 : decode cL_law 514 = .ok (.iaload, 1) := by decide +kernel
theorem dL_law_515 : decode cL_law 515 = .ok (.aload_n 0, 1) := by decide +kernel
theorem dL_law_516 : decode cL_law 516 = .ok (.iload_n 3, 1) := by decide +kernel
theorem dL_law_517 : decode cL_law 517 = .ok (.iconst 3, 1) := by decide +kernel
theorem dL_law_518 : decode cL_law 518 = .ok (.iadd, 1) := by decide +kernel
theorem dL_law_519 : decode cL_law 519 = .ok (.iaload, 1) := by decide +kernel
theorem dL_law_520 : decode cL_law 520 = .ok (.invokevirtual 82, 3) := by decide +kernel
theorem dL_law_523 : decode cL_law 523 = .ok (.if_icmp .eq 117, 3) := by decide +kernel
theorem dL_law_526 : decode cL_law 526 = .ok (.iconst 0, 1) := by decide +kernel
theorem dL_law_527 : decode cL_law 527 = .ok (.ireturn, 1) := by decide +kernel
theorem dL_law_528 : decode cL_law 528 = .ok (.aload_n 1, 1) := by decide +kernel
theorem dL_law_529 : decode cL_law 529 = .ok (.aload_n 0, 1) := by decide +kernel
theorem dL_law_530 : decode cL_law 530 = .ok (.iload_n 3, 1) := by decide +kernel
theorem dL_law_531 : decode cL_law 531 = .ok (.iconst 1, 1) := by decide +kernel
theorem dL_law_532 : decode cL_law 532 = .ok (.iadd, 1) := by decide +kernel
theorem dL_law_533 : decode cL_law 533 = .ok (.iaload, 1) := by decide +kernel
theorem dL_law_534 : decode cL_law 534 = .ok (.invokevirtual 83, 3) := by decide +kernel
theorem dL_law_537 : decode cL_law 537 = .ok (.aload_n 2, 1) := by decide +kernel
theorem dL_law_538 : decode cL_law 538 = .ok (.aload_n 0, 1) := by decide +kernel
theorem dL_law_539 : decode cL_law 539 = .ok (.iload_n 3, 1) := by decide +kernel
theorem dL_law_540 : decode cL_law 540 = .ok (.iconst 1, 1) := by decide +kernel
theorem dL_law_541 : decode cL_law 541 = .ok (.iadd, 1) := by decide +kernel
theorem dL_law_542 : decode cL_law 542 = .ok (.iaload, 1) := by decide +kernel
theorem dL_law_543 : decode cL_law 543 = .ok (.invokevirtual 86, 3) := by decide +kernel
theorem dL_law_546 : decode cL_law 546 = .ok (.if_icmp .eq 94, 3) := by decide +kernel
theorem dL_law_549 : decode cL_law 549 = .ok (.iconst 0, 1) := by decide +kernel
theorem dL_law_550 : decode cL_law 550 = .ok (.ireturn, 1) := by decide +kernel
theorem dL_law_551 : decode cL_law 551 = .ok (.aload_n 1, 1) := by decide +kernel
theorem dL_law_552 : decode cL_law 552 = .ok (.aload_n 0, 1) := by decide +kernel
theorem dL_law_553 : decode cL_law 553 = .ok (.iload_n 3, 1) := by decide +kernel
theorem dL_law_554 : decode cL_law 554 = .ok (.iconst 1, 1) := by decide +kernel
theorem dL_law_555 : decode cL_law 555 = .ok (.iadd, 1) := by decide +kernel
theorem dL_law_556 : decode cL_law 556 = .ok (.iaload, 1) := by decide +kernel
theorem dL_law_557 : decode cL_law 557 = .ok (.aload_n 0, 1) := by decide +kernel
theorem dL_law_558 : decode cL_law 558 = .ok (.iload_n 3, 1) := by decide +kernel
theorem dL_law_559 : decode cL_law 559 = .ok (.iconst 2, 1) := by decide +kernel
theorem dL_law_560 : decode cL_law 560 = .ok (.iadd, 1) := by decide +kernel
theorem dL_law_561 : decode cL_law 561 = .ok (.iaload, 1) := by decide +kernel
theorem dL_law_562 : decode cL_law 562 = .ok (.invokevirtual 87, 3) := by decide +kernel
theorem dL_law_565 : decode cL_law 565 = .ok (.aload_n 2, 1) := by decide +kernel
theorem dL_law_566 : decode cL_law 566 = .ok (.aload_n 0, 1) := by decide +kernel
theorem dL_law_567 : decode cL_law 567 = .ok (.iload_n 3, 1) := by decide +kernel
theorem dL_law_568 : decode cL_law 568 = .ok (.iconst 1, 1) := by decide +kernel
theorem dL_law_569 : decode cL_law 569 = .ok (.iadd, 1) := by decide +kernel
theorem dL_law_570 : decode cL_law 570 = .ok (.iaload, 1) := by decide +kernel
theorem dL_law_571 : decode cL_law 571 = .ok (.aload_n 0, 1) := by decide +kernel
theorem dL_law_572 : decode cL_law 572 = .ok (.iload_n 3, 1) := by decide +kernel
theorem dL_law_573 : decode cL_law 573 = .ok (.iconst 2, 1) := by decide +kernel
theorem dL_law_574 : decode cL_law 574 = .ok (.iadd, 1) := by decide +kernel
theorem dL_law_575 : decode cL_law 575 = .ok (.iaload, 1) := by decide +kernel
theorem dL_law_576 : decode cL_law 576 = .ok (.invokevirtual 90, 3) := by decide +kernel
theorem dL_law_579 : decode cL_law 579 = .ok (.if_icmp .eq 61, 3) := by decide +kernel
theorem dL_law_582 : decode cL_law 582 = .ok (.iconst 0, 1) := by decide +kernel
theorem dL_law_583 : decode cL_law 583 = .ok (.ireturn, 1) := by decide +kernel
theorem dL_law_584 : decode cL_law 584 = .ok (.aload_n 1, 1) := by decide +kernel
theorem dL_law_585 : decode cL_law 585 = .ok (.aload_n 0, 1) := by decide +kernel
theorem dL_law_586 : decode cL_law 586 = .ok (.iload_n 3, 1) := by decide +kernel
theorem dL_law_587 : decode cL_law 587 = .ok (.iconst 1, 1) := by decide +kernel
theorem dL_law_588 : decode cL_law 588 = .ok (.iadd, 1) := by decide +kernel
theorem dL_law_589 : decode cL_law 589 = .ok (.iaload, 1) := by decide +kernel
theorem dL_law_590 : decode cL_law 590 = .ok (.invokevirtual 91, 3) := by decide +kernel
theorem dL_law_593 : decode cL_law 593 = .ok (.aload_n 2, 1) := by decide +kernel
theorem dL_law_594 : decode cL_law 594 = .ok (.aload_n 0, 1) := by decide +kernel
theorem dL_law_595 : decode cL_law 595 = .ok (.iload_n 3, 1) := by decide +kernel
theorem dL_law_596 : decode cL_law 596 = .ok (.iconst 1, 1) := by decide +kernel
theorem dL_law_597 : decode cL_law 597 = .ok (.iadd, 1) := by decide +kernel
theorem dL_law_598 : decode cL_law 598 = .ok (.iaload, 1) := by decide +kernel
theorem dL_law_599 : decode cL_law 599 = .ok (.invokevirtual 94, 3) := by decide +kernel
theorem dL_law_602 : decode cL_law 602 = .ok (.if_icmp .eq 38, 3) := by decide +kernel
theorem dL_law_605 : decode cL_law 605 = .ok (.iconst 0, 1) := by decide +kernel
theorem dL_law_606 : decode cL_law 606 = .ok (.ireturn, 1) := by decide +kernel
theorem dL_law_607 : decode cL_law 607 = .ok (.aload_n 1, 1) := by decide +kernel
theorem dL_law_608 : decode cL_law 608 = .ok (.aload_n 0, 1) := by decide +kernel
theorem dL_law_609 : decode cL_law 609 = .ok (.iload_n 3, 1) := by decide +kernel
theorem dL_law_610 : decode cL_law 610 = .ok (.iconst 1, 1) := by decide +kernel
theorem dL_law_611 : decode cL_law 611 = .ok (.iadd, 1) := by decide +kernel
theorem dL_law_612 : decode cL_law 612 = .ok (.iaload, 1) := by decide +kernel
theorem dL_law_613 : decode cL_law 613 = .ok (.aload_n 0, 1) := by decide +kernel
theorem dL_law_614 : decode cL_law 614 = .ok (.iload_n 3, 1) := by decide +kernel
theorem dL_law_615 : decode cL_law 615 = .ok (.iconst 2, 1) := by decide +kernel
theorem dL_law_616 : decode cL_law 616 = .ok (.iadd, 1) := by decide +kernel
theorem dL_law_617 : decode cL_law 617 = .ok (.iaload, 1) := by decide +kernel
theorem dL_law_618 : decode cL_law 618 = .ok (.invokevirtual 95, 3) := by decide +kernel
theorem dL_law_621 : decode cL_law 621 = .ok (.aload_n 2, 1) := by decide +kernel
theorem dL_law_622 : decode cL_law 622 = .ok (.aload_n 0, 1) := by decide +kernel
theorem dL_law_623 : decode cL_law 623 = .ok (.iload_n 3, 1) := by decide +kernel
theorem dL_law_624 : decode cL_law 624 = .ok (.iconst 1, 1) := by decide +kernel
theorem dL_law_625 : decode cL_law 625 = .ok (.iadd, 1) := by decide +kernel
theorem dL_law_626 : decode cL_law 626 = .ok (.iaload, 1) := by decide +kernel
theorem dL_law_627 : decode cL_law 627 = .ok (.aload_n 0, 1) := by decide +kernel
theorem dL_law_628 : decode cL_law 628 = .ok (.iload_n 3, 1) := by decide +kernel
theorem dL_law_629 : decode cL_law 629 = .ok (.iconst 2, 1) := by decide +kernel
theorem dL_law_630 : decode cL_law 630 = .ok (.iadd, 1) := by decide +kernel
theorem dL_law_631 : decode cL_law 631 = .ok (.iaload, 1) := by decide +kernel
theorem dL_law_632 : decode cL_law 632 = .ok (.invokevirtual 98, 3) := by decide +kernel
theorem dL_law_635 : decode cL_law 635 = .ok (.if_icmp .eq 5, 3) := by decide +kernel
theorem dL_law_638 : decode cL_law 638 = .ok (.iconst 0, 1) := by decide +kernel
theorem dL_law_639 : decode cL_law 639 = .ok (.ireturn, 1) := by decide +kernel
theorem dL_law_640 : decode cL_law 640 = .ok (.iinc 3 5, 3) := by decide +kernel
theorem dL_law_643 : decode cL_law 643 = .ok (.goto (-625), 3) := by decide +kernel
theorem dL_law_646 : decode cL_law 646 = .ok (.iconst 1, 1) := by decide +kernel
theorem dL_law_647 : decode cL_law 647 = .ok (.ireturn, 1) := by decide +kernel
end
section
/-! the world: all cells of the class and of the reference, over one memory s (key, place) -/
def ab_s (s : Nat → Int → Int) (k : Nat) (f : Int → Int) : Nat → Int → Int := fun j => if j = k then f else s j
theorem ab_s_eq (s : Nat → Int → Int) (k : Nat) (f : Int → Int) : ab_s s k f k = f := if_pos rfl
theorem ab_s_ne {s : Nat → Int → Int} {k j : Nat} {f : Int → Int} (h : j ≠ k) : ab_s s k f j = s j := if_neg h
theorem ab_s_same (s : Nat → Int → Int) (k : Nat) (f g : Int → Int) : ab_s (ab_s s k f) k g = ab_s s k g := by
  funext j
  unfold ab_s
  split <;> rfl
theorem ab_s_sw {s : Nat → Int → Int} {j k : Nat} {f g : Int → Int} (h : j ≠ k) : ab_s (ab_s s j f) k g = ab_s (ab_s s k g) j f := by
  funext i
  unfold ab_s
  by_cases h1 : i = k
  · by_cases h2 : i = j
    · exact absurd (h2.symm.trans h1) h
    · rw [if_pos h1, if_neg h2, if_pos h1]
  · rw [if_neg h1]
    by_cases h2 : i = j
    · rw [if_pos h2, if_pos h2]
    · rw [if_neg h2, if_neg h2, if_neg h1]
theorem ab_s_id {s : Nat → Int → Int} {k : Nat} {f : Int → Int} (h : s k = f) : ab_s s k f = s := by
  funext j
  unfold ab_s
  split
  · rename_i e
    rw [e, h]
  · rfl
def WW (s : Nat → Int → Int) : List ab_E := [.inr (8, [.inr (some 21), .inr (some 23), .inr (some 1), .inr (some 5), .inr (some 11), .inr (some 18), .inr (some 25), .inr (some 37)]), .inr (6, [.inl (s 100 0), .inl (s 101 0), .inl (s 102 0), .inr (some 2), .inr (some 3), .inr (some 4)]), .inl (0, 3, s 2), .inl (0, 3, s 3), .inl (0, 3, s 4), .inr (4, [.inl (s 103 0), .inr (some 6), .inr (some 7), .inr (some 8), .inr (some 9), .inr (some 10)]), .inl (0, 60, s 6), .inl (0, 60, s 7), .inl (0, 60, s 8), .inl (0, 60, s 9), .inl (0, 60, s 10), .inr (2, [.inr (some 5), .inr (some 1), .inr (some 12), .inr (some 13), .inr (some 14), .inr (some 15), .inr (some 16), .inr (some 17)]), .inl (0, 61, s 12), .inl (0, 61, s 13), .inl (0, 61, s 14), .inl (0, 61, s 15), .inl (0, 60, s 16), .inl (0, 60, s 17), .inr (0, [.inr (some 5), .inr (some 11), .inr (some 19), .inr (some 20)]), .inl (0, 61, s 19), .inl (0, 60, s 20), .inr (7, [.inr (some 22), .inl (s 104 0)]), .inl (1, 120, s 22), .inr (3, [.inr (some 24), .inl (s 105 0), .inl (s 106 0)]), .inl (0, 3, s 24), .inr (1, [.inr (some 5), .inr (some 1), .inr (some 11), .inr (some 18), .inl (s 107 0), .inl (s 108 0), .inr (some 26), .inr (some 27), .inr (some 28), .inr (some 29), .inr (some 30), .inr (some 31)]), .inl (0, 61, s 26), .inl (0, 60, s 27), .inl (0, 60, s 28), .inl (0, 60, s 29), .inl (0, 60, s 30), .inr (5, [.inl (s 109 0), .inl (s 110 0), .inl (s 111 0), .inr (some 32), .inr (some 33), .inr (some 34), .inr (some 35), .inr (some 36)]), .inl (0, 60, s 32), .inl (0, 60, s 33), .inl (0, 60, s 34), .inl (2, 60, s 35), .inl (0, 60, s 36), .inr (1, [.inr (some 5), .inr (some 1), .inr (some 11), .inr (some 18), .inl (s 112 0), .inl (s 113 0), .inr (some 38), .inr (some 39), .inr (some 40), .inr (some 41), .inr (some 42), .inr (some 43)]), .inl (0, 61, s 38), .inl (0, 60, s 39), .inl (0, 60, s 40), .inl (0, 60, s 41), .inl (0, 60, s 42), .inr (5, [.inl (s 114 0), .inl (s 115 0), .inl (s 116 0), .inr (some 44), .inr (some 45), .inr (some 46), .inr (some 47), .inr (some 48)]), .inl (0, 60, s 44), .inl (0, 60, s 45), .inl (0, 60, s 46), .inl (2, 60, s 47), .inl (0, 60, s 48), .inr (9, [.inl (s 117 0), .inl (s 118 0), .inl (s 119 0), .inr (some 50), .inl (s 120 0), .inr (some 51), .inr (some 52), .inr (some 53), .inr (some 54), .inr (some 55), .inl (s 121 0), .inr (some 56), .inl (s 122 0), .inl (s 123 0), .inl (s 124 0), .inr (some 57), .inr (some 58), .inl (s 125 0), .inr (some 59), .inr (some 60), .inr (some 61), .inr (some 62), .inr (some 63), .inr (some 64)]), .inl (0, 9, s 50), .inl (0, 60, s 51), .inl (0, 60, s 52), .inl (0, 60, s 53), .inl (0, 60, s 54), .inl (0, 60, s 55), .inl (1, 120, s 56), .inl (0, 61, s 57), .inl (0, 60, s 58), .inl (0, 61, s 59), .inl (0, 60, s 60), .inl (0, 60, s 61), .inl (0, 60, s 62), .inl (0, 60, s 63), .inl (0, 61, s 64)]
theorem ww_len (s : Nat → Int → Int) : (WW s).length = 65 := rfl
theorem gw_0 (s : Nat → Int → Int) : (WW s)[0]? = some (.inr (8, [.inr (some 21), .inr (some 23), .inr (some 1), .inr (some 5), .inr (some 11), .inr (some 18), .inr (some 25), .inr (some 37)])) := rfl
theorem gw_1 (s : Nat → Int → Int) : (WW s)[1]? = some (.inr (6, [.inl (s 100 0), .inl (s 101 0), .inl (s 102 0), .inr (some 2), .inr (some 3), .inr (some 4)])) := rfl
theorem gw_2 (s : Nat → Int → Int) : (WW s)[2]? = some (.inl (0, 3, s 2)) := rfl
theorem gw_3 (s : Nat → Int → Int) : (WW s)[3]? = some (.inl (0, 3, s 3)) := rfl
theorem gw_4 (s : Nat → Int → Int) : (WW s)[4]? = some (.inl (0, 3, s 4)) := rfl
theorem gw_5 (s : Nat → Int → Int) : (WW s)[5]? = some (.inr (4, [.inl (s 103 0), .inr (some 6), .inr (some 7), .inr (some 8), .inr (some 9), .inr (some 10)])) := rfl
theorem gw_6 (s : Nat → Int → Int) : (WW s)[6]? = some (.inl (0, 60, s 6)) := rfl
theorem gw_7 (s : Nat → Int → Int) : (WW s)[7]? = some (.inl (0, 60, s 7)) := rfl
theorem gw_8 (s : Nat → Int → Int) : (WW s)[8]? = some (.inl (0, 60, s 8)) := rfl
theorem gw_9 (s : Nat → Int → Int) : (WW s)[9]? = some (.inl (0, 60, s 9)) := rfl
theorem gw_10 (s : Nat → Int → Int) : (WW s)[10]? = some (.inl (0, 60, s 10)) := rfl
theorem gw_11 (s : Nat → Int → Int) : (WW s)[11]? = some (.inr (2, [.inr (some 5), .inr (some 1), .inr (some 12), .inr (some 13), .inr (some 14), .inr (some 15), .inr (some 16), .inr (some 17)])) := rfl
theorem gw_12 (s : Nat → Int → Int) : (WW s)[12]? = some (.inl (0, 61, s 12)) := rfl
theorem gw_13 (s : Nat → Int → Int) : (WW s)[13]? = some (.inl (0, 61, s 13)) := rfl
theorem gw_14 (s : Nat → Int → Int) : (WW s)[14]? = some (.inl (0, 61, s 14)) := rfl
theorem gw_15 (s : Nat → Int → Int) : (WW s)[15]? = some (.inl (0, 61, s 15)) := rfl
theorem gw_16 (s : Nat → Int → Int) : (WW s)[16]? = some (.inl (0, 60, s 16)) := rfl
theorem gw_17 (s : Nat → Int → Int) : (WW s)[17]? = some (.inl (0, 60, s 17)) := rfl
theorem gw_18 (s : Nat → Int → Int) : (WW s)[18]? = some (.inr (0, [.inr (some 5), .inr (some 11), .inr (some 19), .inr (some 20)])) := rfl
theorem gw_19 (s : Nat → Int → Int) : (WW s)[19]? = some (.inl (0, 61, s 19)) := rfl
theorem gw_20 (s : Nat → Int → Int) : (WW s)[20]? = some (.inl (0, 60, s 20)) := rfl
theorem gw_21 (s : Nat → Int → Int) : (WW s)[21]? = some (.inr (7, [.inr (some 22), .inl (s 104 0)])) := rfl
theorem gw_22 (s : Nat → Int → Int) : (WW s)[22]? = some (.inl (1, 120, s 22)) := rfl
theorem gw_23 (s : Nat → Int → Int) : (WW s)[23]? = some (.inr (3, [.inr (some 24), .inl (s 105 0), .inl (s 106 0)])) := rfl
theorem gw_24 (s : Nat → Int → Int) : (WW s)[24]? = some (.inl (0, 3, s 24)) := rfl
theorem gw_25 (s : Nat → Int → Int) : (WW s)[25]? = some (.inr (1, [.inr (some 5), .inr (some 1), .inr (some 11), .inr (some 18), .inl (s 107 0), .inl (s 108 0), .inr (some 26), .inr (some 27), .inr (some 28), .inr (some 29), .inr (some 30), .inr (some 31)])) := rfl
theorem gw_26 (s : Nat → Int → Int) : (WW s)[26]? = some (.inl (0, 61, s 26)) := rfl
theorem gw_27 (s : Nat → Int → Int) : (WW s)[27]? = some (.inl (0, 60, s 27)) := rfl
theorem gw_28 (s : Nat → Int → Int) : (WW s)[28]? = some (.inl (0, 60, s 28)) := rfl
theorem gw_29 (s : Nat → Int → Int) : (WW s)[29]? = some (.inl (0, 60, s 29)) := rfl
theorem gw_30 (s : Nat → Int → Int) : (WW s)[30]? = some (.inl (0, 60, s 30)) := rfl
theorem gw_31 (s : Nat → Int → Int) : (WW s)[31]? = some (.inr (5, [.inl (s 109 0), .inl (s 110 0), .inl (s 111 0), .inr (some 32), .inr (some 33), .inr (some 34), .inr (some 35), .inr (some 36)])) := rfl
theorem gw_32 (s : Nat → Int → Int) : (WW s)[32]? = some (.inl (0, 60, s 32)) := rfl
theorem gw_33 (s : Nat → Int → Int) : (WW s)[33]? = some (.inl (0, 60, s 33)) := rfl
theorem gw_34 (s : Nat → Int → Int) : (WW s)[34]? = some (.inl (0, 60, s 34)) := rfl
theorem gw_35 (s : Nat → Int → Int) : (WW s)[35]? = some (.inl (2, 60, s 35)) := rfl
theorem gw_36 (s : Nat → Int → Int) : (WW s)[36]? = some (.inl (0, 60, s 36)) := rfl
theorem gw_37 (s : Nat → Int → Int) : (WW s)[37]? = some (.inr (1, [.inr (some 5), .inr (some 1), .inr (some 11), .inr (some 18), .inl (s 112 0), .inl (s 113 0), .inr (some 38), .inr (some 39), .inr (some 40), .inr (some 41), .inr (some 42), .inr (some 43)])) := rfl
theorem gw_38 (s : Nat → Int → Int) : (WW s)[38]? = some (.inl (0, 61, s 38)) := rfl
theorem gw_39 (s : Nat → Int → Int) : (WW s)[39]? = some (.inl (0, 60, s 39)) := rfl
theorem gw_40 (s : Nat → Int → Int) : (WW s)[40]? = some (.inl (0, 60, s 40)) := rfl
theorem gw_41 (s : Nat → Int → Int) : (WW s)[41]? = some (.inl (0, 60, s 41)) := rfl
theorem gw_42 (s : Nat → Int → Int) : (WW s)[42]? = some (.inl (0, 60, s 42)) := rfl
theorem gw_43 (s : Nat → Int → Int) : (WW s)[43]? = some (.inr (5, [.inl (s 114 0), .inl (s 115 0), .inl (s 116 0), .inr (some 44), .inr (some 45), .inr (some 46), .inr (some 47), .inr (some 48)])) := rfl
theorem gw_44 (s : Nat → Int → Int) : (WW s)[44]? = some (.inl (0, 60, s 44)) := rfl
theorem gw_45 (s : Nat → Int → Int) : (WW s)[45]? = some (.inl (0, 60, s 45)) := rfl
theorem gw_46 (s : Nat → Int → Int) : (WW s)[46]? = some (.inl (0, 60, s 46)) := rfl
theorem gw_47 (s : Nat → Int → Int) : (WW s)[47]? = some (.inl (2, 60, s 47)) := rfl
theorem gw_48 (s : Nat → Int → Int) : (WW s)[48]? = some (.inl (0, 60, s 48)) := rfl
theorem gw_49 (s : Nat → Int → Int) : (WW s)[49]? = some (.inr (9, [.inl (s 117 0), .inl (s 118 0), .inl (s 119 0), .inr (some 50), .inl (s 120 0), .inr (some 51), .inr (some 52), .inr (some 53), .inr (some 54), .inr (some 55), .inl (s 121 0), .inr (some 56), .inl (s 122 0), .inl (s 123 0), .inl (s 124 0), .inr (some 57), .inr (some 58), .inl (s 125 0), .inr (some 59), .inr (some 60), .inr (some 61), .inr (some 62), .inr (some 63), .inr (some 64)])) := rfl
theorem gw_50 (s : Nat → Int → Int) : (WW s)[50]? = some (.inl (0, 9, s 50)) := rfl
theorem gw_51 (s : Nat → Int → Int) : (WW s)[51]? = some (.inl (0, 60, s 51)) := rfl
theorem gw_52 (s : Nat → Int → Int) : (WW s)[52]? = some (.inl (0, 60, s 52)) := rfl
theorem gw_53 (s : Nat → Int → Int) : (WW s)[53]? = some (.inl (0, 60, s 53)) := rfl
theorem gw_54 (s : Nat → Int → Int) : (WW s)[54]? = some (.inl (0, 60, s 54)) := rfl
theorem gw_55 (s : Nat → Int → Int) : (WW s)[55]? = some (.inl (0, 60, s 55)) := rfl
theorem gw_56 (s : Nat → Int → Int) : (WW s)[56]? = some (.inl (1, 120, s 56)) := rfl
theorem gw_57 (s : Nat → Int → Int) : (WW s)[57]? = some (.inl (0, 61, s 57)) := rfl
theorem gw_58 (s : Nat → Int → Int) : (WW s)[58]? = some (.inl (0, 60, s 58)) := rfl
theorem gw_59 (s : Nat → Int → Int) : (WW s)[59]? = some (.inl (0, 61, s 59)) := rfl
theorem gw_60 (s : Nat → Int → Int) : (WW s)[60]? = some (.inl (0, 60, s 60)) := rfl
theorem gw_61 (s : Nat → Int → Int) : (WW s)[61]? = some (.inl (0, 60, s 61)) := rfl
theorem gw_62 (s : Nat → Int → Int) : (WW s)[62]? = some (.inl (0, 60, s 62)) := rfl
theorem gw_63 (s : Nat → Int → Int) : (WW s)[63]? = some (.inl (0, 60, s 63)) := rfl
theorem gw_64 (s : Nat → Int → Int) : (WW s)[64]? = some (.inl (0, 61, s 64)) := rfl
theorem pw_1_0 (s : Nat → Int → Int) (v : Int) : (WW s).set 1 (.inr (6, List.set [.inl (s 100 0), .inl (s 101 0), .inl (s 102 0), .inr (some 2), .inr (some 3), .inr (some 4)] 0 (.inl v))) = WW (ab_s s 100 (fun _ => v)) := rfl
theorem pw_1_1 (s : Nat → Int → Int) (v : Int) : (WW s).set 1 (.inr (6, List.set [.inl (s 100 0), .inl (s 101 0), .inl (s 102 0), .inr (some 2), .inr (some 3), .inr (some 4)] 1 (.inl v))) = WW (ab_s s 101 (fun _ => v)) := rfl
theorem pw_1_2 (s : Nat → Int → Int) (v : Int) : (WW s).set 1 (.inr (6, List.set [.inl (s 100 0), .inl (s 101 0), .inl (s 102 0), .inr (some 2), .inr (some 3), .inr (some 4)] 2 (.inl v))) = WW (ab_s s 102 (fun _ => v)) := rfl
theorem pw_2 (s : Nat → Int → Int) (f : Int → Int) : (WW s).set 2 (.inl (0, 3, f)) = WW (ab_s s 2 f) := rfl
theorem pw_3 (s : Nat → Int → Int) (f : Int → Int) : (WW s).set 3 (.inl (0, 3, f)) = WW (ab_s s 3 f) := rfl
theorem pw_4 (s : Nat → Int → Int) (f : Int → Int) : (WW s).set 4 (.inl (0, 3, f)) = WW (ab_s s 4 f) := rfl
theorem pw_5_0 (s : Nat → Int → Int) (v : Int) : (WW s).set 5 (.inr (4, List.set [.inl (s 103 0), .inr (some 6), .inr (some 7), .inr (some 8), .inr (some 9), .inr (some 10)] 0 (.inl v))) = WW (ab_s s 103 (fun _ => v)) := rfl
theorem pw_6 (s : Nat → Int → Int) (f : Int → Int) : (WW s).set 6 (.inl (0, 60, f)) = WW (ab_s s 6 f) := rfl
theorem pw_7 (s : Nat → Int → Int) (f : Int → Int) : (WW s).set 7 (.inl (0, 60, f)) = WW (ab_s s 7 f) := rfl
theorem pw_8 (s : Nat → Int → Int) (f : Int → Int) : (WW s).set 8 (.inl (0, 60, f)) = WW (ab_s s 8 f) := rfl
theorem pw_9 (s : Nat → Int → Int) (f : Int → Int) : (WW s).set 9 (.inl (0, 60, f)) = WW (ab_s s 9 f) := rfl
theorem pw_10 (s : Nat → Int → Int) (f : Int → Int) : (WW s).set 10 (.inl (0, 60, f)) = WW (ab_s s 10 f) := rfl
theorem pw_12 (s : Nat → Int → Int) (f : Int → Int) : (WW s).set 12 (.inl (0, 61, f)) = WW (ab_s s 12 f) := rfl
theorem pw_13 (s : Nat → Int → Int) (f : Int → Int) : (WW s).set 13 (.inl (0, 61, f)) = WW (ab_s s 13 f) := rfl
theorem pw_14 (s : Nat → Int → Int) (f : Int → Int) : (WW s).set 14 (.inl (0, 61, f)) = WW (ab_s s 14 f) := rfl
theorem pw_15 (s : Nat → Int → Int) (f : Int → Int) : (WW s).set 15 (.inl (0, 61, f)) = WW (ab_s s 15 f) := rfl
theorem pw_16 (s : Nat → Int → Int) (f : Int → Int) : (WW s).set 16 (.inl (0, 60, f)) = WW (ab_s s 16 f) := rfl
theorem pw_17 (s : Nat → Int → Int) (f : Int → Int) : (WW s).set 17 (.inl (0, 60, f)) = WW (ab_s s 17 f) := rfl
theorem pw_19 (s : Nat → Int → Int) (f : Int → Int) : (WW s).set 19 (.inl (0, 61, f)) = WW (ab_s s 19 f) := rfl
theorem pw_20 (s : Nat → Int → Int) (f : Int → Int) : (WW s).set 20 (.inl (0, 60, f)) = WW (ab_s s 20 f) := rfl
theorem pw_21_1 (s : Nat → Int → Int) (v : Int) : (WW s).set 21 (.inr (7, List.set [.inr (some 22), .inl (s 104 0)] 1 (.inl v))) = WW (ab_s s 104 (fun _ => v)) := rfl
theorem pw_22 (s : Nat → Int → Int) (f : Int → Int) : (WW s).set 22 (.inl (1, 120, f)) = WW (ab_s s 22 f) := rfl
theorem pw_23_1 (s : Nat → Int → Int) (v : Int) : (WW s).set 23 (.inr (3, List.set [.inr (some 24), .inl (s 105 0), .inl (s 106 0)] 1 (.inl v))) = WW (ab_s s 105 (fun _ => v)) := rfl
theorem pw_23_2 (s : Nat → Int → Int) (v : Int) : (WW s).set 23 (.inr (3, List.set [.inr (some 24), .inl (s 105 0), .inl (s 106 0)] 2 (.inl v))) = WW (ab_s s 106 (fun _ => v)) := rfl
theorem pw_24 (s : Nat → Int → Int) (f : Int → Int) : (WW s).set 24 (.inl (0, 3, f)) = WW (ab_s s 24 f) := rfl
theorem pw_25_4 (s : Nat → Int → Int) (v : Int) : (WW s).set 25 (.inr (1, List.set [.inr (some 5), .inr (some 1), .inr (some 11), .inr (some 18), .inl (s 107 0), .inl (s 108 0), .inr (some 26), .inr (some 27), .inr (some 28), .inr (some 29), .inr (some 30), .inr (some 31)] 4 (.inl v))) = WW (ab_s s 107 (fun _ => v)) := rfl
theorem pw_25_5 (s : Nat → Int → Int) (v : Int) : (WW s).set 25 (.inr (1, List.set [.inr (some 5), .inr (some 1), .inr (some 11), .inr (some 18), .inl (s 107 0), .inl (s 108 0), .inr (some 26), .inr (some 27), .inr (some 28), .inr (some 29), .inr (some 30), .inr (some 31)] 5 (.inl v))) = WW (ab_s s 108 (fun _ => v)) := rfl
theorem pw_26 (s : Nat → Int → Int) (f : Int → Int) : (WW s).set 26 (.inl (0, 61, f)) = WW (ab_s s 26 f) := rfl
theorem pw_27 (s : Nat → Int → Int) (f : Int → Int) : (WW s).set 27 (.inl (0, 60, f)) = WW (ab_s s 27 f) := rfl
theorem pw_28 (s : Nat → Int → Int) (f : Int → Int) : (WW s).set 28 (.inl (0, 60, f)) = WW (ab_s s 28 f) := rfl
theorem pw_29 (s : Nat → Int → Int) (f : Int → Int) : (WW s).set 29 (.inl (0, 60, f)) = WW (ab_s s 29 f) := rfl
theorem pw_30 (s : Nat → Int → Int) (f : Int → Int) : (WW s).set 30 (.inl (0, 60, f)) = WW (ab_s s 30 f) := rfl
theorem pw_31_0 (s : Nat → Int → Int) (v : Int) : (WW s).set 31 (.inr (5, List.set [.inl (s 109 0), .inl (s 110 0), .inl (s 111 0), .inr (some 32), .inr (some 33), .inr (some 34), .inr (some 35), .inr (some 36)] 0 (.inl v))) = WW (ab_s s 109 (fun _ => v)) := rfl
theorem pw_31_1 (s : Nat → Int → Int) (v : Int) : (WW s).set 31 (.inr (5, List.set [.inl (s 109 0), .inl (s 110 0), .inl (s 111 0), .inr (some 32), .inr (some 33), .inr (some 34), .inr (some 35), .inr (some 36)] 1 (.inl v))) = WW (ab_s s 110 (fun _ => v)) := rfl
theorem pw_31_2 (s : Nat → Int → Int) (v : Int) : (WW s).set 31 (.inr (5, List.set [.inl (s 109 0), .inl (s 110 0), .inl (s 111 0), .inr (some 32), .inr (some 33), .inr (some 34), .inr (some 35), .inr (some 36)] 2 (.inl v))) = WW (ab_s s 111 (fun _ => v)) := rfl
theorem pw_32 (s : Nat → Int → Int) (f : Int → Int) : (WW s).set 32 (.inl (0, 60, f)) = WW (ab_s s 32 f) := rfl
theorem pw_33 (s : Nat → Int → Int) (f : Int → Int) : (WW s).set 33 (.inl (0, 60, f)) = WW (ab_s s 33 f) := rfl
theorem pw_34 (s : Nat → Int → Int) (f : Int → Int) : (WW s).set 34 (.inl (0, 60, f)) = WW (ab_s s 34 f) := rfl
theorem pw_35 (s : Nat → Int → Int) (f : Int → Int) : (WW s).set 35 (.inl (2, 60, f)) = WW (ab_s s 35 f) := rfl
theorem pw_36 (s : Nat → Int → Int) (f : Int → Int) : (WW s).set 36 (.inl (0, 60, f)) = WW (ab_s s 36 f) := rfl
theorem pw_37_4 (s : Nat → Int → Int) (v : Int) : (WW s).set 37 (.inr (1, List.set [.inr (some 5), .inr (some 1), .inr (some 11), .inr (some 18), .inl (s 112 0), .inl (s 113 0), .inr (some 38), .inr (some 39), .inr (some 40), .inr (some 41), .inr (some 42), .inr (some 43)] 4 (.inl v))) = WW (ab_s s 112 (fun _ => v)) := rfl
theorem pw_37_5 (s : Nat → Int → Int) (v : Int) : (WW s).set 37 (.inr (1, List.set [.inr (some 5), .inr (some 1), .inr (some 11), .inr (some 18), .inl (s 112 0), .inl (s 113 0), .inr (some 38), .inr (some 39), .inr (some 40), .inr (some 41), .inr (some 42), .inr (some 43)] 5 (.inl v))) = WW (ab_s s 113 (fun _ => v)) := rfl
theorem pw_38 (s : Nat → Int → Int) (f : Int → Int) : (WW s).set 38 (.inl (0, 61, f)) = WW (ab_s s 38 f) := rfl
theorem pw_39 (s : Nat → Int → Int) (f : Int → Int) : (WW s).set 39 (.inl (0, 60, f)) = WW (ab_s s 39 f) := rfl
theorem pw_40 (s : Nat → Int → Int) (f : Int → Int) : (WW s).set 40 (.inl (0, 60, f)) = WW (ab_s s 40 f) := rfl
theorem pw_41 (s : Nat → Int → Int) (f : Int → Int) : (WW s).set 41 (.inl (0, 60, f)) = WW (ab_s s 41 f) := rfl
theorem pw_42 (s : Nat → Int → Int) (f : Int → Int) : (WW s).set 42 (.inl (0, 60, f)) = WW (ab_s s 42 f) := rfl
theorem pw_43_0 (s : Nat → Int → Int) (v : Int) : (WW s).set 43 (.inr (5, List.set [.inl (s 114 0), .inl (s 115 0), .inl (s 116 0), .inr (some 44), .inr (some 45), .inr (some 46), .inr (some 47), .inr (some 48)] 0 (.inl v))) = WW (ab_s s 114 (fun _ => v)) := rfl
theorem pw_43_1 (s : Nat → Int → Int) (v : Int) : (WW s).set 43 (.inr (5, List.set [.inl (s 114 0), .inl (s 115 0), .inl (s 116 0), .inr (some 44), .inr (some 45), .inr (some 46), .inr (some 47), .inr (some 48)] 1 (.inl v))) = WW (ab_s s 115 (fun _ => v)) := rfl
theorem pw_43_2 (s : Nat → Int → Int) (v : Int) : (WW s).set 43 (.inr (5, List.set [.inl (s 114 0), .inl (s 115 0), .inl (s 116 0), .inr (some 44), .inr (some 45), .inr (some 46), .inr (some 47), .inr (some 48)] 2 (.inl v))) = WW (ab_s s 116 (fun _ => v)) := rfl
theorem pw_44 (s : Nat → Int → Int) (f : Int → Int) : (WW s).set 44 (.inl (0, 60, f)) = WW (ab_s s 44 f) := rfl
theorem pw_45 (s : Nat → Int → Int) (f : Int → Int) : (WW s).set 45 (.inl (0, 60, f)) = WW (ab_s s 45 f) := rfl
theorem pw_46 (s : Nat → Int → Int) (f : Int → Int) : (WW s).set 46 (.inl (0, 60, f)) = WW (ab_s s 46 f) := rfl
theorem pw_47 (s : Nat → Int → Int) (f : Int → Int) : (WW s).set 47 (.inl (2, 60, f)) = WW (ab_s s 47 f) := rfl
theorem pw_48 (s : Nat → Int → Int) (f : Int → Int) : (WW s).set 48 (.inl (0, 60, f)) = WW (ab_s s 48 f) := rfl
theorem pw_49_0 (s : Nat → Int → Int) (v : Int) : (WW s).set 49 (.inr (9, List.set [.inl (s 117 0), .inl (s 118 0), .inl (s 119 0), .inr (some 50), .inl (s 120 0), .inr (some 51), .inr (some 52), .inr (some 53), .inr (some 54), .inr (some 55), .inl (s 121 0), .inr (some 56), .inl (s 122 0), .inl (s 123 0), .inl (s 124 0), .inr (some 57), .inr (some 58), .inl (s 125 0), .inr (some 59), .inr (some 60), .inr (some 61), .inr (some 62), .inr (some 63), .inr (some 64)] 0 (.inl v))) = WW (ab_s s 117 (fun _ => v)) := rfl
theorem pw_49_1 (s : Nat → Int → Int) (v : Int) : (WW s).set 49 (.inr (9, List.set [.inl (s 117 0), .inl (s 118 0), .inl (s 119 0), .inr (some 50), .inl (s 120 0), .inr (some 51), .inr (some 52), .inr (some 53), .inr (some 54), .inr (some 55), .inl (s 121 0), .inr (some 56), .inl (s 122 0), .inl (s 123 0), .inl (s 124 0), .inr (some 57), .inr (some 58), .inl (s 125 0), .inr (some 59), .inr (some 60), .inr (some 61), .inr (some 62), .inr (some 63), .inr (some 64)] 1 (.inl v))) = WW (ab_s s 118 (fun _ => v)) := rfl
theorem pw_49_2 (s : Nat → Int → Int) (v : Int) : (WW s).set 49 (.inr (9, List.set [.inl (s 117 0), .inl (s 118 0), .inl (s 119 0), .inr (some 50), .inl (s 120 0), .inr (some 51), .inr (some 52), .inr (some 53), .inr (some 54), .inr (some 55), .inl (s 121 0), .inr (some 56), .inl (s 122 0), .inl (s 123 0), .inl (s 124 0), .inr (some 57), .inr (some 58), .inl (s 125 0), .inr (some 59), .inr (some 60), .inr (some 61), .inr (some 62), .inr (some 63), .inr (some 64)] 2 (.inl v))) = WW (ab_s s 119 (fun _ => v)) := rfl
theorem pw_49_4 (s : Nat → Int → Int) (v : Int) : (WW s).set 49 (.inr (9, List.set [.inl (s 117 0), .inl (s 118 0), .inl (s 119 0), .inr (some 50), .inl (s 120 0), .inr (some 51), .inr (some 52), .inr (some 53), .inr (some 54), .inr (some 55), .inl (s 121 0), .inr (some 56), .inl (s 122 0), .inl (s 123 0), .inl (s 124 0), .inr (some 57), .inr (some 58), .inl (s 125 0), .inr (some 59), .inr (some 60), .inr (some 61), .inr (some 62), .inr (some 63), .inr (some 64)] 4 (.inl v))) = WW (ab_s s 120 (fun _ => v)) := rfl
theorem pw_49_10 (s : Nat → Int → Int) (v : Int) : (WW s).set 49 (.inr (9, List.set [.inl (s 117 0), .inl (s 118 0), .inl (s 119 0), .inr (some 50), .inl (s 120 0), .inr (some 51), .inr (some 52), .inr (some 53), .inr (some 54), .inr (some 55), .inl (s 121 0), .inr (some 56), .inl (s 122 0), .inl (s 123 0), .inl (s 124 0), .inr (some 57), .inr (some 58), .inl (s 125 0), .inr (some 59), .inr (some 60), .inr (some 61), .inr (some 62), .inr (some 63), .inr (some 64)] 10 (.inl v))) = WW (ab_s s 121 (fun _ => v)) := rfl
theorem pw_49_12 (s : Nat → Int → Int) (v : Int) : (WW s).set 49 (.inr (9, List.set [.inl (s 117 0), .inl (s 118 0), .inl (s 119 0), .inr (some 50), .inl (s 120 0), .inr (some 51), .inr (some 52), .inr (some 53), .inr (some 54), .inr (some 55), .inl (s 121 0), .inr (some 56), .inl (s 122 0), .inl (s 123 0), .inl (s 124 0), .inr (some 57), .inr (some 58), .inl (s 125 0), .inr (some 59), .inr (some 60), .inr (some 61), .inr (some 62), .inr (some 63), .inr (some 64)] 12 (.inl v))) = WW (ab_s s 122 (fun _ => v)) := rfl
theorem pw_49_13 (s : Nat → Int → Int) (v : Int) : (WW s).set 49 (.inr (9, List.set [.inl (s 117 0), .inl (s 118 0), .inl (s 119 0), .inr (some 50), .inl (s 120 0), .inr (some 51), .inr (some 52), .inr (some 53), .inr (some 54), .inr (some 55), .inl (s 121 0), .inr (some 56), .inl (s 122 0), .inl (s 123 0), .inl (s 124 0), .inr (some 57), .inr (some 58), .inl (s 125 0), .inr (some 59), .inr (some 60), .inr (some 61), .inr (some 62), .inr (some 63), .inr (some 64)] 13 (.inl v))) = WW (ab_s s 123 (fun _ => v)) := rfl
theorem pw_49_14 (s : Nat → Int → Int) (v : Int) : (WW s).set 49 (.inr (9, List.set [.inl (s 117 0), .inl (s 118 0), .inl (s 119 0), .inr (some 50), .inl (s 120 0), .inr (some 51), .inr (some 52), .inr (some 53), .inr (some 54), .inr (some 55), .inl (s 121 0), .inr (some 56), .inl (s 122 0), .inl (s 123 0), .inl (s 124 0), .inr (some 57), .inr (some 58), .inl (s 125 0), .inr (some 59), .inr (some 60), .inr (some 61), .inr (some 62), .inr (some 63), .inr (some 64)] 14 (.inl v))) = WW (ab_s s 124 (fun _ => v)) := rfl
theorem pw_49_17 (s : Nat → Int → Int) (v : Int) : (WW s).set 49 (.inr (9, List.set [.inl (s 117 0), .inl (s 118 0), .inl (s 119 0), .inr (some 50), .inl (s 120 0), .inr (some 51), .inr (some 52), .inr (some 53), .inr (some 54), .inr (some 55), .inl (s 121 0), .inr (some 56), .inl (s 122 0), .inl (s 123 0), .inl (s 124 0), .inr (some 57), .inr (some 58), .inl (s 125 0), .inr (some 59), .inr (some 60), .inr (some 61), .inr (some 62), .inr (some 63), .inr (some 64)] 17 (.inl v))) = WW (ab_s s 125 (fun _ => v)) := rfl
theorem pw_50 (s : Nat → Int → Int) (f : Int → Int) : (WW s).set 50 (.inl (0, 9, f)) = WW (ab_s s 50 f) := rfl
theorem pw_51 (s : Nat → Int → Int) (f : Int → Int) : (WW s).set 51 (.inl (0, 60, f)) = WW (ab_s s 51 f) := rfl
theorem pw_52 (s : Nat → Int → Int) (f : Int → Int) : (WW s).set 52 (.inl (0, 60, f)) = WW (ab_s s 52 f) := rfl
theorem pw_53 (s : Nat → Int → Int) (f : Int → Int) : (WW s).set 53 (.inl (0, 60, f)) = WW (ab_s s 53 f) := rfl
theorem pw_54 (s : Nat → Int → Int) (f : Int → Int) : (WW s).set 54 (.inl (0, 60, f)) = WW (ab_s s 54 f) := rfl
theorem pw_55 (s : Nat → Int → Int) (f : Int → Int) : (WW s).set 55 (.inl (0, 60, f)) = WW (ab_s s 55 f) := rfl
theorem pw_56 (s : Nat → Int → Int) (f : Int → Int) : (WW s).set 56 (.inl (1, 120, f)) = WW (ab_s s 56 f) := rfl
theorem pw_57 (s : Nat → Int → Int) (f : Int → Int) : (WW s).set 57 (.inl (0, 61, f)) = WW (ab_s s 57 f) := rfl
theorem pw_58 (s : Nat → Int → Int) (f : Int → Int) : (WW s).set 58 (.inl (0, 60, f)) = WW (ab_s s 58 f) := rfl
theorem pw_59 (s : Nat → Int → Int) (f : Int → Int) : (WW s).set 59 (.inl (0, 61, f)) = WW (ab_s s 59 f) := rfl
theorem pw_60 (s : Nat → Int → Int) (f : Int → Int) : (WW s).set 60 (.inl (0, 60, f)) = WW (ab_s s 60 f) := rfl
theorem pw_61 (s : Nat → Int → Int) (f : Int → Int) : (WW s).set 61 (.inl (0, 60, f)) = WW (ab_s s 61 f) := rfl
theorem pw_62 (s : Nat → Int → Int) (f : Int → Int) : (WW s).set 62 (.inl (0, 60, f)) = WW (ab_s s 62 f) := rfl
theorem pw_63 (s : Nat → Int → Int) (f : Int → Int) : (WW s).set 63 (.inl (0, 60, f)) = WW (ab_s s 63 f) := rfl
theorem pw_64 (s : Nat → Int → Int) (f : Int → Int) : (WW s).set 64 (.inl (0, 61, f)) = WW (ab_s s 64 f) := rfl
theorem rb_heq {V : ab_J} {pc : Nat} {L : ab_L} {st : List ab_V} {a b : Nat → Int → Int} {kc ks : Nat} (e : a = b) (k : V pc L st (WW b) kc ks) : V pc L st (WW a) kc ks := by
  rw [e]
  exact k
end
section
/-! what the constant pools link (printed by program) -/
theorem lf_X6_7 : Cond.fieldLink RX6 7 (TX6 0).1 (TX6 0).2.1 (TX6 0).2.2.1 ∈ xtb := xt 32 (by decide +kernel) (by decide +kernel)
theorem lf_X3_39 : Cond.fieldLink RX3 39 (TX6 0).1 (TX6 0).2.1 (TX6 0).2.2.1 ∈ xtb := xt 33 (by decide +kernel) (by decide +kernel)
theorem lf_X2_74 : Cond.fieldLink RX2 74 (TX6 0).1 (TX6 0).2.1 (TX6 0).2.2.1 ∈ xtb := xt 34 (by decide +kernel) (by decide +kernel)
theorem lf_X9_97 : Cond.fieldLink RX9 97 (TX6 0).1 (TX6 0).2.1 (TX6 0).2.2.1 ∈ xtb := xt 35 (by decide +kernel) (by decide +kernel)
theorem lf_X1_133 : Cond.fieldLink RX1 133 (TX6 0).1 (TX6 0).2.1 (TX6 0).2.2.1 ∈ xtb := xt 36 (by decide +kernel) (by decide +kernel)
theorem lf_X6_13 : Cond.fieldLink RX6 13 (TX6 1).1 (TX6 1).2.1 (TX6 1).2.2.1 ∈ xtb := xt 37 (by decide +kernel) (by decide +kernel)
theorem lf_X2_68 : Cond.fieldLink RX2 68 (TX6 1).1 (TX6 1).2.1 (TX6 1).2.2.1 ∈ xtb := xt 38 (by decide +kernel) (by decide +kernel)
theorem lf_X3_44 : Cond.fieldLink RX3 44 (TX6 1).1 (TX6 1).2.1 (TX6 1).2.2.1 ∈ xtb := xt 39 (by decide +kernel) (by decide +kernel)
theorem lf_X9_100 : Cond.fieldLink RX9 100 (TX6 1).1 (TX6 1).2.1 (TX6 1).2.2.1 ∈ xtb := xt 40 (by decide +kernel) (by decide +kernel)
theorem lf_X6_16 : Cond.fieldLink RX6 16 (TX6 2).1 (TX6 2).2.1 (TX6 2).2.2.1 ∈ xtb := xt 41 (by decide +kernel) (by decide +kernel)
theorem lf_X3_47 : Cond.fieldLink RX3 47 (TX6 2).1 (TX6 2).2.1 (TX6 2).2.2.1 ∈ xtb := xt 42 (by decide +kernel) (by decide +kernel)
theorem lf_X9_103 : Cond.fieldLink RX9 103 (TX6 2).1 (TX6 2).2.1 (TX6 2).2.2.1 ∈ xtb := xt 43 (by decide +kernel) (by decide +kernel)
theorem lf_X1_118 : Cond.fieldLink RX1 118 (TX6 2).1 (TX6 2).2.1 (TX6 2).2.2.1 ∈ xtb := xt 44 (by decide +kernel) (by decide +kernel)
theorem lf_X6_19 : Cond.fieldLink RX6 19 (TX6 3).1 (TX6 3).2.1 (TX6 3).2.2.1 ∈ xtb := xt 45 (by decide +kernel) (by decide +kernel)
theorem lf_X2_59 : Cond.fieldLink RX2 59 (TX6 3).1 (TX6 3).2.1 (TX6 3).2.2.1 ∈ xtb := xt 46 (by decide +kernel) (by decide +kernel)
theorem lf_X9_163 : Cond.fieldLink RX9 163 (TX6 3).1 (TX6 3).2.1 (TX6 3).2.2.1 ∈ xtb := xt 47 (by decide +kernel) (by decide +kernel)
theorem lf_X1_154 : Cond.fieldLink RX1 154 (TX6 3).1 (TX6 3).2.1 (TX6 3).2.2.1 ∈ xtb := xt 48 (by decide +kernel) (by decide +kernel)
theorem lf_X6_23 : Cond.fieldLink RX6 23 (TX6 4).1 (TX6 4).2.1 (TX6 4).2.2.1 ∈ xtb := xt 49 (by decide +kernel) (by decide +kernel)
theorem lf_X2_47 : Cond.fieldLink RX2 47 (TX6 4).1 (TX6 4).2.1 (TX6 4).2.2.1 ∈ xtb := xt 50 (by decide +kernel) (by decide +kernel)
theorem lf_X9_110 : Cond.fieldLink RX9 110 (TX6 4).1 (TX6 4).2.1 (TX6 4).2.2.1 ∈ xtb := xt 51 (by decide +kernel) (by decide +kernel)
theorem lf_X1_127 : Cond.fieldLink RX1 127 (TX6 4).1 (TX6 4).2.1 (TX6 4).2.2.1 ∈ xtb := xt 52 (by decide +kernel) (by decide +kernel)
theorem lf_X6_26 : Cond.fieldLink RX6 26 (TX6 5).1 (TX6 5).2.1 (TX6 5).2.2.1 ∈ xtb := xt 53 (by decide +kernel) (by decide +kernel)
theorem lf_X2_56 : Cond.fieldLink RX2 56 (TX6 5).1 (TX6 5).2.1 (TX6 5).2.2.1 ∈ xtb := xt 54 (by decide +kernel) (by decide +kernel)
theorem lf_X9_166 : Cond.fieldLink RX9 166 (TX6 5).1 (TX6 5).2.1 (TX6 5).2.2.1 ∈ xtb := xt 55 (by decide +kernel) (by decide +kernel)
theorem lf_X1_151 : Cond.fieldLink RX1 151 (TX6 5).1 (TX6 5).2.1 (TX6 5).2.2.1 ∈ xtb := xt 56 (by decide +kernel) (by decide +kernel)
theorem lf_X4_9 : Cond.fieldLink RX4 9 (TX4 0).1 (TX4 0).2.1 (TX4 0).2.2.1 ∈ xtb := xt 77 (by decide +kernel) (by decide +kernel)
theorem lf_X0_26 : Cond.fieldLink RX0 26 (TX4 0).1 (TX4 0).2.1 (TX4 0).2.2.1 ∈ xtb := xt 78 (by decide +kernel) (by decide +kernel)
theorem lf_X2_38 : Cond.fieldLink RX2 38 (TX4 0).1 (TX4 0).2.1 (TX4 0).2.2.1 ∈ xtb := xt 79 (by decide +kernel) (by decide +kernel)
theorem lf_X9_85 : Cond.fieldLink RX9 85 (TX4 0).1 (TX4 0).2.1 (TX4 0).2.2.1 ∈ xtb := xt 80 (by decide +kernel) (by decide +kernel)
theorem lf_X1_85 : Cond.fieldLink RX1 85 (TX4 0).1 (TX4 0).2.1 (TX4 0).2.2.1 ∈ xtb := xt 81 (by decide +kernel) (by decide +kernel)
theorem lf_X4_15 : Cond.fieldLink RX4 15 (TX4 1).1 (TX4 1).2.1 (TX4 1).2.2.1 ∈ xtb := xt 82 (by decide +kernel) (by decide +kernel)
theorem lf_X2_62 : Cond.fieldLink RX2 62 (TX4 1).1 (TX4 1).2.1 (TX4 1).2.2.1 ∈ xtb := xt 83 (by decide +kernel) (by decide +kernel)
theorem lf_X1_65 : Cond.fieldLink RX1 65 (TX4 1).1 (TX4 1).2.1 (TX4 1).2.2.1 ∈ xtb := xt 84 (by decide +kernel) (by decide +kernel)
theorem lf_X9_172 : Cond.fieldLink RX9 172 (TX4 1).1 (TX4 1).2.1 (TX4 1).2.2.1 ∈ xtb := xt 85 (by decide +kernel) (by decide +kernel)
theorem lf_X4_19 : Cond.fieldLink RX4 19 (TX4 2).1 (TX4 2).2.1 (TX4 2).2.2.1 ∈ xtb := xt 86 (by decide +kernel) (by decide +kernel)
theorem lf_X2_94 : Cond.fieldLink RX2 94 (TX4 2).1 (TX4 2).2.1 (TX4 2).2.2.1 ∈ xtb := xt 87 (by decide +kernel) (by decide +kernel)
theorem lf_X9_175 : Cond.fieldLink RX9 175 (TX4 2).1 (TX4 2).2.1 (TX4 2).2.2.1 ∈ xtb := xt 88 (by decide +kernel) (by decide +kernel)
theorem lf_X4_22 : Cond.fieldLink RX4 22 (TX4 3).1 (TX4 3).2.1 (TX4 3).2.2.1 ∈ xtb := xt 89 (by decide +kernel) (by decide +kernel)
theorem lf_X2_44 : Cond.fieldLink RX2 44 (TX4 3).1 (TX4 3).2.1 (TX4 3).2.2.1 ∈ xtb := xt 90 (by decide +kernel) (by decide +kernel)
theorem lf_X1_130 : Cond.fieldLink RX1 130 (TX4 3).1 (TX4 3).2.1 (TX4 3).2.2.1 ∈ xtb := xt 91 (by decide +kernel) (by decide +kernel)
theorem lf_X9_178 : Cond.fieldLink RX9 178 (TX4 3).1 (TX4 3).2.1 (TX4 3).2.2.1 ∈ xtb := xt 92 (by decide +kernel) (by decide +kernel)
theorem lf_X4_25 : Cond.fieldLink RX4 25 (TX4 4).1 (TX4 4).2.1 (TX4 4).2.2.1 ∈ xtb := xt 93 (by decide +kernel) (by decide +kernel)
theorem lf_X2_65 : Cond.fieldLink RX2 65 (TX4 4).1 (TX4 4).2.1 (TX4 4).2.2.1 ∈ xtb := xt 94 (by decide +kernel) (by decide +kernel)
theorem lf_X4_28 : Cond.fieldLink RX4 28 (TX4 5).1 (TX4 5).2.1 (TX4 5).2.2.1 ∈ xtb := xt 95 (by decide +kernel) (by decide +kernel)
theorem lf_X2_71 : Cond.fieldLink RX2 71 (TX4 5).1 (TX4 5).2.1 (TX4 5).2.2.1 ∈ xtb := xt 96 (by decide +kernel) (by decide +kernel)
theorem lf_X2_9 : Cond.fieldLink RX2 9 (TX2 0).1 (TX2 0).2.1 (TX2 0).2.2.1 ∈ xtb := xt 116 (by decide +kernel) (by decide +kernel)
theorem lf_X2_15 : Cond.fieldLink RX2 15 (TX2 1).1 (TX2 1).2.1 (TX2 1).2.2.1 ∈ xtb := xt 117 (by decide +kernel) (by decide +kernel)
theorem lf_X2_19 : Cond.fieldLink RX2 19 (TX2 2).1 (TX2 2).2.1 (TX2 2).2.2.1 ∈ xtb := xt 118 (by decide +kernel) (by decide +kernel)
theorem lf_X2_23 : Cond.fieldLink RX2 23 (TX2 3).1 (TX2 3).2.1 (TX2 3).2.2.1 ∈ xtb := xt 119 (by decide +kernel) (by decide +kernel)
theorem lf_X2_26 : Cond.fieldLink RX2 26 (TX2 4).1 (TX2 4).2.1 (TX2 4).2.2.1 ∈ xtb := xt 120 (by decide +kernel) (by decide +kernel)
theorem lf_X2_29 : Cond.fieldLink RX2 29 (TX2 5).1 (TX2 5).2.1 (TX2 5).2.2.1 ∈ xtb := xt 121 (by decide +kernel) (by decide +kernel)
theorem lf_X2_32 : Cond.fieldLink RX2 32 (TX2 6).1 (TX2 6).2.1 (TX2 6).2.2.1 ∈ xtb := xt 122 (by decide +kernel) (by decide +kernel)
theorem lf_X1_157 : Cond.fieldLink RX1 157 (TX2 6).1 (TX2 6).2.1 (TX2 6).2.2.1 ∈ xtb := xt 123 (by decide +kernel) (by decide +kernel)
theorem lf_X9_199 : Cond.fieldLink RX9 199 (TX2 6).1 (TX2 6).2.1 (TX2 6).2.2.1 ∈ xtb := xt 124 (by decide +kernel) (by decide +kernel)
theorem lf_X2_35 : Cond.fieldLink RX2 35 (TX2 7).1 (TX2 7).2.1 (TX2 7).2.2.1 ∈ xtb := xt 125 (by decide +kernel) (by decide +kernel)
theorem lf_X9_206 : Cond.fieldLink RX9 206 (TX2 7).1 (TX2 7).2.1 (TX2 7).2.2.1 ∈ xtb := xt 126 (by decide +kernel) (by decide +kernel)
theorem lf_X0_9 : Cond.fieldLink RX0 9 (TX0 0).1 (TX0 0).2.1 (TX0 0).2.2.1 ∈ xtb := xt 150 (by decide +kernel) (by decide +kernel)
theorem lf_X0_15 : Cond.fieldLink RX0 15 (TX0 1).1 (TX0 1).2.1 (TX0 1).2.2.1 ∈ xtb := xt 151 (by decide +kernel) (by decide +kernel)
theorem lf_X0_19 : Cond.fieldLink RX0 19 (TX0 2).1 (TX0 2).2.1 (TX0 2).2.2.1 ∈ xtb := xt 152 (by decide +kernel) (by decide +kernel)
theorem lf_X9_145 : Cond.fieldLink RX9 145 (TX0 2).1 (TX0 2).2.1 (TX0 2).2.2.1 ∈ xtb := xt 153 (by decide +kernel) (by decide +kernel)
theorem lf_X0_23 : Cond.fieldLink RX0 23 (TX0 3).1 (TX0 3).2.1 (TX0 3).2.2.1 ∈ xtb := xt 154 (by decide +kernel) (by decide +kernel)
theorem lf_X1_107 : Cond.fieldLink RX1 107 (TX0 3).1 (TX0 3).2.1 (TX0 3).2.2.1 ∈ xtb := xt 155 (by decide +kernel) (by decide +kernel)
theorem lf_X8_9 : Cond.fieldLink RX8 9 (TX8 0).1 (TX8 0).2.1 (TX8 0).2.2.1 ∈ xtb := xt 171 (by decide +kernel) (by decide +kernel)
theorem lf_X4_36 : Cond.fieldLink RX4 36 (TX8 0).1 (TX8 0).2.1 (TX8 0).2.2.1 ∈ xtb := xt 172 (by decide +kernel) (by decide +kernel)
theorem lf_X8_15 : Cond.fieldLink RX8 15 (TX8 1).1 (TX8 1).2.1 (TX8 1).2.2.1 ∈ xtb := xt 173 (by decide +kernel) (by decide +kernel)
theorem lf_X3_32 : Cond.fieldLink RX3 32 (TX8 1).1 (TX8 1).2.1 (TX8 1).2.2.1 ∈ xtb := xt 174 (by decide +kernel) (by decide +kernel)
theorem lf_X4_31 : Cond.fieldLink RX4 31 (TX8 1).1 (TX8 1).2.1 (TX8 1).2.2.1 ∈ xtb := xt 175 (by decide +kernel) (by decide +kernel)
theorem lf_X3_11 : Cond.fieldLink RX3 11 (TX3 0).1 (TX3 0).2.1 (TX3 0).2.2.1 ∈ xtb := xt 188 (by decide +kernel) (by decide +kernel)
theorem lf_X3_15 : Cond.fieldLink RX3 15 (TX3 1).1 (TX3 1).2.1 (TX3 1).2.2.1 ∈ xtb := xt 189 (by decide +kernel) (by decide +kernel)
theorem lf_X3_19 : Cond.fieldLink RX3 19 (TX3 2).1 (TX3 2).2.1 (TX3 2).2.2.1 ∈ xtb := xt 190 (by decide +kernel) (by decide +kernel)
theorem lf_X5_9 : Cond.fieldLink RX5 9 (TX5 0).1 (TX5 0).2.1 (TX5 0).2.2.1 ∈ xtb := xt 210 (by decide +kernel) (by decide +kernel)
theorem lf_X9_152 : Cond.fieldLink RX9 152 (TX5 0).1 (TX5 0).2.1 (TX5 0).2.2.1 ∈ xtb := xt 211 (by decide +kernel) (by decide +kernel)
theorem lf_X5_15 : Cond.fieldLink RX5 15 (TX5 1).1 (TX5 1).2.1 (TX5 1).2.2.1 ∈ xtb := xt 212 (by decide +kernel) (by decide +kernel)
theorem lf_X9_160 : Cond.fieldLink RX9 160 (TX5 1).1 (TX5 1).2.1 (TX5 1).2.2.1 ∈ xtb := xt 213 (by decide +kernel) (by decide +kernel)
theorem lf_X5_18 : Cond.fieldLink RX5 18 (TX5 2).1 (TX5 2).2.1 (TX5 2).2.2.1 ∈ xtb := xt 214 (by decide +kernel) (by decide +kernel)
theorem lf_X9_157 : Cond.fieldLink RX9 157 (TX5 2).1 (TX5 2).2.1 (TX5 2).2.2.1 ∈ xtb := xt 215 (by decide +kernel) (by decide +kernel)
theorem lf_X5_21 : Cond.fieldLink RX5 21 (TX5 3).1 (TX5 3).2.1 (TX5 3).2.2.1 ∈ xtb := xt 216 (by decide +kernel) (by decide +kernel)
theorem lf_X9_218 : Cond.fieldLink RX9 218 (TX5 3).1 (TX5 3).2.1 (TX5 3).2.2.1 ∈ xtb := xt 217 (by decide +kernel) (by decide +kernel)
theorem lf_X5_25 : Cond.fieldLink RX5 25 (TX5 4).1 (TX5 4).2.1 (TX5 4).2.2.1 ∈ xtb := xt 218 (by decide +kernel) (by decide +kernel)
theorem lf_X5_28 : Cond.fieldLink RX5 28 (TX5 5).1 (TX5 5).2.1 (TX5 5).2.2.1 ∈ xtb := xt 219 (by decide +kernel) (by decide +kernel)
theorem lf_X5_31 : Cond.fieldLink RX5 31 (TX5 6).1 (TX5 6).2.1 (TX5 6).2.2.1 ∈ xtb := xt 220 (by decide +kernel) (by decide +kernel)
theorem lf_X5_35 : Cond.fieldLink RX5 35 (TX5 7).1 (TX5 7).2.1 (TX5 7).2.2.1 ∈ xtb := xt 221 (by decide +kernel) (by decide +kernel)
theorem lf_X1_9 : Cond.fieldLink RX1 9 (TX1 0).1 (TX1 0).2.1 (TX1 0).2.2.1 ∈ xtb := xt 240 (by decide +kernel) (by decide +kernel)
theorem lf_X1_15 : Cond.fieldLink RX1 15 (TX1 1).1 (TX1 1).2.1 (TX1 1).2.2.1 ∈ xtb := xt 241 (by decide +kernel) (by decide +kernel)
theorem lf_X1_19 : Cond.fieldLink RX1 19 (TX1 2).1 (TX1 2).2.1 (TX1 2).2.2.1 ∈ xtb := xt 242 (by decide +kernel) (by decide +kernel)
theorem lf_X1_23 : Cond.fieldLink RX1 23 (TX1 3).1 (TX1 3).2.1 (TX1 3).2.2.1 ∈ xtb := xt 243 (by decide +kernel) (by decide +kernel)
theorem lf_X1_27 : Cond.fieldLink RX1 27 (TX1 4).1 (TX1 4).2.1 (TX1 4).2.2.1 ∈ xtb := xt 244 (by decide +kernel) (by decide +kernel)
theorem lf_X5_42 : Cond.fieldLink RX5 42 (TX1 4).1 (TX1 4).2.1 (TX1 4).2.2.1 ∈ xtb := xt 245 (by decide +kernel) (by decide +kernel)
theorem lf_X9_121 : Cond.fieldLink RX9 121 (TX1 4).1 (TX1 4).2.1 (TX1 4).2.2.1 ∈ xtb := xt 246 (by decide +kernel) (by decide +kernel)
theorem lf_X1_31 : Cond.fieldLink RX1 31 (TX1 5).1 (TX1 5).2.1 (TX1 5).2.2.1 ∈ xtb := xt 247 (by decide +kernel) (by decide +kernel)
theorem lf_X9_138 : Cond.fieldLink RX9 138 (TX1 5).1 (TX1 5).2.1 (TX1 5).2.2.1 ∈ xtb := xt 248 (by decide +kernel) (by decide +kernel)
theorem lf_X1_34 : Cond.fieldLink RX1 34 (TX1 6).1 (TX1 6).2.1 (TX1 6).2.2.1 ∈ xtb := xt 249 (by decide +kernel) (by decide +kernel)
theorem lf_X1_38 : Cond.fieldLink RX1 38 (TX1 7).1 (TX1 7).2.1 (TX1 7).2.2.1 ∈ xtb := xt 250 (by decide +kernel) (by decide +kernel)
theorem lf_X5_71 : Cond.fieldLink RX5 71 (TX1 7).1 (TX1 7).2.1 (TX1 7).2.2.1 ∈ xtb := xt 251 (by decide +kernel) (by decide +kernel)
theorem lf_X9_181 : Cond.fieldLink RX9 181 (TX1 7).1 (TX1 7).2.1 (TX1 7).2.2.1 ∈ xtb := xt 252 (by decide +kernel) (by decide +kernel)
theorem lf_X1_41 : Cond.fieldLink RX1 41 (TX1 8).1 (TX1 8).2.1 (TX1 8).2.2.1 ∈ xtb := xt 253 (by decide +kernel) (by decide +kernel)
theorem lf_X5_54 : Cond.fieldLink RX5 54 (TX1 8).1 (TX1 8).2.1 (TX1 8).2.2.1 ∈ xtb := xt 254 (by decide +kernel) (by decide +kernel)
theorem lf_X1_44 : Cond.fieldLink RX1 44 (TX1 9).1 (TX1 9).2.1 (TX1 9).2.2.1 ∈ xtb := xt 255 (by decide +kernel) (by decide +kernel)
theorem lf_X9_212 : Cond.fieldLink RX9 212 (TX1 9).1 (TX1 9).2.1 (TX1 9).2.2.1 ∈ xtb := xt 256 (by decide +kernel) (by decide +kernel)
theorem lf_X1_47 : Cond.fieldLink RX1 47 (TX1 10).1 (TX1 10).2.1 (TX1 10).2.2.1 ∈ xtb := xt 257 (by decide +kernel) (by decide +kernel)
theorem lf_X5_51 : Cond.fieldLink RX5 51 (TX1 10).1 (TX1 10).2.1 (TX1 10).2.2.1 ∈ xtb := xt 258 (by decide +kernel) (by decide +kernel)
theorem lf_X9_215 : Cond.fieldLink RX9 215 (TX1 10).1 (TX1 10).2.1 (TX1 10).2.2.1 ∈ xtb := xt 259 (by decide +kernel) (by decide +kernel)
theorem lf_X1_53 : Cond.fieldLink RX1 53 (TX1 11).1 (TX1 11).2.1 (TX1 11).2.2.1 ∈ xtb := xt 260 (by decide +kernel) (by decide +kernel)
theorem lf_X9_148 : Cond.fieldLink RX9 148 (TX1 11).1 (TX1 11).2.1 (TX1 11).2.2.1 ∈ xtb := xt 261 (by decide +kernel) (by decide +kernel)
theorem lf_X9_26 : Cond.fieldLink RX9 26 (TX9 0).1 (TX9 0).2.1 (TX9 0).2.2.1 ∈ xtb := xt 287 (by decide +kernel) (by decide +kernel)
theorem lf_X9_35 : Cond.fieldLink RX9 35 (TX9 1).1 (TX9 1).2.1 (TX9 1).2.2.1 ∈ xtb := xt 288 (by decide +kernel) (by decide +kernel)
theorem lf_X9_39 : Cond.fieldLink RX9 39 (TX9 2).1 (TX9 2).2.1 (TX9 2).2.2.1 ∈ xtb := xt 289 (by decide +kernel) (by decide +kernel)
theorem lf_X9_43 : Cond.fieldLink RX9 43 (TX9 3).1 (TX9 3).2.1 (TX9 3).2.2.1 ∈ xtb := xt 290 (by decide +kernel) (by decide +kernel)
theorem lf_X9_47 : Cond.fieldLink RX9 47 (TX9 4).1 (TX9 4).2.1 (TX9 4).2.2.1 ∈ xtb := xt 291 (by decide +kernel) (by decide +kernel)
theorem lf_X9_51 : Cond.fieldLink RX9 51 (TX9 5).1 (TX9 5).2.1 (TX9 5).2.2.1 ∈ xtb := xt 292 (by decide +kernel) (by decide +kernel)
theorem lf_X9_60 : Cond.fieldLink RX9 60 (TX9 6).1 (TX9 6).2.1 (TX9 6).2.2.1 ∈ xtb := xt 293 (by decide +kernel) (by decide +kernel)
theorem lf_X9_64 : Cond.fieldLink RX9 64 (TX9 7).1 (TX9 7).2.1 (TX9 7).2.2.1 ∈ xtb := xt 294 (by decide +kernel) (by decide +kernel)
theorem lf_J0_38 : Cond.fieldLink RJ0 38 "java/lang/String" "COMPACT_STRINGS" "Z" ∈ xtb := xt 358 (by decide +kernel) (by decide +kernel)
theorem lf_J0_1053 : Cond.fieldLink RJ0 1053 "jdk/internal/util/Preconditions" "SIOOBE_FORMATTER" "Ljava/util/function/BiFunction;" ∈ xtb := xt 401 (by decide +kernel) (by decide +kernel)
theorem lf_X10_7 : Cond.fieldLink RX10 7 (TX10 0).1 (TX10 0).2.1 (TX10 0).2.2.1 ∈ xtb := xt 869 (by decide +kernel) (by decide +kernel)
theorem lf_X10_13 : Cond.fieldLink RX10 13 (TX10 1).1 (TX10 1).2.1 (TX10 1).2.2.1 ∈ xtb := xt 870 (by decide +kernel) (by decide +kernel)
theorem lf_X10_16 : Cond.fieldLink RX10 16 (TX10 2).1 (TX10 2).2.1 (TX10 2).2.2.1 ∈ xtb := xt 871 (by decide +kernel) (by decide +kernel)
theorem lf_X10_19 : Cond.fieldLink RX10 19 (TX10 3).1 (TX10 3).2.1 (TX10 3).2.2.1 ∈ xtb := xt 872 (by decide +kernel) (by decide +kernel)
theorem lf_X10_90 : Cond.fieldLink RX10 90 (TX10 4).1 (TX10 4).2.1 (TX10 4).2.2.1 ∈ xtb := xt 873 (by decide +kernel) (by decide +kernel)
theorem lf_X10_23 : Cond.fieldLink RX10 23 (TX10 5).1 (TX10 5).2.1 (TX10 5).2.2.1 ∈ xtb := xt 874 (by decide +kernel) (by decide +kernel)
theorem lf_X10_26 : Cond.fieldLink RX10 26 (TX10 6).1 (TX10 6).2.1 (TX10 6).2.2.1 ∈ xtb := xt 875 (by decide +kernel) (by decide +kernel)
theorem lf_X10_29 : Cond.fieldLink RX10 29 (TX10 7).1 (TX10 7).2.1 (TX10 7).2.2.1 ∈ xtb := xt 876 (by decide +kernel) (by decide +kernel)
theorem lf_X10_32 : Cond.fieldLink RX10 32 (TX10 8).1 (TX10 8).2.1 (TX10 8).2.2.1 ∈ xtb := xt 877 (by decide +kernel) (by decide +kernel)
theorem lf_X10_35 : Cond.fieldLink RX10 35 (TX10 9).1 (TX10 9).2.1 (TX10 9).2.2.1 ∈ xtb := xt 878 (by decide +kernel) (by decide +kernel)
theorem lf_X10_83 : Cond.fieldLink RX10 83 (TX10 10).1 (TX10 10).2.1 (TX10 10).2.2.1 ∈ xtb := xt 879 (by decide +kernel) (by decide +kernel)
theorem lf_X10_38 : Cond.fieldLink RX10 38 (TX10 11).1 (TX10 11).2.1 (TX10 11).2.2.1 ∈ xtb := xt 880 (by decide +kernel) (by decide +kernel)
theorem lf_X10_106 : Cond.fieldLink RX10 106 (TX10 12).1 (TX10 12).2.1 (TX10 12).2.2.1 ∈ xtb := xt 881 (by decide +kernel) (by decide +kernel)
theorem lf_X10_103 : Cond.fieldLink RX10 103 (TX10 13).1 (TX10 13).2.1 (TX10 13).2.2.1 ∈ xtb := xt 882 (by decide +kernel) (by decide +kernel)
theorem lf_X10_100 : Cond.fieldLink RX10 100 (TX10 14).1 (TX10 14).2.1 (TX10 14).2.2.1 ∈ xtb := xt 883 (by decide +kernel) (by decide +kernel)
theorem lf_X10_42 : Cond.fieldLink RX10 42 (TX10 15).1 (TX10 15).2.1 (TX10 15).2.2.1 ∈ xtb := xt 884 (by decide +kernel) (by decide +kernel)
theorem lf_X10_45 : Cond.fieldLink RX10 45 (TX10 16).1 (TX10 16).2.1 (TX10 16).2.2.1 ∈ xtb := xt 885 (by decide +kernel) (by decide +kernel)
theorem lf_X10_147 : Cond.fieldLink RX10 147 (TX10 17).1 (TX10 17).2.1 (TX10 17).2.2.1 ∈ xtb := xt 886 (by decide +kernel) (by decide +kernel)
theorem lf_X10_48 : Cond.fieldLink RX10 48 (TX10 18).1 (TX10 18).2.1 (TX10 18).2.2.1 ∈ xtb := xt 887 (by decide +kernel) (by decide +kernel)
theorem lf_X10_51 : Cond.fieldLink RX10 51 (TX10 19).1 (TX10 19).2.1 (TX10 19).2.2.1 ∈ xtb := xt 888 (by decide +kernel) (by decide +kernel)
theorem lf_X10_54 : Cond.fieldLink RX10 54 (TX10 20).1 (TX10 20).2.1 (TX10 20).2.2.1 ∈ xtb := xt 889 (by decide +kernel) (by decide +kernel)
theorem lf_X10_57 : Cond.fieldLink RX10 57 (TX10 21).1 (TX10 21).2.1 (TX10 21).2.2.1 ∈ xtb := xt 890 (by decide +kernel) (by decide +kernel)
theorem lf_X10_60 : Cond.fieldLink RX10 60 (TX10 22).1 (TX10 22).2.1 (TX10 22).2.2.1 ∈ xtb := xt 891 (by decide +kernel) (by decide +kernel)
theorem lf_X10_63 : Cond.fieldLink RX10 63 (TX10 23).1 (TX10 23).2.1 (TX10 23).2.2.1 ∈ xtb := xt 892 (by decide +kernel) (by decide +kernel)
theorem lf_J0_15 : Cond.fieldLink RJ0 15 "java/lang/String" "coder" "B" ∈ xtb := xt 1121 (by decide +kernel) (by decide +kernel)
theorem lf_J0_9 : Cond.fieldLink RJ0 9 "java/lang/String" "value" "[B" ∈ xtb := xt 1122 (by decide +kernel) (by decide +kernel)
theorem ft_X0_0 (v : Option Nat) : ab_fit (parseFieldDescriptor (TX0 0).2.2.1) (.inr v) := by
  rw [tyX0_ok 0 (by decide)]
  exact True.intro
theorem ft_X0_1 (v : Option Nat) : ab_fit (parseFieldDescriptor (TX0 1).2.2.1) (.inr v) := by
  rw [tyX0_ok 1 (by decide)]
  exact True.intro
theorem ft_X0_2 (v : Option Nat) : ab_fit (parseFieldDescriptor (TX0 2).2.2.1) (.inr v) := by
  rw [tyX0_ok 2 (by decide)]
  exact True.intro
theorem ft_X0_3 (v : Option Nat) : ab_fit (parseFieldDescriptor (TX0 3).2.2.1) (.inr v) := by
  rw [tyX0_ok 3 (by decide)]
  exact True.intro
theorem ft_X1_0 (v : Option Nat) : ab_fit (parseFieldDescriptor (TX1 0).2.2.1) (.inr v) := by
  rw [tyX1_ok 0 (by decide)]
  exact True.intro
theorem ft_X1_1 (v : Option Nat) : ab_fit (parseFieldDescriptor (TX1 1).2.2.1) (.inr v) := by
  rw [tyX1_ok 1 (by decide)]
  exact True.intro
theorem ft_X1_2 (v : Option Nat) : ab_fit (parseFieldDescriptor (TX1 2).2.2.1) (.inr v) := by
  rw [tyX1_ok 2 (by decide)]
  exact True.intro
theorem ft_X1_3 (v : Option Nat) : ab_fit (parseFieldDescriptor (TX1 3).2.2.1) (.inr v) := by
  rw [tyX1_ok 3 (by decide)]
  exact True.intro
theorem ft_X1_4 (v : Int) : ab_fit (parseFieldDescriptor (TX1 4).2.2.1) (.inl v) := by
  rw [tyX1_ok 4 (by decide)]
  exact True.intro
theorem ft_X1_5 (v : Int) : ab_fit (parseFieldDescriptor (TX1 5).2.2.1) (.inl v) := by
  rw [tyX1_ok 5 (by decide)]
  exact True.intro
theorem ft_X1_6 (v : Option Nat) : ab_fit (parseFieldDescriptor (TX1 6).2.2.1) (.inr v) := by
  rw [tyX1_ok 6 (by decide)]
  exact True.intro
theorem ft_X1_7 (v : Option Nat) : ab_fit (parseFieldDescriptor (TX1 7).2.2.1) (.inr v) := by
  rw [tyX1_ok 7 (by decide)]
  exact True.intro
theorem ft_X1_8 (v : Option Nat) : ab_fit (parseFieldDescriptor (TX1 8).2.2.1) (.inr v) := by
  rw [tyX1_ok 8 (by decide)]
  exact True.intro
theorem ft_X1_9 (v : Option Nat) : ab_fit (parseFieldDescriptor (TX1 9).2.2.1) (.inr v) := by
  rw [tyX1_ok 9 (by decide)]
  exact True.intro
theorem ft_X1_10 (v : Option Nat) : ab_fit (parseFieldDescriptor (TX1 10).2.2.1) (.inr v) := by
  rw [tyX1_ok 10 (by decide)]
  exact True.intro
theorem ft_X1_11 (v : Option Nat) : ab_fit (parseFieldDescriptor (TX1 11).2.2.1) (.inr v) := by
  rw [tyX1_ok 11 (by decide)]
  exact True.intro
theorem ft_X2_0 (v : Option Nat) : ab_fit (parseFieldDescriptor (TX2 0).2.2.1) (.inr v) := by
  rw [tyX2_ok 0 (by decide)]
  exact True.intro
theorem ft_X2_1 (v : Option Nat) : ab_fit (parseFieldDescriptor (TX2 1).2.2.1) (.inr v) := by
  rw [tyX2_ok 1 (by decide)]
  exact True.intro
theorem ft_X2_2 (v : Option Nat) : ab_fit (parseFieldDescriptor (TX2 2).2.2.1) (.inr v) := by
  rw [tyX2_ok 2 (by decide)]
  exact True.intro
theorem ft_X2_3 (v : Option Nat) : ab_fit (parseFieldDescriptor (TX2 3).2.2.1) (.inr v) := by
  rw [tyX2_ok 3 (by decide)]
  exact True.intro
theorem ft_X2_4 (v : Option Nat) : ab_fit (parseFieldDescriptor (TX2 4).2.2.1) (.inr v) := by
  rw [tyX2_ok 4 (by decide)]
  exact True.intro
theorem ft_X2_5 (v : Option Nat) : ab_fit (parseFieldDescriptor (TX2 5).2.2.1) (.inr v) := by
  rw [tyX2_ok 5 (by decide)]
  exact True.intro
theorem ft_X2_6 (v : Option Nat) : ab_fit (parseFieldDescriptor (TX2 6).2.2.1) (.inr v) := by
  rw [tyX2_ok 6 (by decide)]
  exact True.intro
theorem ft_X2_7 (v : Option Nat) : ab_fit (parseFieldDescriptor (TX2 7).2.2.1) (.inr v) := by
  rw [tyX2_ok 7 (by decide)]
  exact True.intro
theorem ft_X3_0 (v : Option Nat) : ab_fit (parseFieldDescriptor (TX3 0).2.2.1) (.inr v) := by
  rw [tyX3_ok 0 (by decide)]
  exact True.intro
theorem ft_X3_1 (v : Int) : ab_fit (parseFieldDescriptor (TX3 1).2.2.1) (.inl v) := by
  rw [tyX3_ok 1 (by decide)]
  exact True.intro
theorem ft_X3_2 (v : Int) : ab_fit (parseFieldDescriptor (TX3 2).2.2.1) (.inl v) := by
  rw [tyX3_ok 2 (by decide)]
  exact True.intro
theorem ft_X4_0 (v : Int) : ab_fit (parseFieldDescriptor (TX4 0).2.2.1) (.inl v) := by
  rw [tyX4_ok 0 (by decide)]
  exact True.intro
theorem ft_X4_1 (v : Option Nat) : ab_fit (parseFieldDescriptor (TX4 1).2.2.1) (.inr v) := by
  rw [tyX4_ok 1 (by decide)]
  exact True.intro
theorem ft_X4_2 (v : Option Nat) : ab_fit (parseFieldDescriptor (TX4 2).2.2.1) (.inr v) := by
  rw [tyX4_ok 2 (by decide)]
  exact True.intro
theorem ft_X4_3 (v : Option Nat) : ab_fit (parseFieldDescriptor (TX4 3).2.2.1) (.inr v) := by
  rw [tyX4_ok 3 (by decide)]
  exact True.intro
theorem ft_X4_4 (v : Option Nat) : ab_fit (parseFieldDescriptor (TX4 4).2.2.1) (.inr v) := by
  rw [tyX4_ok 4 (by decide)]
  exact True.intro
theorem ft_X4_5 (v : Option Nat) : ab_fit (parseFieldDescriptor (TX4 5).2.2.1) (.inr v) := by
  rw [tyX4_ok 5 (by decide)]
  exact True.intro
theorem ft_X5_0 (v : Int) : ab_fit (parseFieldDescriptor (TX5 0).2.2.1) (.inl v) := by
  rw [tyX5_ok 0 (by decide)]
  exact True.intro
theorem ft_X5_1 (v : Int) : ab_fit (parseFieldDescriptor (TX5 1).2.2.1) (.inl v) := by
  rw [tyX5_ok 1 (by decide)]
  exact True.intro
theorem ft_X5_2 (v : Int) : ab_fit (parseFieldDescriptor (TX5 2).2.2.1) (.inl v) := by
  rw [tyX5_ok 2 (by decide)]
  exact True.intro
theorem ft_X5_3 (v : Option Nat) : ab_fit (parseFieldDescriptor (TX5 3).2.2.1) (.inr v) := by
  rw [tyX5_ok 3 (by decide)]
  exact True.intro
theorem ft_X5_4 (v : Option Nat) : ab_fit (parseFieldDescriptor (TX5 4).2.2.1) (.inr v) := by
  rw [tyX5_ok 4 (by decide)]
  exact True.intro
theorem ft_X5_5 (v : Option Nat) : ab_fit (parseFieldDescriptor (TX5 5).2.2.1) (.inr v) := by
  rw [tyX5_ok 5 (by decide)]
  exact True.intro
theorem ft_X5_6 (v : Option Nat) : ab_fit (parseFieldDescriptor (TX5 6).2.2.1) (.inr v) := by
  rw [tyX5_ok 6 (by decide)]
  exact True.intro
theorem ft_X5_7 (v : Option Nat) : ab_fit (parseFieldDescriptor (TX5 7).2.2.1) (.inr v) := by
  rw [tyX5_ok 7 (by decide)]
  exact True.intro
theorem ft_X6_0 (v : Int) : ab_fit (parseFieldDescriptor (TX6 0).2.2.1) (.inl v) := by
  rw [tyX6_ok 0 (by decide)]
  exact True.intro
theorem ft_X6_1 (v : Int) : ab_fit (parseFieldDescriptor (TX6 1).2.2.1) (.inl v) := by
  rw [tyX6_ok 1 (by decide)]
  exact True.intro
theorem ft_X6_2 (v : Int) : ab_fit (parseFieldDescriptor (TX6 2).2.2.1) (.inl v) := by
  rw [tyX6_ok 2 (by decide)]
  exact True.intro
theorem ft_X6_3 (v : Option Nat) : ab_fit (parseFieldDescriptor (TX6 3).2.2.1) (.inr v) := by
  rw [tyX6_ok 3 (by decide)]
  exact True.intro
theorem ft_X6_4 (v : Option Nat) : ab_fit (parseFieldDescriptor (TX6 4).2.2.1) (.inr v) := by
  rw [tyX6_ok 4 (by decide)]
  exact True.intro
theorem ft_X6_5 (v : Option Nat) : ab_fit (parseFieldDescriptor (TX6 5).2.2.1) (.inr v) := by
  rw [tyX6_ok 5 (by decide)]
  exact True.intro
theorem ft_X8_0 (v : Option Nat) : ab_fit (parseFieldDescriptor (TX8 0).2.2.1) (.inr v) := by
  rw [tyX8_ok 0 (by decide)]
  exact True.intro
theorem ft_X8_1 (v : Int) : ab_fit (parseFieldDescriptor (TX8 1).2.2.1) (.inl v) := by
  rw [tyX8_ok 1 (by decide)]
  exact True.intro
theorem ft_X9_0 (v : Option Nat) : ab_fit (parseFieldDescriptor (TX9 0).2.2.1) (.inr v) := by
  rw [tyX9_ok 0 (by decide)]
  exact True.intro
theorem ft_X9_1 (v : Option Nat) : ab_fit (parseFieldDescriptor (TX9 1).2.2.1) (.inr v) := by
  rw [tyX9_ok 1 (by decide)]
  exact True.intro
theorem ft_X9_2 (v : Option Nat) : ab_fit (parseFieldDescriptor (TX9 2).2.2.1) (.inr v) := by
  rw [tyX9_ok 2 (by decide)]
  exact True.intro
theorem ft_X9_3 (v : Option Nat) : ab_fit (parseFieldDescriptor (TX9 3).2.2.1) (.inr v) := by
  rw [tyX9_ok 3 (by decide)]
  exact True.intro
theorem ft_X9_4 (v : Option Nat) : ab_fit (parseFieldDescriptor (TX9 4).2.2.1) (.inr v) := by
  rw [tyX9_ok 4 (by decide)]
  exact True.intro
theorem ft_X9_5 (v : Option Nat) : ab_fit (parseFieldDescriptor (TX9 5).2.2.1) (.inr v) := by
  rw [tyX9_ok 5 (by decide)]
  exact True.intro
theorem ft_X9_6 (v : Option Nat) : ab_fit (parseFieldDescriptor (TX9 6).2.2.1) (.inr v) := by
  rw [tyX9_ok 6 (by decide)]
  exact True.intro
theorem ft_X9_7 (v : Option Nat) : ab_fit (parseFieldDescriptor (TX9 7).2.2.1) (.inr v) := by
  rw [tyX9_ok 7 (by decide)]
  exact True.intro
theorem ft_X10_0 (v : Int) : ab_fit (parseFieldDescriptor (TX10 0).2.2.1) (.inl v) := by
  rw [tyX10_ok 0 (by decide)]
  exact True.intro
theorem ft_X10_1 (v : Int) : ab_fit (parseFieldDescriptor (TX10 1).2.2.1) (.inl v) := by
  rw [tyX10_ok 1 (by decide)]
  exact True.intro
theorem ft_X10_2 (v : Int) : ab_fit (parseFieldDescriptor (TX10 2).2.2.1) (.inl v) := by
  rw [tyX10_ok 2 (by decide)]
  exact True.intro
theorem ft_X10_3 (v : Option Nat) : ab_fit (parseFieldDescriptor (TX10 3).2.2.1) (.inr v) := by
  rw [tyX10_ok 3 (by decide)]
  exact True.intro
theorem ft_X10_4 (v : Int) : ab_fit (parseFieldDescriptor (TX10 4).2.2.1) (.inl v) := by
  rw [tyX10_ok 4 (by decide)]
  exact True.intro
theorem ft_X10_5 (v : Option Nat) : ab_fit (parseFieldDescriptor (TX10 5).2.2.1) (.inr v) := by
  rw [tyX10_ok 5 (by decide)]
  exact True.intro
theorem ft_X10_6 (v : Option Nat) : ab_fit (parseFieldDescriptor (TX10 6).2.2.1) (.inr v) := by
  rw [tyX10_ok 6 (by decide)]
  exact True.intro
theorem ft_X10_7 (v : Option Nat) : ab_fit (parseFieldDescriptor (TX10 7).2.2.1) (.inr v) := by
  rw [tyX10_ok 7 (by decide)]
  exact True.intro
theorem ft_X10_8 (v : Option Nat) : ab_fit (parseFieldDescriptor (TX10 8).2.2.1) (.inr v) := by
  rw [tyX10_ok 8 (by decide)]
  exact True.intro
theorem ft_X10_9 (v : Option Nat) : ab_fit (parseFieldDescriptor (TX10 9).2.2.1) (.inr v) := by
  rw [tyX10_ok 9 (by decide)]
  exact True.intro
theorem ft_X10_10 (v : Int) : ab_fit (parseFieldDescriptor (TX10 10).2.2.1) (.inl v) := by
  rw [tyX10_ok 10 (by decide)]
  exact True.intro
theorem ft_X10_11 (v : Option Nat) : ab_fit (parseFieldDescriptor (TX10 11).2.2.1) (.inr v) := by
  rw [tyX10_ok 11 (by decide)]
  exact True.intro
theorem ft_X10_12 (v : Int) : ab_fit (parseFieldDescriptor (TX10 12).2.2.1) (.inl v) := by
  rw [tyX10_ok 12 (by decide)]
  exact True.intro
theorem ft_X10_13 (v : Int) : ab_fit (parseFieldDescriptor (TX10 13).2.2.1) (.inl v) := by
  rw [tyX10_ok 13 (by decide)]
  exact True.intro
theorem ft_X10_14 (v : Int) : ab_fit (parseFieldDescriptor (TX10 14).2.2.1) (.inl v) := by
  rw [tyX10_ok 14 (by decide)]
  exact True.intro
theorem ft_X10_15 (v : Option Nat) : ab_fit (parseFieldDescriptor (TX10 15).2.2.1) (.inr v) := by
  rw [tyX10_ok 15 (by decide)]
  exact True.intro
theorem ft_X10_16 (v : Option Nat) : ab_fit (parseFieldDescriptor (TX10 16).2.2.1) (.inr v) := by
  rw [tyX10_ok 16 (by decide)]
  exact True.intro
theorem ft_X10_17 (v : Int) : ab_fit (parseFieldDescriptor (TX10 17).2.2.1) (.inl v) := by
  rw [tyX10_ok 17 (by decide)]
  exact True.intro
theorem ft_X10_18 (v : Option Nat) : ab_fit (parseFieldDescriptor (TX10 18).2.2.1) (.inr v) := by
  rw [tyX10_ok 18 (by decide)]
  exact True.intro
theorem ft_X10_19 (v : Option Nat) : ab_fit (parseFieldDescriptor (TX10 19).2.2.1) (.inr v) := by
  rw [tyX10_ok 19 (by decide)]
  exact True.intro
theorem ft_X10_20 (v : Option Nat) : ab_fit (parseFieldDescriptor (TX10 20).2.2.1) (.inr v) := by
  rw [tyX10_ok 20 (by decide)]
  exact True.intro
theorem ft_X10_21 (v : Option Nat) : ab_fit (parseFieldDescriptor (TX10 21).2.2.1) (.inr v) := by
  rw [tyX10_ok 21 (by decide)]
  exact True.intro
theorem ft_X10_22 (v : Option Nat) : ab_fit (parseFieldDescriptor (TX10 22).2.2.1) (.inr v) := by
  rw [tyX10_ok 22 (by decide)]
  exact True.intro
theorem ft_X10_23 (v : Option Nat) : ab_fit (parseFieldDescriptor (TX10 23).2.2.1) (.inr v) := by
  rw [tyX10_ok 23 (by decide)]
  exact True.intro
theorem lk_L_9 : ab_LI RL 9 yX9_init cX9_init 5 0 := ⟨⟨xt 20 (by decide +kernel) (by decide +kernel), xt 21 (by decide +kernel) (by decide +kernel), xt 1 (by decide +kernel) (by decide +kernel), xt 22 (by decide +kernel) (by decide +kernel)⟩, rfl, (by decide +kernel), (by decide +kernel), (by decide +kernel)⟩
theorem lk_X9_1 : Cond.methodLink RX9 1 Lib.objectInit ∈ xtb := xt 23 (by decide +kernel) (by decide +kernel)
theorem lk_X9_9 : ab_LI RX9 9 yX6_init cX6_init 1 0 := ⟨⟨xt 28 (by decide +kernel) (by decide +kernel), xt 29 (by decide +kernel) (by decide +kernel), xt 2 (by decide +kernel) (by decide +kernel), xt 30 (by decide +kernel) (by decide +kernel)⟩, rfl, (by decide +kernel), (by decide +kernel), (by decide +kernel)⟩
theorem lk_X6_1 : Cond.methodLink RX6 1 Lib.objectInit ∈ xtb := xt 31 (by decide +kernel) (by decide +kernel)
theorem lk_X9_12 : ab_LI RX9 12 yX4_init cX4_init 1 0 := ⟨⟨xt 73 (by decide +kernel) (by decide +kernel), xt 74 (by decide +kernel) (by decide +kernel), xt 3 (by decide +kernel) (by decide +kernel), xt 75 (by decide +kernel) (by decide +kernel)⟩, rfl, (by decide +kernel), (by decide +kernel), (by decide +kernel)⟩
theorem lk_X4_3 : Cond.methodLink RX4 3 Lib.objectInit ∈ xtb := xt 76 (by decide +kernel) (by decide +kernel)
theorem lk_X9_15 : ab_LI RX9 15 yX2_init cX2_init 3 2 := ⟨⟨xt 112 (by decide +kernel) (by decide +kernel), xt 113 (by decide +kernel) (by decide +kernel), xt 4 (by decide +kernel) (by decide +kernel), xt 114 (by decide +kernel) (by decide +kernel)⟩, rfl, (by decide +kernel), (by decide +kernel), (by decide +kernel)⟩
theorem lk_X2_3 : Cond.methodLink RX2 3 Lib.objectInit ∈ xtb := xt 115 (by decide +kernel) (by decide +kernel)
theorem lk_X9_20 : ab_LI RX9 20 yX0_init cX0_init 3 2 := ⟨⟨xt 146 (by decide +kernel) (by decide +kernel), xt 147 (by decide +kernel) (by decide +kernel), xt 5 (by decide +kernel) (by decide +kernel), xt 148 (by decide +kernel) (by decide +kernel)⟩, rfl, (by decide +kernel), (by decide +kernel), (by decide +kernel)⟩
theorem lk_X0_3 : Cond.methodLink RX0 3 Lib.objectInit ∈ xtb := xt 149 (by decide +kernel) (by decide +kernel)
theorem lk_X9_25 : ab_LI RX9 25 yX8_init cX8_init 1 0 := ⟨⟨xt 167 (by decide +kernel) (by decide +kernel), xt 168 (by decide +kernel) (by decide +kernel), xt 6 (by decide +kernel) (by decide +kernel), xt 169 (by decide +kernel) (by decide +kernel)⟩, rfl, (by decide +kernel), (by decide +kernel), (by decide +kernel)⟩
theorem lk_X8_3 : Cond.methodLink RX8 3 Lib.objectInit ∈ xtb := xt 170 (by decide +kernel) (by decide +kernel)
theorem lk_X9_34 : ab_LI RX9 34 yX3_init cX3_init 1 0 := ⟨⟨xt 184 (by decide +kernel) (by decide +kernel), xt 185 (by decide +kernel) (by decide +kernel), xt 7 (by decide +kernel) (by decide +kernel), xt 186 (by decide +kernel) (by decide +kernel)⟩, rfl, (by decide +kernel), (by decide +kernel), (by decide +kernel)⟩
theorem lk_X3_3 : Cond.methodLink RX3 3 Lib.objectInit ∈ xtb := xt 187 (by decide +kernel) (by decide +kernel)
theorem lk_X9_57 : ab_LI RX9 57 yX1_init cX1_init 5 4 := ⟨⟨xt 200 (by decide +kernel) (by decide +kernel), xt 201 (by decide +kernel) (by decide +kernel), xt 8 (by decide +kernel) (by decide +kernel), xt 202 (by decide +kernel) (by decide +kernel)⟩, rfl, (by decide +kernel), (by decide +kernel), (by decide +kernel)⟩
theorem lk_X1_3 : Cond.methodLink RX1 3 Lib.objectInit ∈ xtb := xt 203 (by decide +kernel) (by decide +kernel)
theorem lk_X1_52 : ab_LI RX1 52 yX5_init cX5_init 1 0 := ⟨⟨xt 206 (by decide +kernel) (by decide +kernel), xt 207 (by decide +kernel) (by decide +kernel), xt 9 (by decide +kernel) (by decide +kernel), xt 208 (by decide +kernel) (by decide +kernel)⟩, rfl, (by decide +kernel), (by decide +kernel), (by decide +kernel)⟩
theorem lk_X5_3 : Cond.methodLink RX5 3 Lib.objectInit ∈ xtb := xt 209 (by decide +kernel) (by decide +kernel)
theorem lk_L_13 : ab_LV RL 13 yX9_type cX9_type 2 (some .int) 1 := ⟨⟨xt 312 (by decide +kernel) (by decide +kernel), xt 313 (by decide +kernel) (by decide +kernel), xt 314 (by decide +kernel) (by decide +kernel), xt 1 (by decide +kernel) (by decide +kernel), xt 315 (by decide +kernel) (by decide +kernel)⟩, (by decide +kernel), (by decide +kernel), (by decide +kernel)⟩
theorem lk_X9_67 : ab_LV RX9 67 yX8_append cX8_append 2 (some .int) 1 := ⟨⟨xt 316 (by decide +kernel) (by decide +kernel), xt 317 (by decide +kernel) (by decide +kernel), xt 318 (by decide +kernel) (by decide +kernel), xt 6 (by decide +kernel) (by decide +kernel), xt 319 (by decide +kernel) (by decide +kernel)⟩, (by decide +kernel), (by decide +kernel), (by decide +kernel)⟩
theorem lk_L_18 : ab_LV RL 18 yX9_clearText cX9_clearText 1 (some .int) 0 := ⟨⟨xt 320 (by decide +kernel) (by decide +kernel), xt 321 (by decide +kernel) (by decide +kernel), xt 322 (by decide +kernel) (by decide +kernel), xt 1 (by decide +kernel) (by decide +kernel), xt 323 (by decide +kernel) (by decide +kernel)⟩, (by decide +kernel), (by decide +kernel), (by decide +kernel)⟩
theorem lk_X9_71 : ab_LV RX9 71 yX8_empty cX8_empty 2 (some .int) 0 := ⟨⟨xt 324 (by decide +kernel) (by decide +kernel), xt 325 (by decide +kernel) (by decide +kernel), xt 326 (by decide +kernel) (by decide +kernel), xt 6 (by decide +kernel) (by decide +kernel), xt 327 (by decide +kernel) (by decide +kernel)⟩, (by decide +kernel), (by decide +kernel), (by decide +kernel)⟩
theorem lk_L_23 : ab_LV RL 23 yX9_readParagraph cX9_readParagraph 2 (some .int) 0 := ⟨⟨xt 328 (by decide +kernel) (by decide +kernel), xt 329 (by decide +kernel) (by decide +kernel), xt 330 (by decide +kernel) (by decide +kernel), xt 1 (by decide +kernel) (by decide +kernel), xt 331 (by decide +kernel) (by decide +kernel)⟩, (by decide +kernel), (by decide +kernel), (by decide +kernel)⟩
theorem lk_X9_75 : ab_LV RX9 75 yX8_paragraphFault cX8_paragraphFault 2 (some .int) 0 := ⟨⟨xt 332 (by decide +kernel) (by decide +kernel), xt 333 (by decide +kernel) (by decide +kernel), xt 334 (by decide +kernel) (by decide +kernel), xt 6 (by decide +kernel) (by decide +kernel), xt 335 (by decide +kernel) (by decide +kernel)⟩, (by decide +kernel), (by decide +kernel), (by decide +kernel)⟩
theorem lk_X8_19 : ab_LS RX8 19 yX7_widthOf cX7_widthOf 1 (some .int) 1 := ⟨⟨Or.inl (xt 336 (by decide +kernel) (by decide +kernel)), xt 337 (by decide +kernel) (by decide +kernel), xt 11 (by decide +kernel) (by decide +kernel), xt 338 (by decide +kernel) (by decide +kernel)⟩, (by decide +kernel), (by decide +kernel), (by decide +kernel)⟩
theorem lk_X7_7 : ab_LS RX7 7 yX7_smallLetterWidth cX7_smallLetterWidth 1 (some .int) 1 := ⟨⟨Or.inl (xt 339 (by decide +kernel) (by decide +kernel)), xt 340 (by decide +kernel) (by decide +kernel), xt 11 (by decide +kernel) (by decide +kernel), xt 341 (by decide +kernel) (by decide +kernel)⟩, (by decide +kernel), (by decide +kernel), (by decide +kernel)⟩
theorem lk_X7_22 : ab_LS RX7 22 yX7_isOneOf cX7_isOneOf 2 (some .boolean) 2 := ⟨⟨Or.inl (xt 343 (by decide +kernel) (by decide +kernel)), xt 344 (by decide +kernel) (by decide +kernel), xt 11 (by decide +kernel) (by decide +kernel), xt 345 (by decide +kernel) (by decide +kernel)⟩, (by decide +kernel), (by decide +kernel), (by decide +kernel)⟩
theorem lk_X7_42 : ab_LV RX7 42 yJ0_indexOf_0f7a4 cJ0_indexOf_0f7a4 2 (some .int) 1 := ⟨⟨xt 346 (by decide +kernel) (by decide +kernel), xt 347 (by decide +kernel) (by decide +kernel), xt 348 (by decide +kernel) (by decide +kernel), xt 12 (by decide +kernel) (by decide +kernel), xt 349 (by decide +kernel) (by decide +kernel)⟩, (by decide +kernel), (by decide +kernel), (by decide +kernel)⟩
theorem lk_J0_633 : ab_LV RJ0 633 yJ0_indexOf_7cf53 cJ0_indexOf_7cf53 3 (some .int) 2 := ⟨⟨xt 350 (by decide +kernel) (by decide +kernel), xt 351 (by decide +kernel) (by decide +kernel), xt 352 (by decide +kernel) (by decide +kernel), xt 12 (by decide +kernel) (by decide +kernel), xt 353 (by decide +kernel) (by decide +kernel)⟩, (by decide +kernel), (by decide +kernel), (by decide +kernel)⟩
theorem lk_J0_492 : ab_LV RJ0 492 yJ0_isLatin1_aae02 cJ0_isLatin1_aae02 1 (some .boolean) 0 := ⟨⟨xt 354 (by decide +kernel) (by decide +kernel), xt 355 (by decide +kernel) (by decide +kernel), xt 356 (by decide +kernel) (by decide +kernel), xt 12 (by decide +kernel) (by decide +kernel), xt 357 (by decide +kernel) (by decide +kernel)⟩, (by decide +kernel), (by decide +kernel), (by decide +kernel)⟩
theorem lk_J0_505 : ab_LV RJ0 505 yJ0_length_8abf5 cJ0_length_8abf5 1 (some .int) 0 := ⟨⟨xt 360 (by decide +kernel) (by decide +kernel), xt 361 (by decide +kernel) (by decide +kernel), xt 362 (by decide +kernel) (by decide +kernel), xt 12 (by decide +kernel) (by decide +kernel), xt 363 (by decide +kernel) (by decide +kernel)⟩, (by decide +kernel), (by decide +kernel), (by decide +kernel)⟩
theorem lk_J0_335 : ab_LV RJ0 335 yJ0_coder_7d493 cJ0_coder_7d493 1 (some .byte) 0 := ⟨⟨xt 364 (by decide +kernel) (by decide +kernel), xt 365 (by decide +kernel) (by decide +kernel), xt 366 (by decide +kernel) (by decide +kernel), xt 12 (by decide +kernel) (by decide +kernel), xt 367 (by decide +kernel) (by decide +kernel)⟩, (by decide +kernel), (by decide +kernel), (by decide +kernel)⟩
theorem lk_J0_637 : ab_LS RJ0 637 yJ1_indexOf_4cfef cJ1_indexOf_4cfef 4 (some .int) 4 := ⟨⟨Or.inl (xt 368 (by decide +kernel) (by decide +kernel)), xt 369 (by decide +kernel) (by decide +kernel), xt 13 (by decide +kernel) (by decide +kernel), xt 370 (by decide +kernel) (by decide +kernel)⟩, (by decide +kernel), (by decide +kernel), (by decide +kernel)⟩
theorem lk_J1_88 : ab_LS RJ1 88 yJ1_canEncode_9a6ad cJ1_canEncode_9a6ad 1 (some .boolean) 1 := ⟨⟨Or.inl (xt 371 (by decide +kernel) (by decide +kernel)), xt 372 (by decide +kernel) (by decide +kernel), xt 13 (by decide +kernel) (by decide +kernel), xt 373 (by decide +kernel) (by decide +kernel)⟩, (by decide +kernel), (by decide +kernel), (by decide +kernel)⟩
theorem lk_J1_92 : Cond.methodLink RJ1 92 Lib.Math.max.name ∈ xtb := xt 374 (by decide +kernel) (by decide +kernel)
theorem lk_J1_38 : Cond.methodLink RJ1 38 Lib.Math.min.name ∈ xtb := xt 377 (by decide +kernel) (by decide +kernel)
theorem lk_J1_95 : ab_LS RJ1 95 yJ1_indexOfChar_4cfef cJ1_indexOfChar_4cfef 6 (some .int) 4 := ⟨⟨Or.inl (xt 380 (by decide +kernel) (by decide +kernel)), xt 381 (by decide +kernel) (by decide +kernel), xt 13 (by decide +kernel) (by decide +kernel), xt 382 (by decide +kernel) (by decide +kernel)⟩, (by decide +kernel), (by decide +kernel), (by decide +kernel)⟩
theorem lk_J0_1062 : ab_LS RJ0 1062 yJ3_checkFromToIndex_8c36e cJ3_checkFromToIndex_8c36e 4 (some .int) 4 := ⟨⟨Or.inl (xt 403 (by decide +kernel) (by decide +kernel)), xt 404 (by decide +kernel) (by decide +kernel), xt 16 (by decide +kernel) (by decide +kernel), xt 405 (by decide +kernel) (by decide +kernel)⟩, (by decide +kernel), (by decide +kernel), (by decide +kernel)⟩
theorem lk_X7_13 : ab_LS RX7 13 yX7_capitalWidth cX7_capitalWidth 1 (some .int) 1 := ⟨⟨Or.inl (xt 433 (by decide +kernel) (by decide +kernel)), xt 434 (by decide +kernel) (by decide +kernel), xt 11 (by decide +kernel) (by decide +kernel), xt 435 (by decide +kernel) (by decide +kernel)⟩, (by decide +kernel), (by decide +kernel), (by decide +kernel)⟩
theorem lk_X7_16 : ab_LS RX7 16 yX7_isDigit cX7_isDigit 1 (some .boolean) 1 := ⟨⟨Or.inl (xt 437 (by decide +kernel) (by decide +kernel)), xt 438 (by decide +kernel) (by decide +kernel), xt 11 (by decide +kernel) (by decide +kernel), xt 439 (by decide +kernel) (by decide +kernel)⟩, (by decide +kernel), (by decide +kernel), (by decide +kernel)⟩
theorem lk_X9_78 : ab_LV RX9 78 yX4_take cX4_take 6 none 1 := ⟨⟨xt 442 (by decide +kernel) (by decide +kernel), xt 443 (by decide +kernel) (by decide +kernel), xt 444 (by decide +kernel) (by decide +kernel), xt 3 (by decide +kernel) (by decide +kernel), xt 445 (by decide +kernel) (by decide +kernel)⟩, (by decide +kernel), (by decide +kernel), (by decide +kernel)⟩
theorem lk_X4_40 : ab_LV RX4 40 yX4_openWord cX4_openWord 2 none 1 := ⟨⟨xt 446 (by decide +kernel) (by decide +kernel), xt 448 (by decide +kernel) (by decide +kernel), xp 0 (by decide +kernel) (by decide +kernel), xt 3 (by decide +kernel) (by decide +kernel), xt 449 (by decide +kernel) (by decide +kernel)⟩, (by decide +kernel), (by decide +kernel), (by decide +kernel)⟩
theorem lk_X4_47 : ab_LS RX4 47 yX7_hangsLeft cX7_hangsLeft 1 (some .boolean) 1 := ⟨⟨Or.inl (xt 450 (by decide +kernel) (by decide +kernel)), xt 451 (by decide +kernel) (by decide +kernel), xt 11 (by decide +kernel) (by decide +kernel), xt 452 (by decide +kernel) (by decide +kernel)⟩, (by decide +kernel), (by decide +kernel), (by decide +kernel)⟩
theorem lk_X4_53 : ab_LS RX4 53 yX7_widthOf cX7_widthOf 1 (some .int) 1 := ⟨⟨Or.inl (xt 454 (by decide +kernel) (by decide +kernel)), xt 337 (by decide +kernel) (by decide +kernel), xt 11 (by decide +kernel) (by decide +kernel), xt 338 (by decide +kernel) (by decide +kernel)⟩, (by decide +kernel), (by decide +kernel), (by decide +kernel)⟩
theorem lk_X4_44 : ab_LV RX4 44 yX4_lengthenWord cX4_lengthenWord 4 none 1 := ⟨⟨xt 455 (by decide +kernel) (by decide +kernel), xt 457 (by decide +kernel) (by decide +kernel), xp 1 (by decide +kernel) (by decide +kernel), xt 3 (by decide +kernel) (by decide +kernel), xt 458 (by decide +kernel) (by decide +kernel)⟩, (by decide +kernel), (by decide +kernel), (by decide +kernel)⟩
theorem lk_X4_57 : ab_LS RX4 57 yX7_kindBehind cX7_kindBehind 1 (some .int) 1 := ⟨⟨Or.inl (xt 459 (by decide +kernel) (by decide +kernel)), xt 460 (by decide +kernel) (by decide +kernel), xt 11 (by decide +kernel) (by decide +kernel), xt 461 (by decide +kernel) (by decide +kernel)⟩, (by decide +kernel), (by decide +kernel), (by decide +kernel)⟩
theorem lk_X4_60 : ab_LS RX4 60 yX7_hangsRight cX7_hangsRight 1 (some .boolean) 1 := ⟨⟨Or.inl (xt 464 (by decide +kernel) (by decide +kernel)), xt 465 (by decide +kernel) (by decide +kernel), xt 11 (by decide +kernel) (by decide +kernel), xt 466 (by decide +kernel) (by decide +kernel)⟩, (by decide +kernel), (by decide +kernel), (by decide +kernel)⟩
theorem lk_X9_82 : ab_LV RX9 82 yX9_restoreBest cX9_restoreBest 1 (some .int) 0 := ⟨⟨xt 468 (by decide +kernel) (by decide +kernel), xt 470 (by decide +kernel) (by decide +kernel), xp 2 (by decide +kernel) (by decide +kernel), xt 1 (by decide +kernel) (by decide +kernel), xt 471 (by decide +kernel) (by decide +kernel)⟩, (by decide +kernel), (by decide +kernel), (by decide +kernel)⟩
theorem lk_X9_233 : ab_LV RX9 233 yX2_prepare cX2_prepare 6 none 0 := ⟨⟨xt 472 (by decide +kernel) (by decide +kernel), xt 473 (by decide +kernel) (by decide +kernel), xt 474 (by decide +kernel) (by decide +kernel), xt 4 (by decide +kernel) (by decide +kernel), xt 475 (by decide +kernel) (by decide +kernel)⟩, (by decide +kernel), (by decide +kernel), (by decide +kernel)⟩
theorem lk_X2_52 : ab_LS RX2 52 yX9_at cX9_at 2 (some .int) 2 := ⟨⟨Or.inr ⟨"RiverJustifier", by simp [xsN, RX2, yX9_at, RX9]⟩, xt 477 (by decide +kernel) (by decide +kernel), xt 1 (by decide +kernel) (by decide +kernel), xt 478 (by decide +kernel) (by decide +kernel)⟩, (by decide +kernel), (by decide +kernel), (by decide +kernel)⟩
theorem lk_X9_236 : ab_LV RX9 236 yX0_find cX0_find 4 none 0 := ⟨⟨xt 479 (by decide +kernel) (by decide +kernel), xt 480 (by decide +kernel) (by decide +kernel), xt 481 (by decide +kernel) (by decide +kernel), xt 5 (by decide +kernel) (by decide +kernel), xt 482 (by decide +kernel) (by decide +kernel)⟩, (by decide +kernel), (by decide +kernel), (by decide +kernel)⟩
theorem lk_X0_32 : ab_LV RX0 32 yX0_sumWith cX0_sumWith 5 (some .int) 2 := ⟨⟨xt 483 (by decide +kernel) (by decide +kernel), xt 484 (by decide +kernel) (by decide +kernel), xt 485 (by decide +kernel) (by decide +kernel), xt 5 (by decide +kernel) (by decide +kernel), xt 486 (by decide +kernel) (by decide +kernel)⟩, (by decide +kernel), (by decide +kernel), (by decide +kernel)⟩
theorem lk_X0_36 : ab_LS RX0 36 yX9_at cX9_at 2 (some .int) 2 := ⟨⟨Or.inr ⟨"RiverJustifier", by simp [xsN, RX0, yX9_at, RX9]⟩, xt 477 (by decide +kernel) (by decide +kernel), xt 1 (by decide +kernel) (by decide +kernel), xt 478 (by decide +kernel) (by decide +kernel)⟩, (by decide +kernel), (by decide +kernel), (by decide +kernel)⟩
theorem lk_X0_40 : ab_LV RX0 40 yX2_demerits cX2_demerits 5 (some .int) 2 := ⟨⟨xt 488 (by decide +kernel) (by decide +kernel), xt 489 (by decide +kernel) (by decide +kernel), xt 490 (by decide +kernel) (by decide +kernel), xt 4 (by decide +kernel) (by decide +kernel), xt 491 (by decide +kernel) (by decide +kernel)⟩, (by decide +kernel), (by decide +kernel), (by decide +kernel)⟩
theorem lk_X2_91 : ab_LV RX2 91 yX2_badness cX2_badness 6 (some .int) 2 := ⟨⟨xt 492 (by decide +kernel) (by decide +kernel), xt 493 (by decide +kernel) (by decide +kernel), xt 494 (by decide +kernel) (by decide +kernel), xt 4 (by decide +kernel) (by decide +kernel), xt 495 (by decide +kernel) (by decide +kernel)⟩, (by decide +kernel), (by decide +kernel), (by decide +kernel)⟩
theorem lk_X2_77 : ab_LV RX2 77 yX2_naturalWidth cX2_naturalWidth 5 (some .int) 2 := ⟨⟨xt 496 (by decide +kernel) (by decide +kernel), xt 497 (by decide +kernel) (by decide +kernel), xt 498 (by decide +kernel) (by decide +kernel), xt 4 (by decide +kernel) (by decide +kernel), xt 499 (by decide +kernel) (by decide +kernel)⟩, (by decide +kernel), (by decide +kernel), (by decide +kernel)⟩
theorem lk_X2_81 : ab_LV RX2 81 yX2_isEnd cX2_isEnd 2 (some .boolean) 1 := ⟨⟨xt 500 (by decide +kernel) (by decide +kernel), xt 501 (by decide +kernel) (by decide +kernel), xt 502 (by decide +kernel) (by decide +kernel), xt 4 (by decide +kernel) (by decide +kernel), xt 503 (by decide +kernel) (by decide +kernel)⟩, (by decide +kernel), (by decide +kernel), (by decide +kernel)⟩
theorem lk_X2_85 : Cond.methodLink RX2 85 Lib.Math.abs.name ∈ xtb := xt 504 (by decide +kernel) (by decide +kernel)
theorem lk_X9_118 : ab_LV RX9 118 yX1_becomeBest cX1_becomeBest 1 none 0 := ⟨⟨xt 507 (by decide +kernel) (by decide +kernel), xt 508 (by decide +kernel) (by decide +kernel), xt 509 (by decide +kernel) (by decide +kernel), xt 8 (by decide +kernel) (by decide +kernel), xt 510 (by decide +kernel) (by decide +kernel)⟩, (by decide +kernel), (by decide +kernel), (by decide +kernel)⟩
theorem lk_X1_93 : ab_LV RX1 93 yX0_exists cX0_exists 1 (some .boolean) 0 := ⟨⟨xt 511 (by decide +kernel) (by decide +kernel), xt 512 (by decide +kernel) (by decide +kernel), xt 513 (by decide +kernel) (by decide +kernel), xt 5 (by decide +kernel) (by decide +kernel), xt 514 (by decide +kernel) (by decide +kernel)⟩, (by decide +kernel), (by decide +kernel), (by decide +kernel)⟩
theorem lk_X1_97 : ab_LV RX1 97 yX1_goOnFrom cX1_goOnFrom 3 none 1 := ⟨⟨xt 515 (by decide +kernel) (by decide +kernel), xt 517 (by decide +kernel) (by decide +kernel), xp 3 (by decide +kernel) (by decide +kernel), xt 8 (by decide +kernel) (by decide +kernel), xt 518 (by decide +kernel) (by decide +kernel)⟩, (by decide +kernel), (by decide +kernel), (by decide +kernel)⟩
theorem lk_X1_61 : ab_LS RX1 61 yX9_at cX9_at 2 (some .int) 2 := ⟨⟨Or.inr ⟨"RiverJustifier", by simp [xsN, RX1, yX9_at, RX9]⟩, xt 477 (by decide +kernel) (by decide +kernel), xt 1 (by decide +kernel) (by decide +kernel), xt 478 (by decide +kernel) (by decide +kernel)⟩, (by decide +kernel), (by decide +kernel), (by decide +kernel)⟩
theorem lk_X1_101 : ab_LV RX1 101 yX1_settle cX1_settle 4 none 0 := ⟨⟨xt 520 (by decide +kernel) (by decide +kernel), xt 522 (by decide +kernel) (by decide +kernel), xp 4 (by decide +kernel) (by decide +kernel), xt 8 (by decide +kernel) (by decide +kernel), xt 523 (by decide +kernel) (by decide +kernel)⟩, (by decide +kernel), (by decide +kernel), (by decide +kernel)⟩
theorem lk_X1_70 : ab_LV RX1 70 yX1_firstWord cX1_firstWord 2 (some .int) 1 := ⟨⟨xt 524 (by decide +kernel) (by decide +kernel), xt 525 (by decide +kernel) (by decide +kernel), xt 526 (by decide +kernel) (by decide +kernel), xt 8 (by decide +kernel) (by decide +kernel), xt 527 (by decide +kernel) (by decide +kernel)⟩, (by decide +kernel), (by decide +kernel), (by decide +kernel)⟩
theorem lk_X1_57 : ab_LV RX1 57 yX1_hasLine cX1_hasLine 2 (some .boolean) 1 := ⟨⟨xt 528 (by decide +kernel) (by decide +kernel), xt 529 (by decide +kernel) (by decide +kernel), xt 530 (by decide +kernel) (by decide +kernel), xt 8 (by decide +kernel) (by decide +kernel), xt 531 (by decide +kernel) (by decide +kernel)⟩, (by decide +kernel), (by decide +kernel), (by decide +kernel)⟩
theorem lk_X1_74 : ab_LV RX1 74 yX1_lastWord cX1_lastWord 2 (some .int) 1 := ⟨⟨xt 532 (by decide +kernel) (by decide +kernel), xt 533 (by decide +kernel) (by decide +kernel), xt 534 (by decide +kernel) (by decide +kernel), xt 8 (by decide +kernel) (by decide +kernel), xt 535 (by decide +kernel) (by decide +kernel)⟩, (by decide +kernel), (by decide +kernel), (by decide +kernel)⟩
theorem lk_X1_104 : ab_LV RX1 104 yX4_hasWord cX4_hasWord 2 (some .boolean) 1 := ⟨⟨xt 536 (by decide +kernel) (by decide +kernel), xt 537 (by decide +kernel) (by decide +kernel), xt 538 (by decide +kernel) (by decide +kernel), xt 3 (by decide +kernel) (by decide +kernel), xt 539 (by decide +kernel) (by decide +kernel)⟩, (by decide +kernel), (by decide +kernel), (by decide +kernel)⟩
theorem lk_X1_77 : ab_LV RX1 77 yX2_demerits cX2_demerits 5 (some .int) 2 := ⟨⟨xt 540 (by decide +kernel) (by decide +kernel), xt 489 (by decide +kernel) (by decide +kernel), xt 490 (by decide +kernel) (by decide +kernel), xt 4 (by decide +kernel) (by decide +kernel), xt 491 (by decide +kernel) (by decide +kernel)⟩, (by decide +kernel), (by decide +kernel), (by decide +kernel)⟩
theorem lk_X1_110 : ab_LV RX1 110 yX1_shareOut cX1_shareOut 7 none 2 := ⟨⟨xt 541 (by decide +kernel) (by decide +kernel), xt 543 (by decide +kernel) (by decide +kernel), xp 5 (by decide +kernel) (by decide +kernel), xt 8 (by decide +kernel) (by decide +kernel), xt 544 (by decide +kernel) (by decide +kernel)⟩, (by decide +kernel), (by decide +kernel), (by decide +kernel)⟩
theorem lk_X1_136 : ab_LV RX1 136 yX2_naturalWidth cX2_naturalWidth 5 (some .int) 2 := ⟨⟨xt 545 (by decide +kernel) (by decide +kernel), xt 497 (by decide +kernel) (by decide +kernel), xt 498 (by decide +kernel) (by decide +kernel), xt 4 (by decide +kernel) (by decide +kernel), xt 499 (by decide +kernel) (by decide +kernel)⟩, (by decide +kernel), (by decide +kernel), (by decide +kernel)⟩
theorem lk_X1_139 : ab_LV RX1 139 yX2_isEnd cX2_isEnd 2 (some .boolean) 1 := ⟨⟨xt 546 (by decide +kernel) (by decide +kernel), xt 501 (by decide +kernel) (by decide +kernel), xt 502 (by decide +kernel) (by decide +kernel), xt 4 (by decide +kernel) (by decide +kernel), xt 503 (by decide +kernel) (by decide +kernel)⟩, (by decide +kernel), (by decide +kernel), (by decide +kernel)⟩
theorem lk_X1_142 : Cond.methodLink RX1 142 Lib.Math.abs.name ∈ xtb := xt 547 (by decide +kernel) (by decide +kernel)
theorem lk_X1_147 : ab_LV RX1 147 yX1_changeKind cX1_changeKind 9 (some .int) 5 := ⟨⟨xt 548 (by decide +kernel) (by decide +kernel), xt 550 (by decide +kernel) (by decide +kernel), xp 6 (by decide +kernel) (by decide +kernel), xt 8 (by decide +kernel) (by decide +kernel), xt 551 (by decide +kernel) (by decide +kernel)⟩, (by decide +kernel), (by decide +kernel), (by decide +kernel)⟩
theorem lk_X1_114 : ab_LV RX1 114 yX1_placeWords cX1_placeWords 6 none 3 := ⟨⟨xt 552 (by decide +kernel) (by decide +kernel), xt 554 (by decide +kernel) (by decide +kernel), xp 7 (by decide +kernel) (by decide +kernel), xt 8 (by decide +kernel) (by decide +kernel), xt 555 (by decide +kernel) (by decide +kernel)⟩, (by decide +kernel), (by decide +kernel), (by decide +kernel)⟩
theorem lk_X1_160 : ab_LV RX1 160 yX1_endOf cX1_endOf 2 (some .int) 1 := ⟨⟨xt 556 (by decide +kernel) (by decide +kernel), xt 557 (by decide +kernel) (by decide +kernel), xt 558 (by decide +kernel) (by decide +kernel), xt 8 (by decide +kernel) (by decide +kernel), xt 559 (by decide +kernel) (by decide +kernel)⟩, (by decide +kernel), (by decide +kernel), (by decide +kernel)⟩
theorem lk_X1_123 : ab_LV RX1 123 yX5_find cX5_find 5 none 3 := ⟨⟨xt 560 (by decide +kernel) (by decide +kernel), xt 561 (by decide +kernel) (by decide +kernel), xt 562 (by decide +kernel) (by decide +kernel), xt 9 (by decide +kernel) (by decide +kernel), xt 563 (by decide +kernel) (by decide +kernel)⟩, (by decide +kernel), (by decide +kernel), (by decide +kernel)⟩
theorem lk_X5_47 : ab_LV RX5 47 yX1_endOf cX1_endOf 2 (some .int) 1 := ⟨⟨xt 564 (by decide +kernel) (by decide +kernel), xt 557 (by decide +kernel) (by decide +kernel), xt 558 (by decide +kernel) (by decide +kernel), xt 8 (by decide +kernel) (by decide +kernel), xt 559 (by decide +kernel) (by decide +kernel)⟩, (by decide +kernel), (by decide +kernel), (by decide +kernel)⟩
theorem lk_X5_57 : ab_LV RX5 57 yX5_spaceAbove cX5_spaceAbove 9 (some .int) 3 := ⟨⟨xt 565 (by decide +kernel) (by decide +kernel), xt 567 (by decide +kernel) (by decide +kernel), xp 8 (by decide +kernel) (by decide +kernel), xt 9 (by decide +kernel) (by decide +kernel), xt 568 (by decide +kernel) (by decide +kernel)⟩, (by decide +kernel), (by decide +kernel), (by decide +kernel)⟩
theorem lk_X5_38 : ab_LS RX5 38 yX9_at cX9_at 2 (some .int) 2 := ⟨⟨Or.inr ⟨"RiverJustifier", by simp [xsN, RX5, yX9_at, RX9]⟩, xt 477 (by decide +kernel) (by decide +kernel), xt 1 (by decide +kernel) (by decide +kernel), xt 478 (by decide +kernel) (by decide +kernel)⟩, (by decide +kernel), (by decide +kernel), (by decide +kernel)⟩
theorem lk_X5_74 : Cond.methodLink RX5 74 Lib.Math.min.name ∈ xtb := xt 570 (by decide +kernel) (by decide +kernel)
theorem lk_X5_77 : Cond.methodLink RX5 77 Lib.Math.abs.name ∈ xtb := xt 571 (by decide +kernel) (by decide +kernel)
theorem lk_X5_61 : Cond.methodLink RX5 61 Lib.Math.max.name ∈ xtb := xt 572 (by decide +kernel) (by decide +kernel)
theorem lk_X5_67 : ab_LV RX5 67 yX5_collectEnds cX5_collectEnds 5 none 2 := ⟨⟨xt 573 (by decide +kernel) (by decide +kernel), xt 575 (by decide +kernel) (by decide +kernel), xp 9 (by decide +kernel) (by decide +kernel), xt 9 (by decide +kernel) (by decide +kernel), xt 576 (by decide +kernel) (by decide +kernel)⟩, (by decide +kernel), (by decide +kernel), (by decide +kernel)⟩
theorem lk_L_27 : ab_LV RL 27 yX9_command cX9_command 2 (some .int) 0 := ⟨⟨xt 578 (by decide +kernel) (by decide +kernel), xt 579 (by decide +kernel) (by decide +kernel), xt 580 (by decide +kernel) (by decide +kernel), xt 1 (by decide +kernel) (by decide +kernel), xt 581 (by decide +kernel) (by decide +kernel)⟩, (by decide +kernel), (by decide +kernel), (by decide +kernel)⟩
theorem lk_X9_89 : ab_LV RX9 89 yX3_parse cX3_parse 5 (some .int) 1 := ⟨⟨xt 582 (by decide +kernel) (by decide +kernel), xt 583 (by decide +kernel) (by decide +kernel), xt 584 (by decide +kernel) (by decide +kernel), xt 7 (by decide +kernel) (by decide +kernel), xt 585 (by decide +kernel) (by decide +kernel)⟩, (by decide +kernel), (by decide +kernel), (by decide +kernel)⟩
theorem lk_X3_22 : ab_LV RX3 22 yX8_endOfPiece cX8_endOfPiece 3 (some .int) 1 := ⟨⟨xt 586 (by decide +kernel) (by decide +kernel), xt 587 (by decide +kernel) (by decide +kernel), xt 588 (by decide +kernel) (by decide +kernel), xt 6 (by decide +kernel) (by decide +kernel), xt 589 (by decide +kernel) (by decide +kernel)⟩, (by decide +kernel), (by decide +kernel), (by decide +kernel)⟩
theorem lk_X3_28 : ab_LV RX3 28 yX3_takePiece cX3_takePiece 5 (some .boolean) 4 := ⟨⟨xt 590 (by decide +kernel) (by decide +kernel), xt 592 (by decide +kernel) (by decide +kernel), xp 10 (by decide +kernel) (by decide +kernel), xt 7 (by decide +kernel) (by decide +kernel), xt 593 (by decide +kernel) (by decide +kernel)⟩, (by decide +kernel), (by decide +kernel), (by decide +kernel)⟩
theorem lk_X3_54 : ab_LS RX3 54 yX3_subjectAt cX3_subjectAt 3 (some .int) 3 := ⟨⟨Or.inl (xt 594 (by decide +kernel) (by decide +kernel)), xt 595 (by decide +kernel) (by decide +kernel), xt 7 (by decide +kernel) (by decide +kernel), xt 596 (by decide +kernel) (by decide +kernel)⟩, (by decide +kernel), (by decide +kernel), (by decide +kernel)⟩
theorem lk_X3_80 : ab_LV RX3 80 yX8_isName cX8_isName 5 (some .boolean) 3 := ⟨⟨xt 598 (by decide +kernel) (by decide +kernel), xt 599 (by decide +kernel) (by decide +kernel), xt 600 (by decide +kernel) (by decide +kernel), xt 6 (by decide +kernel) (by decide +kernel), xt 601 (by decide +kernel) (by decide +kernel)⟩, (by decide +kernel), (by decide +kernel), (by decide +kernel)⟩
theorem lk_X8_25 : ab_LV RX8 25 yJ0_length_8abf5 cJ0_length_8abf5 1 (some .int) 0 := ⟨⟨xt 602 (by decide +kernel) (by decide +kernel), xt 361 (by decide +kernel) (by decide +kernel), xt 362 (by decide +kernel) (by decide +kernel), xt 12 (by decide +kernel) (by decide +kernel), xt 363 (by decide +kernel) (by decide +kernel)⟩, (by decide +kernel), (by decide +kernel), (by decide +kernel)⟩
theorem lk_X8_30 : ab_LV RX8 30 yJ0_charAt_5068e cJ0_charAt_5068e 2 (some .char) 1 := ⟨⟨xt 603 (by decide +kernel) (by decide +kernel), xt 604 (by decide +kernel) (by decide +kernel), xt 605 (by decide +kernel) (by decide +kernel), xt 12 (by decide +kernel) (by decide +kernel), xt 606 (by decide +kernel) (by decide +kernel)⟩, (by decide +kernel), (by decide +kernel), (by decide +kernel)⟩
theorem lk_J0_495 : ab_LS RJ0 495 yJ1_charAt_3b067 cJ1_charAt_3b067 2 (some .char) 2 := ⟨⟨Or.inl (xt 607 (by decide +kernel) (by decide +kernel)), xt 608 (by decide +kernel) (by decide +kernel), xt 13 (by decide +kernel) (by decide +kernel), xt 609 (by decide +kernel) (by decide +kernel)⟩, (by decide +kernel), (by decide +kernel), (by decide +kernel)⟩
theorem lk_J1_9 : ab_LS RJ1 9 yJ0_checkIndex_df160 cJ0_checkIndex_df160 2 none 2 := ⟨⟨Or.inl (xt 610 (by decide +kernel) (by decide +kernel)), xt 611 (by decide +kernel) (by decide +kernel), xt 12 (by decide +kernel) (by decide +kernel), xt 612 (by decide +kernel) (by decide +kernel)⟩, (by decide +kernel), (by decide +kernel), (by decide +kernel)⟩
theorem lk_J0_1059 : ab_LS RJ0 1059 yJ3_checkIndex_8e157 cJ3_checkIndex_8e157 3 (some .int) 3 := ⟨⟨Or.inl (xt 613 (by decide +kernel) (by decide +kernel)), xt 614 (by decide +kernel) (by decide +kernel), xt 16 (by decide +kernel) (by decide +kernel), xt 615 (by decide +kernel) (by decide +kernel)⟩, (by decide +kernel), (by decide +kernel), (by decide +kernel)⟩
theorem lk_X3_35 : ab_LV RX3 35 yX3_wantedPieces cX3_wantedPieces 1 (some .int) 0 := ⟨⟨xt 626 (by decide +kernel) (by decide +kernel), xt 628 (by decide +kernel) (by decide +kernel), xp 11 (by decide +kernel) (by decide +kernel), xt 7 (by decide +kernel) (by decide +kernel), xt 629 (by decide +kernel) (by decide +kernel)⟩, (by decide +kernel), (by decide +kernel), (by decide +kernel)⟩
theorem lk_X3_58 : ab_LV RX3 58 yX8_numberAt cX8_numberAt 5 (some .int) 2 := ⟨⟨xt 630 (by decide +kernel) (by decide +kernel), xt 631 (by decide +kernel) (by decide +kernel), xt 632 (by decide +kernel) (by decide +kernel), xt 6 (by decide +kernel) (by decide +kernel), xt 633 (by decide +kernel) (by decide +kernel)⟩, (by decide +kernel), (by decide +kernel), (by decide +kernel)⟩
theorem lk_X8_34 : ab_LS RX8 34 yX7_isDigit cX7_isDigit 1 (some .boolean) 1 := ⟨⟨Or.inl (xt 634 (by decide +kernel) (by decide +kernel)), xt 438 (by decide +kernel) (by decide +kernel), xt 11 (by decide +kernel) (by decide +kernel), xt 439 (by decide +kernel) (by decide +kernel)⟩, (by decide +kernel), (by decide +kernel), (by decide +kernel)⟩
theorem lk_X3_62 : ab_LV RX3 62 yX3_takeNumber cX3_takeNumber 3 (some .boolean) 2 := ⟨⟨xt 635 (by decide +kernel) (by decide +kernel), xt 637 (by decide +kernel) (by decide +kernel), xp 12 (by decide +kernel) (by decide +kernel), xt 7 (by decide +kernel) (by decide +kernel), xt 638 (by decide +kernel) (by decide +kernel)⟩, (by decide +kernel), (by decide +kernel), (by decide +kernel)⟩
theorem lk_X3_69 : ab_LV RX3 69 yX3_leastNumber cX3_leastNumber 2 (some .int) 1 := ⟨⟨xt 639 (by decide +kernel) (by decide +kernel), xt 641 (by decide +kernel) (by decide +kernel), xp 13 (by decide +kernel) (by decide +kernel), xt 7 (by decide +kernel) (by decide +kernel), xt 642 (by decide +kernel) (by decide +kernel)⟩, (by decide +kernel), (by decide +kernel), (by decide +kernel)⟩
theorem lk_X3_75 : ab_LS RX3 75 yX9_at cX9_at 2 (some .int) 2 := ⟨⟨Or.inr ⟨"RiverJustifier", by simp [xsN, RX3, yX9_at, RX9]⟩, xt 477 (by decide +kernel) (by decide +kernel), xt 1 (by decide +kernel) (by decide +kernel), xt 478 (by decide +kernel) (by decide +kernel)⟩, (by decide +kernel), (by decide +kernel), (by decide +kernel)⟩
theorem lk_X3_72 : ab_LV RX3 72 yX3_greatestNumber cX3_greatestNumber 1 (some .int) 0 := ⟨⟨xt 644 (by decide +kernel) (by decide +kernel), xt 646 (by decide +kernel) (by decide +kernel), xp 14 (by decide +kernel) (by decide +kernel), xt 7 (by decide +kernel) (by decide +kernel), xt 647 (by decide +kernel) (by decide +kernel)⟩, (by decide +kernel), (by decide +kernel), (by decide +kernel)⟩
theorem lk_X3_66 : ab_LS RX3 66 yX3_kindAt cX3_kindAt 3 (some .int) 3 := ⟨⟨Or.inl (xt 648 (by decide +kernel) (by decide +kernel)), xt 649 (by decide +kernel) (by decide +kernel), xt 7 (by decide +kernel) (by decide +kernel), xt 650 (by decide +kernel) (by decide +kernel)⟩, (by decide +kernel), (by decide +kernel), (by decide +kernel)⟩
theorem lk_X9_93 : ab_LV RX9 93 yX3_applyTo cX3_applyTo 2 none 1 := ⟨⟨xt 654 (by decide +kernel) (by decide +kernel), xt 655 (by decide +kernel) (by decide +kernel), xt 656 (by decide +kernel) (by decide +kernel), xt 7 (by decide +kernel) (by decide +kernel), xt 657 (by decide +kernel) (by decide +kernel)⟩, (by decide +kernel), (by decide +kernel), (by decide +kernel)⟩
theorem lk_X3_50 : ab_LV RX3 50 yX6_putWidths cX6_putWidths 5 none 4 := ⟨⟨xt 658 (by decide +kernel) (by decide +kernel), xt 659 (by decide +kernel) (by decide +kernel), xt 660 (by decide +kernel) (by decide +kernel), xt 2 (by decide +kernel) (by decide +kernel), xt 661 (by decide +kernel) (by decide +kernel)⟩, (by decide +kernel), (by decide +kernel), (by decide +kernel)⟩
theorem lk_X6_29 : ab_LS RX6 29 yX9_isKind cX9_isKind 1 (some .boolean) 1 := ⟨⟨Or.inr ⟨"RiverJustifier", by simp [xsN, RX6, yX9_isKind, RX9]⟩, xt 663 (by decide +kernel) (by decide +kernel), xt 1 (by decide +kernel) (by decide +kernel), xt 664 (by decide +kernel) (by decide +kernel)⟩, (by decide +kernel), (by decide +kernel), (by decide +kernel)⟩
theorem lk_L_31 : ab_LV RL 31 yX9_setMeasure cX9_setMeasure 3 (some .int) 1 := ⟨⟨xt 665 (by decide +kernel) (by decide +kernel), xt 666 (by decide +kernel) (by decide +kernel), xt 667 (by decide +kernel) (by decide +kernel), xt 1 (by decide +kernel) (by decide +kernel), xt 668 (by decide +kernel) (by decide +kernel)⟩, (by decide +kernel), (by decide +kernel), (by decide +kernel)⟩
theorem lk_L_36 : ab_LV RL 36 yX9_setHang cX9_setHang 3 (some .int) 1 := ⟨⟨xt 669 (by decide +kernel) (by decide +kernel), xt 670 (by decide +kernel) (by decide +kernel), xt 671 (by decide +kernel) (by decide +kernel), xt 1 (by decide +kernel) (by decide +kernel), xt 672 (by decide +kernel) (by decide +kernel)⟩, (by decide +kernel), (by decide +kernel), (by decide +kernel)⟩
theorem lk_L_40 : ab_LV RL 40 yX9_setTolerance cX9_setTolerance 3 (some .int) 1 := ⟨⟨xt 673 (by decide +kernel) (by decide +kernel), xt 674 (by decide +kernel) (by decide +kernel), xt 675 (by decide +kernel) (by decide +kernel), xt 1 (by decide +kernel) (by decide +kernel), xt 676 (by decide +kernel) (by decide +kernel)⟩, (by decide +kernel), (by decide +kernel), (by decide +kernel)⟩
theorem lk_L_44 : ab_LV RL 44 yX9_setSpace cX9_setSpace 6 (some .int) 4 := ⟨⟨xt 677 (by decide +kernel) (by decide +kernel), xt 678 (by decide +kernel) (by decide +kernel), xt 679 (by decide +kernel) (by decide +kernel), xt 1 (by decide +kernel) (by decide +kernel), xt 680 (by decide +kernel) (by decide +kernel)⟩, (by decide +kernel), (by decide +kernel), (by decide +kernel)⟩
theorem lk_X9_106 : ab_LS RX9 106 yX9_isKind cX9_isKind 1 (some .boolean) 1 := ⟨⟨Or.inl (xt 681 (by decide +kernel) (by decide +kernel)), xt 663 (by decide +kernel) (by decide +kernel), xt 1 (by decide +kernel) (by decide +kernel), xt 664 (by decide +kernel) (by decide +kernel)⟩, (by decide +kernel), (by decide +kernel), (by decide +kernel)⟩
theorem lk_X9_114 : ab_LV RX9 114 yX6_putWidths cX6_putWidths 5 none 4 := ⟨⟨xt 682 (by decide +kernel) (by decide +kernel), xt 659 (by decide +kernel) (by decide +kernel), xt 660 (by decide +kernel) (by decide +kernel), xt 2 (by decide +kernel) (by decide +kernel), xt 661 (by decide +kernel) (by decide +kernel)⟩, (by decide +kernel), (by decide +kernel), (by decide +kernel)⟩
theorem lk_L_49 : ab_LV RL 49 yX9_layBest cX9_layBest 1 (some .int) 0 := ⟨⟨xt 683 (by decide +kernel) (by decide +kernel), xt 684 (by decide +kernel) (by decide +kernel), xt 685 (by decide +kernel) (by decide +kernel), xt 1 (by decide +kernel) (by decide +kernel), xt 686 (by decide +kernel) (by decide +kernel)⟩, (by decide +kernel), (by decide +kernel), (by decide +kernel)⟩
theorem lk_L_53 : ab_LV RL 53 yX9_takeSecond cX9_takeSecond 3 (some .int) 1 := ⟨⟨xt 687 (by decide +kernel) (by decide +kernel), xt 688 (by decide +kernel) (by decide +kernel), xt 689 (by decide +kernel) (by decide +kernel), xt 1 (by decide +kernel) (by decide +kernel), xt 690 (by decide +kernel) (by decide +kernel)⟩, (by decide +kernel), (by decide +kernel), (by decide +kernel)⟩
theorem lk_X9_124 : ab_LV RX9 124 yX1_hasLine cX1_hasLine 2 (some .boolean) 1 := ⟨⟨xt 691 (by decide +kernel) (by decide +kernel), xt 529 (by decide +kernel) (by decide +kernel), xt 530 (by decide +kernel) (by decide +kernel), xt 8 (by decide +kernel) (by decide +kernel), xt 531 (by decide +kernel) (by decide +kernel)⟩, (by decide +kernel), (by decide +kernel), (by decide +kernel)⟩
theorem lk_X9_127 : ab_LV RX9 127 yX1_secondLast cX1_secondLast 8 (some .int) 1 := ⟨⟨xt 692 (by decide +kernel) (by decide +kernel), xt 693 (by decide +kernel) (by decide +kernel), xt 694 (by decide +kernel) (by decide +kernel), xt 8 (by decide +kernel) (by decide +kernel), xt 695 (by decide +kernel) (by decide +kernel)⟩, (by decide +kernel), (by decide +kernel), (by decide +kernel)⟩
theorem lk_X1_88 : ab_LV RX1 88 yX0_sumWith cX0_sumWith 5 (some .int) 2 := ⟨⟨xt 696 (by decide +kernel) (by decide +kernel), xt 484 (by decide +kernel) (by decide +kernel), xt 485 (by decide +kernel) (by decide +kernel), xt 5 (by decide +kernel) (by decide +kernel), xt 486 (by decide +kernel) (by decide +kernel)⟩, (by decide +kernel), (by decide +kernel), (by decide +kernel)⟩
theorem lk_X9_131 : ab_LV RX9 131 yX1_endLineWith cX1_endLineWith 3 none 2 := ⟨⟨xt 697 (by decide +kernel) (by decide +kernel), xt 698 (by decide +kernel) (by decide +kernel), xt 699 (by decide +kernel) (by decide +kernel), xt 8 (by decide +kernel) (by decide +kernel), xt 700 (by decide +kernel) (by decide +kernel)⟩, (by decide +kernel), (by decide +kernel), (by decide +kernel)⟩
theorem lk_L_57 : ab_LV RL 57 yX9_breakRivers cX9_breakRivers 3 (some .int) 0 := ⟨⟨xt 701 (by decide +kernel) (by decide +kernel), xt 702 (by decide +kernel) (by decide +kernel), xt 703 (by decide +kernel) (by decide +kernel), xt 1 (by decide +kernel) (by decide +kernel), xt 704 (by decide +kernel) (by decide +kernel)⟩, (by decide +kernel), (by decide +kernel), (by decide +kernel)⟩
theorem lk_X9_135 : ab_LV RX9 135 yX9_calmingLine cX9_calmingLine 8 (some .int) 0 := ⟨⟨xt 705 (by decide +kernel) (by decide +kernel), xt 707 (by decide +kernel) (by decide +kernel), xp 15 (by decide +kernel) (by decide +kernel), xt 1 (by decide +kernel) (by decide +kernel), xt 708 (by decide +kernel) (by decide +kernel)⟩, (by decide +kernel), (by decide +kernel), (by decide +kernel)⟩
theorem lk_X9_239 : ab_LV RX9 239 yX1_copyBreaks cX1_copyBreaks 3 none 1 := ⟨⟨xt 709 (by decide +kernel) (by decide +kernel), xt 710 (by decide +kernel) (by decide +kernel), xt 711 (by decide +kernel) (by decide +kernel), xt 8 (by decide +kernel) (by decide +kernel), xt 712 (by decide +kernel) (by decide +kernel)⟩, (by decide +kernel), (by decide +kernel), (by decide +kernel)⟩
theorem lk_L_61 : ab_LV RL 61 yX9_count cX9_count 2 (some .int) 1 := ⟨⟨xt 713 (by decide +kernel) (by decide +kernel), xt 714 (by decide +kernel) (by decide +kernel), xt 715 (by decide +kernel) (by decide +kernel), xt 1 (by decide +kernel) (by decide +kernel), xt 716 (by decide +kernel) (by decide +kernel)⟩, (by decide +kernel), (by decide +kernel), (by decide +kernel)⟩
theorem lk_X9_141 : ab_LV RX9 141 yX0_exists cX0_exists 1 (some .boolean) 0 := ⟨⟨xt 717 (by decide +kernel) (by decide +kernel), xt 512 (by decide +kernel) (by decide +kernel), xt 513 (by decide +kernel) (by decide +kernel), xt 5 (by decide +kernel) (by decide +kernel), xt 514 (by decide +kernel) (by decide +kernel)⟩, (by decide +kernel), (by decide +kernel), (by decide +kernel)⟩
theorem lk_L_65 : ab_LV RL 65 yX9_spaceWidth cX9_spaceWidth 3 (some .int) 2 := ⟨⟨xt 718 (by decide +kernel) (by decide +kernel), xt 719 (by decide +kernel) (by decide +kernel), xt 720 (by decide +kernel) (by decide +kernel), xt 1 (by decide +kernel) (by decide +kernel), xt 721 (by decide +kernel) (by decide +kernel)⟩, (by decide +kernel), (by decide +kernel), (by decide +kernel)⟩
theorem lk_L_70 : ab_LV RL 70 yX9_word cX9_word 3 (some .int) 2 := ⟨⟨xt 722 (by decide +kernel) (by decide +kernel), xt 723 (by decide +kernel) (by decide +kernel), xt 724 (by decide +kernel) (by decide +kernel), xt 1 (by decide +kernel) (by decide +kernel), xt 725 (by decide +kernel) (by decide +kernel)⟩, (by decide +kernel), (by decide +kernel), (by decide +kernel)⟩
theorem lk_X9_169 : ab_LV RX9 169 yX4_hasWord cX4_hasWord 2 (some .boolean) 1 := ⟨⟨xt 726 (by decide +kernel) (by decide +kernel), xt 537 (by decide +kernel) (by decide +kernel), xt 538 (by decide +kernel) (by decide +kernel), xt 3 (by decide +kernel) (by decide +kernel), xt 539 (by decide +kernel) (by decide +kernel)⟩, (by decide +kernel), (by decide +kernel), (by decide +kernel)⟩
theorem lk_L_74 : ab_LV RL 74 yX9_line cX9_line 5 (some .int) 2 := ⟨⟨xt 727 (by decide +kernel) (by decide +kernel), xt 728 (by decide +kernel) (by decide +kernel), xt 729 (by decide +kernel) (by decide +kernel), xt 1 (by decide +kernel) (by decide +kernel), xt 730 (by decide +kernel) (by decide +kernel)⟩, (by decide +kernel), (by decide +kernel), (by decide +kernel)⟩
theorem lk_X9_184 : ab_LV RX9 184 yX1_firstWord cX1_firstWord 2 (some .int) 1 := ⟨⟨xt 731 (by decide +kernel) (by decide +kernel), xt 525 (by decide +kernel) (by decide +kernel), xt 526 (by decide +kernel) (by decide +kernel), xt 8 (by decide +kernel) (by decide +kernel), xt 527 (by decide +kernel) (by decide +kernel)⟩, (by decide +kernel), (by decide +kernel), (by decide +kernel)⟩
theorem lk_X9_187 : ab_LV RX9 187 yX1_lastWord cX1_lastWord 2 (some .int) 1 := ⟨⟨xt 732 (by decide +kernel) (by decide +kernel), xt 533 (by decide +kernel) (by decide +kernel), xt 534 (by decide +kernel) (by decide +kernel), xt 8 (by decide +kernel) (by decide +kernel), xt 535 (by decide +kernel) (by decide +kernel)⟩, (by decide +kernel), (by decide +kernel), (by decide +kernel)⟩
theorem lk_X9_190 : ab_LV RX9 190 yX2_naturalWidth cX2_naturalWidth 5 (some .int) 2 := ⟨⟨xt 733 (by decide +kernel) (by decide +kernel), xt 497 (by decide +kernel) (by decide +kernel), xt 498 (by decide +kernel) (by decide +kernel), xt 4 (by decide +kernel) (by decide +kernel), xt 499 (by decide +kernel) (by decide +kernel)⟩, (by decide +kernel), (by decide +kernel), (by decide +kernel)⟩
theorem lk_X9_194 : ab_LV RX9 194 yX2_badness cX2_badness 6 (some .int) 2 := ⟨⟨xt 734 (by decide +kernel) (by decide +kernel), xt 493 (by decide +kernel) (by decide +kernel), xt 494 (by decide +kernel) (by decide +kernel), xt 4 (by decide +kernel) (by decide +kernel), xt 495 (by decide +kernel) (by decide +kernel)⟩, (by decide +kernel), (by decide +kernel), (by decide +kernel)⟩
theorem lk_X9_197 : ab_LV RX9 197 yX2_demerits cX2_demerits 5 (some .int) 2 := ⟨⟨xt 735 (by decide +kernel) (by decide +kernel), xt 489 (by decide +kernel) (by decide +kernel), xt 490 (by decide +kernel) (by decide +kernel), xt 4 (by decide +kernel) (by decide +kernel), xt 491 (by decide +kernel) (by decide +kernel)⟩, (by decide +kernel), (by decide +kernel), (by decide +kernel)⟩
theorem lk_X9_202 : ab_LS RX9 202 yX9_at cX9_at 2 (some .int) 2 := ⟨⟨Or.inl (xt 736 (by decide +kernel) (by decide +kernel)), xt 477 (by decide +kernel) (by decide +kernel), xt 1 (by decide +kernel) (by decide +kernel), xt 478 (by decide +kernel) (by decide +kernel)⟩, (by decide +kernel), (by decide +kernel), (by decide +kernel)⟩
theorem lk_X9_209 : ab_LV RX9 209 yX1_endOf cX1_endOf 2 (some .int) 1 := ⟨⟨xt 737 (by decide +kernel) (by decide +kernel), xt 557 (by decide +kernel) (by decide +kernel), xt 558 (by decide +kernel) (by decide +kernel), xt 8 (by decide +kernel) (by decide +kernel), xt 559 (by decide +kernel) (by decide +kernel)⟩, (by decide +kernel), (by decide +kernel), (by decide +kernel)⟩
theorem lk_L_78 : ab_LV RL 78 yX9_space cX9_space 6 (some .int) 3 := ⟨⟨xt 738 (by decide +kernel) (by decide +kernel), xt 739 (by decide +kernel) (by decide +kernel), xt 740 (by decide +kernel) (by decide +kernel), xt 1 (by decide +kernel) (by decide +kernel), xt 741 (by decide +kernel) (by decide +kernel)⟩, (by decide +kernel), (by decide +kernel), (by decide +kernel)⟩
theorem lk_L_83 : ab_LV RL 83 yX9_begin cX9_begin 2 (some .int) 1 := ⟨⟨xt 742 (by decide +kernel) (by decide +kernel), xt 743 (by decide +kernel) (by decide +kernel), xt 744 (by decide +kernel) (by decide +kernel), xt 1 (by decide +kernel) (by decide +kernel), xt 745 (by decide +kernel) (by decide +kernel)⟩, (by decide +kernel), (by decide +kernel), (by decide +kernel)⟩
theorem lk_L_87 : ab_LV RL 87 yX9_second cX9_second 4 (some .int) 2 := ⟨⟨xt 746 (by decide +kernel) (by decide +kernel), xt 747 (by decide +kernel) (by decide +kernel), xt 748 (by decide +kernel) (by decide +kernel), xt 1 (by decide +kernel) (by decide +kernel), xt 749 (by decide +kernel) (by decide +kernel)⟩, (by decide +kernel), (by decide +kernel), (by decide +kernel)⟩
theorem lk_X9_221 : ab_LV RX9 221 yX1_demeritsBefore cX1_demeritsBefore 4 (some .int) 1 := ⟨⟨xt 750 (by decide +kernel) (by decide +kernel), xt 751 (by decide +kernel) (by decide +kernel), xt 752 (by decide +kernel) (by decide +kernel), xt 8 (by decide +kernel) (by decide +kernel), xt 753 (by decide +kernel) (by decide +kernel)⟩, (by decide +kernel), (by decide +kernel), (by decide +kernel)⟩
theorem lk_X9_224 : ab_LV RX9 224 yX0_sumWith cX0_sumWith 5 (some .int) 2 := ⟨⟨xt 754 (by decide +kernel) (by decide +kernel), xt 484 (by decide +kernel) (by decide +kernel), xt 485 (by decide +kernel) (by decide +kernel), xt 5 (by decide +kernel) (by decide +kernel), xt 486 (by decide +kernel) (by decide +kernel)⟩, (by decide +kernel), (by decide +kernel), (by decide +kernel)⟩
theorem lk_L_91 : ab_LV RL 91 yX9_worst cX9_worst 3 (some .int) 1 := ⟨⟨xt 755 (by decide +kernel) (by decide +kernel), xt 756 (by decide +kernel) (by decide +kernel), xt 757 (by decide +kernel) (by decide +kernel), xt 1 (by decide +kernel) (by decide +kernel), xt 758 (by decide +kernel) (by decide +kernel)⟩, (by decide +kernel), (by decide +kernel), (by decide +kernel)⟩
theorem lk_X9_227 : ab_LV RX9 227 yX1_linesWorseThan cX1_linesWorseThan 6 (some .int) 1 := ⟨⟨xt 759 (by decide +kernel) (by decide +kernel), xt 760 (by decide +kernel) (by decide +kernel), xt 761 (by decide +kernel) (by decide +kernel), xt 8 (by decide +kernel) (by decide +kernel), xt 762 (by decide +kernel) (by decide +kernel)⟩, (by decide +kernel), (by decide +kernel), (by decide +kernel)⟩
theorem lk_X1_82 : ab_LV RX1 82 yX2_badness cX2_badness 6 (some .int) 2 := ⟨⟨xt 763 (by decide +kernel) (by decide +kernel), xt 493 (by decide +kernel) (by decide +kernel), xt 494 (by decide +kernel) (by decide +kernel), xt 4 (by decide +kernel) (by decide +kernel), xt 495 (by decide +kernel) (by decide +kernel)⟩, (by decide +kernel), (by decide +kernel), (by decide +kernel)⟩
theorem lk_L_95 : ab_LV RL 95 yX9_river cX9_river 5 (some .int) 2 := ⟨⟨xt 764 (by decide +kernel) (by decide +kernel), xt 765 (by decide +kernel) (by decide +kernel), xt 766 (by decide +kernel) (by decide +kernel), xt 1 (by decide +kernel) (by decide +kernel), xt 767 (by decide +kernel) (by decide +kernel)⟩, (by decide +kernel), (by decide +kernel), (by decide +kernel)⟩
theorem lk_X9_230 : ab_LV RX9 230 yX5_spaceOf cX5_spaceOf 5 (some .int) 2 := ⟨⟨xt 768 (by decide +kernel) (by decide +kernel), xt 769 (by decide +kernel) (by decide +kernel), xt 770 (by decide +kernel) (by decide +kernel), xt 9 (by decide +kernel) (by decide +kernel), xt 771 (by decide +kernel) (by decide +kernel)⟩, (by decide +kernel), (by decide +kernel), (by decide +kernel)⟩
theorem lk_L_12 : ab_LI RL 12 yX10_init cX10_init 1 0 := ⟨⟨xt 774 (by decide +kernel) (by decide +kernel), xt 775 (by decide +kernel) (by decide +kernel), xt 10 (by decide +kernel) (by decide +kernel), xt 776 (by decide +kernel) (by decide +kernel)⟩, rfl, (by decide +kernel), (by decide +kernel), (by decide +kernel)⟩
theorem lk_X10_1 : Cond.methodLink RX10 1 Lib.objectInit ∈ xtb := xt 777 (by decide +kernel) (by decide +kernel)
theorem lk_X10_66 : ab_LV RX10 66 yX10_layAnew cX10_layAnew 1 none 0 := ⟨⟨xt 778 (by decide +kernel) (by decide +kernel), xt 780 (by decide +kernel) (by decide +kernel), xp 16 (by decide +kernel) (by decide +kernel), xt 10 (by decide +kernel) (by decide +kernel), xt 781 (by decide +kernel) (by decide +kernel)⟩, (by decide +kernel), (by decide +kernel), (by decide +kernel)⟩
theorem lk_X10_182 : ab_LV RX10 182 yX10_findWays cX10_findWays 4 none 0 := ⟨⟨xt 782 (by decide +kernel) (by decide +kernel), xt 784 (by decide +kernel) (by decide +kernel), xp 17 (by decide +kernel) (by decide +kernel), xt 10 (by decide +kernel) (by decide +kernel), xt 785 (by decide +kernel) (by decide +kernel)⟩, (by decide +kernel), (by decide +kernel), (by decide +kernel)⟩
theorem lk_X10_172 : ab_LV RX10 172 yX10_isPossible cX10_isPossible 5 (some .boolean) 2 := ⟨⟨xt 786 (by decide +kernel) (by decide +kernel), xt 788 (by decide +kernel) (by decide +kernel), xp 18 (by decide +kernel) (by decide +kernel), xt 10 (by decide +kernel) (by decide +kernel), xt 789 (by decide +kernel) (by decide +kernel)⟩, (by decide +kernel), (by decide +kernel), (by decide +kernel)⟩
theorem lk_X10_163 : ab_LV RX10 163 yX10_difference cX10_difference 3 (some .int) 2 := ⟨⟨xt 790 (by decide +kernel) (by decide +kernel), xt 792 (by decide +kernel) (by decide +kernel), xp 19 (by decide +kernel) (by decide +kernel), xt 10 (by decide +kernel) (by decide +kernel), xt 793 (by decide +kernel) (by decide +kernel)⟩, (by decide +kernel), (by decide +kernel), (by decide +kernel)⟩
theorem lk_X10_160 : ab_LV RX10 160 yX10_natural cX10_natural 5 (some .int) 2 := ⟨⟨xt 794 (by decide +kernel) (by decide +kernel), xt 796 (by decide +kernel) (by decide +kernel), xp 20 (by decide +kernel) (by decide +kernel), xt 10 (by decide +kernel) (by decide +kernel), xt 797 (by decide +kernel) (by decide +kernel)⟩, (by decide +kernel), (by decide +kernel), (by decide +kernel)⟩
theorem lk_X10_150 : ab_LV RX10 150 yX10_spaces cX10_spaces 6 (some .int) 3 := ⟨⟨xt 798 (by decide +kernel) (by decide +kernel), xt 800 (by decide +kernel) (by decide +kernel), xp 21 (by decide +kernel) (by decide +kernel), xt 10 (by decide +kernel) (by decide +kernel), xt 801 (by decide +kernel) (by decide +kernel)⟩, (by decide +kernel), (by decide +kernel), (by decide +kernel)⟩
theorem lk_X10_154 : ab_LV RX10 154 yX10_hangLeft cX10_hangLeft 2 (some .int) 1 := ⟨⟨xt 802 (by decide +kernel) (by decide +kernel), xt 804 (by decide +kernel) (by decide +kernel), xp 22 (by decide +kernel) (by decide +kernel), xt 10 (by decide +kernel) (by decide +kernel), xt 805 (by decide +kernel) (by decide +kernel)⟩, (by decide +kernel), (by decide +kernel), (by decide +kernel)⟩
theorem lk_X10_157 : ab_LV RX10 157 yX10_hangRight cX10_hangRight 2 (some .int) 1 := ⟨⟨xt 806 (by decide +kernel) (by decide +kernel), xt 808 (by decide +kernel) (by decide +kernel), xp 23 (by decide +kernel) (by decide +kernel), xt 10 (by decide +kernel) (by decide +kernel), xt 809 (by decide +kernel) (by decide +kernel)⟩, (by decide +kernel), (by decide +kernel), (by decide +kernel)⟩
theorem lk_X10_166 : ab_LV RX10 166 yX10_isLast cX10_isLast 2 (some .boolean) 1 := ⟨⟨xt 810 (by decide +kernel) (by decide +kernel), xt 812 (by decide +kernel) (by decide +kernel), xp 24 (by decide +kernel) (by decide +kernel), xt 10 (by decide +kernel) (by decide +kernel), xt 813 (by decide +kernel) (by decide +kernel)⟩, (by decide +kernel), (by decide +kernel), (by decide +kernel)⟩
theorem lk_X10_176 : ab_LV RX10 176 yX10_demerits cX10_demerits 4 (some .int) 2 := ⟨⟨xt 814 (by decide +kernel) (by decide +kernel), xt 816 (by decide +kernel) (by decide +kernel), xp 25 (by decide +kernel) (by decide +kernel), xt 10 (by decide +kernel) (by decide +kernel), xt 817 (by decide +kernel) (by decide +kernel)⟩, (by decide +kernel), (by decide +kernel), (by decide +kernel)⟩
theorem lk_X10_169 : ab_LV RX10 169 yX10_badness cX10_badness 5 (some .int) 2 := ⟨⟨xt 818 (by decide +kernel) (by decide +kernel), xt 820 (by decide +kernel) (by decide +kernel), xp 26 (by decide +kernel) (by decide +kernel), xt 10 (by decide +kernel) (by decide +kernel), xt 821 (by decide +kernel) (by decide +kernel)⟩, (by decide +kernel), (by decide +kernel), (by decide +kernel)⟩
theorem lk_X10_185 : ab_LV RX10 185 yX10_hasWay cX10_hasWay 1 (some .boolean) 0 := ⟨⟨xt 822 (by decide +kernel) (by decide +kernel), xt 824 (by decide +kernel) (by decide +kernel), xp 27 (by decide +kernel) (by decide +kernel), xt 10 (by decide +kernel) (by decide +kernel), xt 825 (by decide +kernel) (by decide +kernel)⟩, (by decide +kernel), (by decide +kernel), (by decide +kernel)⟩
theorem lk_X10_189 : ab_LV RX10 189 yX10_goOn cX10_goOn 4 none 2 := ⟨⟨xt 826 (by decide +kernel) (by decide +kernel), xt 828 (by decide +kernel) (by decide +kernel), xp 28 (by decide +kernel) (by decide +kernel), xt 10 (by decide +kernel) (by decide +kernel), xt 829 (by decide +kernel) (by decide +kernel)⟩, (by decide +kernel), (by decide +kernel), (by decide +kernel)⟩
theorem lk_X10_179 : ab_LV RX10 179 yX10_layOut cX10_layOut 3 none 0 := ⟨⟨xt 830 (by decide +kernel) (by decide +kernel), xt 832 (by decide +kernel) (by decide +kernel), xp 29 (by decide +kernel) (by decide +kernel), xt 10 (by decide +kernel) (by decide +kernel), xt 833 (by decide +kernel) (by decide +kernel)⟩, (by decide +kernel), (by decide +kernel), (by decide +kernel)⟩
theorem lk_X10_224 : ab_LV RX10 224 yX10_layLine cX10_layLine 9 none 1 := ⟨⟨xt 834 (by decide +kernel) (by decide +kernel), xt 836 (by decide +kernel) (by decide +kernel), xp 30 (by decide +kernel) (by decide +kernel), xt 10 (by decide +kernel) (by decide +kernel), xt 837 (by decide +kernel) (by decide +kernel)⟩, (by decide +kernel), (by decide +kernel), (by decide +kernel)⟩
theorem lk_X10_192 : ab_LV RX10 192 yX10_lastOf cX10_lastOf 2 (some .int) 1 := ⟨⟨xt 838 (by decide +kernel) (by decide +kernel), xt 840 (by decide +kernel) (by decide +kernel), xp 31 (by decide +kernel) (by decide +kernel), xt 10 (by decide +kernel) (by decide +kernel), xt 841 (by decide +kernel) (by decide +kernel)⟩, (by decide +kernel), (by decide +kernel), (by decide +kernel)⟩
theorem lk_X10_208 : ab_LV RX10 208 yX10_share cX10_share 9 (some .int) 5 := ⟨⟨xt 842 (by decide +kernel) (by decide +kernel), xt 844 (by decide +kernel) (by decide +kernel), xp 32 (by decide +kernel) (by decide +kernel), xt 10 (by decide +kernel) (by decide +kernel), xt 845 (by decide +kernel) (by decide +kernel)⟩, (by decide +kernel), (by decide +kernel), (by decide +kernel)⟩
theorem lk_X10_215 : ab_LV RX10 215 yX10_hasSpace cX10_hasSpace 2 (some .boolean) 1 := ⟨⟨xt 846 (by decide +kernel) (by decide +kernel), xt 848 (by decide +kernel) (by decide +kernel), xp 33 (by decide +kernel) (by decide +kernel), xt 10 (by decide +kernel) (by decide +kernel), xt 849 (by decide +kernel) (by decide +kernel)⟩, (by decide +kernel), (by decide +kernel), (by decide +kernel)⟩
theorem lk_X10_227 : ab_LV RX10 227 yX10_above cX10_above 5 (some .int) 1 := ⟨⟨xt 850 (by decide +kernel) (by decide +kernel), xt 852 (by decide +kernel) (by decide +kernel), xp 34 (by decide +kernel) (by decide +kernel), xt 10 (by decide +kernel) (by decide +kernel), xt 853 (by decide +kernel) (by decide +kernel)⟩, (by decide +kernel), (by decide +kernel), (by decide +kernel)⟩
theorem lk_X10_221 : ab_LV RX10 221 yX10_areNear cX10_areNear 3 (some .boolean) 2 := ⟨⟨xt 854 (by decide +kernel) (by decide +kernel), xt 856 (by decide +kernel) (by decide +kernel), xp 35 (by decide +kernel) (by decide +kernel), xt 10 (by decide +kernel) (by decide +kernel), xt 857 (by decide +kernel) (by decide +kernel)⟩, (by decide +kernel), (by decide +kernel), (by decide +kernel)⟩
theorem lk_X10_218 : ab_LV RX10 218 yX10_middle cX10_middle 2 (some .int) 1 := ⟨⟨xt 858 (by decide +kernel) (by decide +kernel), xt 860 (by decide +kernel) (by decide +kernel), xp 36 (by decide +kernel) (by decide +kernel), xt 10 (by decide +kernel) (by decide +kernel), xt 861 (by decide +kernel) (by decide +kernel)⟩, (by decide +kernel), (by decide +kernel), (by decide +kernel)⟩
theorem lk_X10_212 : ab_LV RX10 212 yX10_spaceBegin cX10_spaceBegin 2 (some .int) 1 := ⟨⟨xt 862 (by decide +kernel) (by decide +kernel), xt 864 (by decide +kernel) (by decide +kernel), xp 37 (by decide +kernel) (by decide +kernel), xt 10 (by decide +kernel) (by decide +kernel), xt 865 (by decide +kernel) (by decide +kernel)⟩, (by decide +kernel), (by decide +kernel), (by decide +kernel)⟩
theorem lk_X10_69 : ab_LS RX10 69 yX10_in cX10_in 3 (some .boolean) 3 := ⟨⟨Or.inl (xt 866 (by decide +kernel) (by decide +kernel)), xt 867 (by decide +kernel) (by decide +kernel), xt 10 (by decide +kernel) (by decide +kernel), xt 868 (by decide +kernel) (by decide +kernel)⟩, (by decide +kernel), (by decide +kernel), (by decide +kernel)⟩
theorem lk_L_17 : ab_LV RL 17 yX10_type cX10_type 2 (some .int) 1 := ⟨⟨xt 942 (by decide +kernel) (by decide +kernel), xt 943 (by decide +kernel) (by decide +kernel), xt 944 (by decide +kernel) (by decide +kernel), xt 10 (by decide +kernel) (by decide +kernel), xt 945 (by decide +kernel) (by decide +kernel)⟩, (by decide +kernel), (by decide +kernel), (by decide +kernel)⟩
theorem lk_L_22 : ab_LV RL 22 yX10_clearText cX10_clearText 2 (some .int) 0 := ⟨⟨xt 946 (by decide +kernel) (by decide +kernel), xt 947 (by decide +kernel) (by decide +kernel), xt 948 (by decide +kernel) (by decide +kernel), xt 10 (by decide +kernel) (by decide +kernel), xt 949 (by decide +kernel) (by decide +kernel)⟩, (by decide +kernel), (by decide +kernel), (by decide +kernel)⟩
theorem lk_L_26 : ab_LV RL 26 yX10_readParagraph cX10_readParagraph 3 (some .int) 0 := ⟨⟨xt 950 (by decide +kernel) (by decide +kernel), xt 951 (by decide +kernel) (by decide +kernel), xt 952 (by decide +kernel) (by decide +kernel), xt 10 (by decide +kernel) (by decide +kernel), xt 953 (by decide +kernel) (by decide +kernel)⟩, (by decide +kernel), (by decide +kernel), (by decide +kernel)⟩
theorem lk_X10_93 : ab_LS RX10 93 yX10_isAllowed cX10_isAllowed 1 (some .boolean) 1 := ⟨⟨Or.inl (xt 954 (by decide +kernel) (by decide +kernel)), xt 955 (by decide +kernel) (by decide +kernel), xt 10 (by decide +kernel) (by decide +kernel), xt 956 (by decide +kernel) (by decide +kernel)⟩, (by decide +kernel), (by decide +kernel), (by decide +kernel)⟩
theorem lk_X10_80 : ab_LS RX10 80 yX10_isMark cX10_isMark 1 (some .boolean) 1 := ⟨⟨Or.inl (xt 957 (by decide +kernel) (by decide +kernel)), xt 958 (by decide +kernel) (by decide +kernel), xt 10 (by decide +kernel) (by decide +kernel), xt 959 (by decide +kernel) (by decide +kernel)⟩, (by decide +kernel), (by decide +kernel), (by decide +kernel)⟩
theorem lk_X10_73 : ab_LS RX10 73 yX10_isSentence cX10_isSentence 1 (some .boolean) 1 := ⟨⟨Or.inl (xt 960 (by decide +kernel) (by decide +kernel)), xt 961 (by decide +kernel) (by decide +kernel), xt 10 (by decide +kernel) (by decide +kernel), xt 962 (by decide +kernel) (by decide +kernel)⟩, (by decide +kernel), (by decide +kernel), (by decide +kernel)⟩
theorem lk_X10_77 : ab_LS RX10 77 yX10_isClause cX10_isClause 1 (some .boolean) 1 := ⟨⟨Or.inl (xt 963 (by decide +kernel) (by decide +kernel)), xt 964 (by decide +kernel) (by decide +kernel), xt 10 (by decide +kernel) (by decide +kernel), xt 965 (by decide +kernel) (by decide +kernel)⟩, (by decide +kernel), (by decide +kernel), (by decide +kernel)⟩
theorem lk_X10_96 : ab_LV RX10 96 yX10_addWord cX10_addWord 6 none 2 := ⟨⟨xt 966 (by decide +kernel) (by decide +kernel), xt 968 (by decide +kernel) (by decide +kernel), xp 38 (by decide +kernel) (by decide +kernel), xt 10 (by decide +kernel) (by decide +kernel), xt 969 (by decide +kernel) (by decide +kernel)⟩, (by decide +kernel), (by decide +kernel), (by decide +kernel)⟩
theorem lk_X10_86 : ab_LS RX10 86 yX10_widthOf cX10_widthOf 1 (some .int) 1 := ⟨⟨Or.inl (xt 970 (by decide +kernel) (by decide +kernel)), xt 971 (by decide +kernel) (by decide +kernel), xt 10 (by decide +kernel) (by decide +kernel), xt 972 (by decide +kernel) (by decide +kernel)⟩, (by decide +kernel), (by decide +kernel), (by decide +kernel)⟩
theorem lk_L_30 : ab_LV RL 30 yX10_command cX10_command 6 (some .int) 0 := ⟨⟨xt 973 (by decide +kernel) (by decide +kernel), xt 974 (by decide +kernel) (by decide +kernel), xt 975 (by decide +kernel) (by decide +kernel), xt 10 (by decide +kernel) (by decide +kernel), xt 976 (by decide +kernel) (by decide +kernel)⟩, (by decide +kernel), (by decide +kernel), (by decide +kernel)⟩
theorem lk_X10_109 : ab_LV RX10 109 yX10_nextPiece cX10_nextPiece 2 none 1 := ⟨⟨xt 977 (by decide +kernel) (by decide +kernel), xt 979 (by decide +kernel) (by decide +kernel), xp 39 (by decide +kernel) (by decide +kernel), xt 10 (by decide +kernel) (by decide +kernel), xt 980 (by decide +kernel) (by decide +kernel)⟩, (by decide +kernel), (by decide +kernel), (by decide +kernel)⟩
theorem lk_X10_113 : ab_LV RX10 113 yX10_isPiece cX10_isPiece 5 (some .boolean) 4 := ⟨⟨xt 981 (by decide +kernel) (by decide +kernel), xt 983 (by decide +kernel) (by decide +kernel), xp 40 (by decide +kernel) (by decide +kernel), xt 10 (by decide +kernel) (by decide +kernel), xt 984 (by decide +kernel) (by decide +kernel)⟩, (by decide +kernel), (by decide +kernel), (by decide +kernel)⟩
theorem lk_X10_117 : ab_LV RX10 117 yX10_isLong cX10_isLong 2 (some .boolean) 1 := ⟨⟨xt 985 (by decide +kernel) (by decide +kernel), xt 987 (by decide +kernel) (by decide +kernel), xp 41 (by decide +kernel) (by decide +kernel), xt 10 (by decide +kernel) (by decide +kernel), xt 988 (by decide +kernel) (by decide +kernel)⟩, (by decide +kernel), (by decide +kernel), (by decide +kernel)⟩
theorem lk_X10_121 : ab_LV RX10 121 yX10_endsWith cX10_endsWith 4 (some .boolean) 3 := ⟨⟨xt 989 (by decide +kernel) (by decide +kernel), xt 991 (by decide +kernel) (by decide +kernel), xp 42 (by decide +kernel) (by decide +kernel), xt 10 (by decide +kernel) (by decide +kernel), xt 992 (by decide +kernel) (by decide +kernel)⟩, (by decide +kernel), (by decide +kernel), (by decide +kernel)⟩
theorem lk_X10_125 : ab_LV RX10 125 yX10_kind cX10_kind 2 (some .int) 0 := ⟨⟨xt 993 (by decide +kernel) (by decide +kernel), xt 995 (by decide +kernel) (by decide +kernel), xp 43 (by decide +kernel) (by decide +kernel), xt 10 (by decide +kernel) (by decide +kernel), xt 996 (by decide +kernel) (by decide +kernel)⟩, (by decide +kernel), (by decide +kernel), (by decide +kernel)⟩
theorem lk_X10_129 : ab_LV RX10 129 yX10_number cX10_number 5 (some .int) 2 := ⟨⟨xt 997 (by decide +kernel) (by decide +kernel), xt 999 (by decide +kernel) (by decide +kernel), xp 44 (by decide +kernel) (by decide +kernel), xt 10 (by decide +kernel) (by decide +kernel), xt 1000 (by decide +kernel) (by decide +kernel)⟩, (by decide +kernel), (by decide +kernel), (by decide +kernel)⟩
theorem lk_X10_133 : ab_LV RX10 133 yX10_setMeasure cX10_setMeasure 3 (some .int) 1 := ⟨⟨xt 1001 (by decide +kernel) (by decide +kernel), xt 1002 (by decide +kernel) (by decide +kernel), xt 1003 (by decide +kernel) (by decide +kernel), xt 10 (by decide +kernel) (by decide +kernel), xt 1004 (by decide +kernel) (by decide +kernel)⟩, (by decide +kernel), (by decide +kernel), (by decide +kernel)⟩
theorem lk_X10_137 : ab_LV RX10 137 yX10_setHang cX10_setHang 3 (some .int) 1 := ⟨⟨xt 1005 (by decide +kernel) (by decide +kernel), xt 1006 (by decide +kernel) (by decide +kernel), xt 1007 (by decide +kernel) (by decide +kernel), xt 10 (by decide +kernel) (by decide +kernel), xt 1008 (by decide +kernel) (by decide +kernel)⟩, (by decide +kernel), (by decide +kernel), (by decide +kernel)⟩
theorem lk_X10_140 : ab_LV RX10 140 yX10_setTolerance cX10_setTolerance 3 (some .int) 1 := ⟨⟨xt 1009 (by decide +kernel) (by decide +kernel), xt 1010 (by decide +kernel) (by decide +kernel), xt 1011 (by decide +kernel) (by decide +kernel), xt 10 (by decide +kernel) (by decide +kernel), xt 1012 (by decide +kernel) (by decide +kernel)⟩, (by decide +kernel), (by decide +kernel), (by decide +kernel)⟩
theorem lk_X10_143 : ab_LV RX10 143 yX10_setSpace cX10_setSpace 6 (some .int) 4 := ⟨⟨xt 1013 (by decide +kernel) (by decide +kernel), xt 1014 (by decide +kernel) (by decide +kernel), xt 1015 (by decide +kernel) (by decide +kernel), xt 10 (by decide +kernel) (by decide +kernel), xt 1016 (by decide +kernel) (by decide +kernel)⟩, (by decide +kernel), (by decide +kernel), (by decide +kernel)⟩
theorem lk_L_35 : ab_LV RL 35 yX10_setMeasure cX10_setMeasure 3 (some .int) 1 := ⟨⟨xt 1017 (by decide +kernel) (by decide +kernel), xt 1002 (by decide +kernel) (by decide +kernel), xt 1003 (by decide +kernel) (by decide +kernel), xt 10 (by decide +kernel) (by decide +kernel), xt 1004 (by decide +kernel) (by decide +kernel)⟩, (by decide +kernel), (by decide +kernel), (by decide +kernel)⟩
theorem lk_L_39 : ab_LV RL 39 yX10_setHang cX10_setHang 3 (some .int) 1 := ⟨⟨xt 1018 (by decide +kernel) (by decide +kernel), xt 1006 (by decide +kernel) (by decide +kernel), xt 1007 (by decide +kernel) (by decide +kernel), xt 10 (by decide +kernel) (by decide +kernel), xt 1008 (by decide +kernel) (by decide +kernel)⟩, (by decide +kernel), (by decide +kernel), (by decide +kernel)⟩
theorem lk_L_43 : ab_LV RL 43 yX10_setTolerance cX10_setTolerance 3 (some .int) 1 := ⟨⟨xt 1019 (by decide +kernel) (by decide +kernel), xt 1010 (by decide +kernel) (by decide +kernel), xt 1011 (by decide +kernel) (by decide +kernel), xt 10 (by decide +kernel) (by decide +kernel), xt 1012 (by decide +kernel) (by decide +kernel)⟩, (by decide +kernel), (by decide +kernel), (by decide +kernel)⟩
theorem lk_L_48 : ab_LV RL 48 yX10_setSpace cX10_setSpace 6 (some .int) 4 := ⟨⟨xt 1020 (by decide +kernel) (by decide +kernel), xt 1014 (by decide +kernel) (by decide +kernel), xt 1015 (by decide +kernel) (by decide +kernel), xt 10 (by decide +kernel) (by decide +kernel), xt 1016 (by decide +kernel) (by decide +kernel)⟩, (by decide +kernel), (by decide +kernel), (by decide +kernel)⟩
theorem lk_L_52 : ab_LV RL 52 yX10_layBest cX10_layBest 1 (some .int) 0 := ⟨⟨xt 1021 (by decide +kernel) (by decide +kernel), xt 1022 (by decide +kernel) (by decide +kernel), xt 1023 (by decide +kernel) (by decide +kernel), xt 10 (by decide +kernel) (by decide +kernel), xt 1024 (by decide +kernel) (by decide +kernel)⟩, (by decide +kernel), (by decide +kernel), (by decide +kernel)⟩
theorem lk_L_56 : ab_LV RL 56 yX10_takeSecond cX10_takeSecond 2 (some .int) 1 := ⟨⟨xt 1025 (by decide +kernel) (by decide +kernel), xt 1026 (by decide +kernel) (by decide +kernel), xt 1027 (by decide +kernel) (by decide +kernel), xt 10 (by decide +kernel) (by decide +kernel), xt 1028 (by decide +kernel) (by decide +kernel)⟩, (by decide +kernel), (by decide +kernel), (by decide +kernel)⟩
theorem lk_X10_201 : ab_LV RX10 201 yX10_noLine cX10_noLine 2 (some .boolean) 1 := ⟨⟨xt 1029 (by decide +kernel) (by decide +kernel), xt 1031 (by decide +kernel) (by decide +kernel), xp 45 (by decide +kernel) (by decide +kernel), xt 10 (by decide +kernel) (by decide +kernel), xt 1032 (by decide +kernel) (by decide +kernel)⟩, (by decide +kernel), (by decide +kernel), (by decide +kernel)⟩
theorem lk_X10_195 : ab_LV RX10 195 yX10_secondOf cX10_secondOf 7 (some .int) 1 := ⟨⟨xt 1033 (by decide +kernel) (by decide +kernel), xt 1035 (by decide +kernel) (by decide +kernel), xp 46 (by decide +kernel) (by decide +kernel), xt 10 (by decide +kernel) (by decide +kernel), xt 1036 (by decide +kernel) (by decide +kernel)⟩, (by decide +kernel), (by decide +kernel), (by decide +kernel)⟩
theorem lk_X10_204 : ab_LV RX10 204 yX10_takesSecond cX10_takesSecond 2 none 1 := ⟨⟨xt 1037 (by decide +kernel) (by decide +kernel), xt 1039 (by decide +kernel) (by decide +kernel), xp 47 (by decide +kernel) (by decide +kernel), xt 10 (by decide +kernel) (by decide +kernel), xt 1040 (by decide +kernel) (by decide +kernel)⟩, (by decide +kernel), (by decide +kernel), (by decide +kernel)⟩
theorem lk_L_60 : ab_LV RL 60 yX10_breakRivers cX10_breakRivers 3 (some .int) 0 := ⟨⟨xt 1041 (by decide +kernel) (by decide +kernel), xt 1042 (by decide +kernel) (by decide +kernel), xt 1043 (by decide +kernel) (by decide +kernel), xt 10 (by decide +kernel) (by decide +kernel), xt 1044 (by decide +kernel) (by decide +kernel)⟩, (by decide +kernel), (by decide +kernel), (by decide +kernel)⟩
theorem lk_X10_245 : ab_LV RX10 245 yX10_breaker cX10_breaker 6 (some .int) 0 := ⟨⟨xt 1045 (by decide +kernel) (by decide +kernel), xt 1047 (by decide +kernel) (by decide +kernel), xp 48 (by decide +kernel) (by decide +kernel), xt 10 (by decide +kernel) (by decide +kernel), xt 1048 (by decide +kernel) (by decide +kernel)⟩, (by decide +kernel), (by decide +kernel), (by decide +kernel)⟩
theorem lk_X10_239 : ab_LV RX10 239 yX10_strengthWith cX10_strengthWith 5 (some .int) 1 := ⟨⟨xt 1049 (by decide +kernel) (by decide +kernel), xt 1051 (by decide +kernel) (by decide +kernel), xp 49 (by decide +kernel) (by decide +kernel), xt 10 (by decide +kernel) (by decide +kernel), xt 1052 (by decide +kernel) (by decide +kernel)⟩, (by decide +kernel), (by decide +kernel), (by decide +kernel)⟩
theorem lk_X10_236 : ab_LV RX10 236 yX10_strength cX10_strength 3 (some .int) 0 := ⟨⟨xt 1053 (by decide +kernel) (by decide +kernel), xt 1055 (by decide +kernel) (by decide +kernel), xp 50 (by decide +kernel) (by decide +kernel), xt 10 (by decide +kernel) (by decide +kernel), xt 1056 (by decide +kernel) (by decide +kernel)⟩, (by decide +kernel), (by decide +kernel), (by decide +kernel)⟩
theorem lk_X10_233 : ab_LV RX10 233 yX10_ends cX10_ends 2 (some .boolean) 1 := ⟨⟨xt 1057 (by decide +kernel) (by decide +kernel), xt 1059 (by decide +kernel) (by decide +kernel), xp 51 (by decide +kernel) (by decide +kernel), xt 10 (by decide +kernel) (by decide +kernel), xt 1060 (by decide +kernel) (by decide +kernel)⟩, (by decide +kernel), (by decide +kernel), (by decide +kernel)⟩
theorem lk_X10_230 : ab_LV RX10 230 yX10_hasBelow cX10_hasBelow 5 (some .boolean) 1 := ⟨⟨xt 1061 (by decide +kernel) (by decide +kernel), xt 1063 (by decide +kernel) (by decide +kernel), xp 52 (by decide +kernel) (by decide +kernel), xt 10 (by decide +kernel) (by decide +kernel), xt 1064 (by decide +kernel) (by decide +kernel)⟩, (by decide +kernel), (by decide +kernel), (by decide +kernel)⟩
theorem lk_X10_242 : ab_LV RX10 242 yX10_secondDemerits cX10_secondDemerits 3 (some .int) 1 := ⟨⟨xt 1065 (by decide +kernel) (by decide +kernel), xt 1067 (by decide +kernel) (by decide +kernel), xp 53 (by decide +kernel) (by decide +kernel), xt 10 (by decide +kernel) (by decide +kernel), xt 1068 (by decide +kernel) (by decide +kernel)⟩, (by decide +kernel), (by decide +kernel), (by decide +kernel)⟩
theorem lk_X10_198 : ab_LV RX10 198 yX10_demeritsBefore cX10_demeritsBefore 4 (some .int) 1 := ⟨⟨xt 1069 (by decide +kernel) (by decide +kernel), xt 1071 (by decide +kernel) (by decide +kernel), xp 54 (by decide +kernel) (by decide +kernel), xt 10 (by decide +kernel) (by decide +kernel), xt 1072 (by decide +kernel) (by decide +kernel)⟩, (by decide +kernel), (by decide +kernel), (by decide +kernel)⟩
theorem lk_L_64 : ab_LV RL 64 yX10_count cX10_count 4 (some .int) 1 := ⟨⟨xt 1073 (by decide +kernel) (by decide +kernel), xt 1074 (by decide +kernel) (by decide +kernel), xt 1075 (by decide +kernel) (by decide +kernel), xt 10 (by decide +kernel) (by decide +kernel), xt 1076 (by decide +kernel) (by decide +kernel)⟩, (by decide +kernel), (by decide +kernel), (by decide +kernel)⟩
theorem lk_X10_248 : ab_LV RX10 248 yX10_endOf cX10_endOf 4 (some .int) 1 := ⟨⟨xt 1077 (by decide +kernel) (by decide +kernel), xt 1079 (by decide +kernel) (by decide +kernel), xp 55 (by decide +kernel) (by decide +kernel), xt 10 (by decide +kernel) (by decide +kernel), xt 1080 (by decide +kernel) (by decide +kernel)⟩, (by decide +kernel), (by decide +kernel), (by decide +kernel)⟩
theorem lk_L_69 : ab_LV RL 69 yX10_spaceWidth cX10_spaceWidth 3 (some .int) 2 := ⟨⟨xt 1081 (by decide +kernel) (by decide +kernel), xt 1082 (by decide +kernel) (by decide +kernel), xt 1083 (by decide +kernel) (by decide +kernel), xt 10 (by decide +kernel) (by decide +kernel), xt 1084 (by decide +kernel) (by decide +kernel)⟩, (by decide +kernel), (by decide +kernel), (by decide +kernel)⟩
theorem lk_L_73 : ab_LV RL 73 yX10_word cX10_word 3 (some .int) 2 := ⟨⟨xt 1085 (by decide +kernel) (by decide +kernel), xt 1086 (by decide +kernel) (by decide +kernel), xt 1087 (by decide +kernel) (by decide +kernel), xt 10 (by decide +kernel) (by decide +kernel), xt 1088 (by decide +kernel) (by decide +kernel)⟩, (by decide +kernel), (by decide +kernel), (by decide +kernel)⟩
theorem lk_X10_251 : ab_LV RX10 251 yX10_noWord cX10_noWord 2 (some .boolean) 1 := ⟨⟨xt 1089 (by decide +kernel) (by decide +kernel), xt 1091 (by decide +kernel) (by decide +kernel), xp 56 (by decide +kernel) (by decide +kernel), xt 10 (by decide +kernel) (by decide +kernel), xt 1092 (by decide +kernel) (by decide +kernel)⟩, (by decide +kernel), (by decide +kernel), (by decide +kernel)⟩
theorem lk_L_77 : ab_LV RL 77 yX10_line cX10_line 5 (some .int) 2 := ⟨⟨xt 1093 (by decide +kernel) (by decide +kernel), xt 1094 (by decide +kernel) (by decide +kernel), xt 1095 (by decide +kernel) (by decide +kernel), xt 10 (by decide +kernel) (by decide +kernel), xt 1096 (by decide +kernel) (by decide +kernel)⟩, (by decide +kernel), (by decide +kernel), (by decide +kernel)⟩
theorem lk_L_82 : ab_LV RL 82 yX10_space cX10_space 5 (some .int) 3 := ⟨⟨xt 1097 (by decide +kernel) (by decide +kernel), xt 1098 (by decide +kernel) (by decide +kernel), xt 1099 (by decide +kernel) (by decide +kernel), xt 10 (by decide +kernel) (by decide +kernel), xt 1100 (by decide +kernel) (by decide +kernel)⟩, (by decide +kernel), (by decide +kernel), (by decide +kernel)⟩
theorem lk_L_86 : ab_LV RL 86 yX10_begin cX10_begin 2 (some .int) 1 := ⟨⟨xt 1101 (by decide +kernel) (by decide +kernel), xt 1102 (by decide +kernel) (by decide +kernel), xt 1103 (by decide +kernel) (by decide +kernel), xt 10 (by decide +kernel) (by decide +kernel), xt 1104 (by decide +kernel) (by decide +kernel)⟩, (by decide +kernel), (by decide +kernel), (by decide +kernel)⟩
theorem lk_L_90 : ab_LV RL 90 yX10_second cX10_second 4 (some .int) 2 := ⟨⟨xt 1105 (by decide +kernel) (by decide +kernel), xt 1106 (by decide +kernel) (by decide +kernel), xt 1107 (by decide +kernel) (by decide +kernel), xt 10 (by decide +kernel) (by decide +kernel), xt 1108 (by decide +kernel) (by decide +kernel)⟩, (by decide +kernel), (by decide +kernel), (by decide +kernel)⟩
theorem lk_L_94 : ab_LV RL 94 yX10_worst cX10_worst 5 (some .int) 1 := ⟨⟨xt 1109 (by decide +kernel) (by decide +kernel), xt 1110 (by decide +kernel) (by decide +kernel), xt 1111 (by decide +kernel) (by decide +kernel), xt 10 (by decide +kernel) (by decide +kernel), xt 1112 (by decide +kernel) (by decide +kernel)⟩, (by decide +kernel), (by decide +kernel), (by decide +kernel)⟩
theorem lk_X10_254 : ab_LV RX10 254 yX10_badnessOf cX10_badnessOf 2 (some .int) 1 := ⟨⟨xt 1113 (by decide +kernel) (by decide +kernel), xt 1115 (by decide +kernel) (by decide +kernel), xp 57 (by decide +kernel) (by decide +kernel), xt 10 (by decide +kernel) (by decide +kernel), xt 1116 (by decide +kernel) (by decide +kernel)⟩, (by decide +kernel), (by decide +kernel), (by decide +kernel)⟩
theorem lk_L_98 : ab_LV RL 98 yX10_river cX10_river 5 (some .int) 2 := ⟨⟨xt 1117 (by decide +kernel) (by decide +kernel), xt 1118 (by decide +kernel) (by decide +kernel), xt 1119 (by decide +kernel) (by decide +kernel), xt 10 (by decide +kernel) (by decide +kernel), xt 1120 (by decide +kernel) (by decide +kernel)⟩, (by decide +kernel), (by decide +kernel), (by decide +kernel)⟩
theorem ln_L_7 : Cond.classLink RL 7 RX9 ∈ xtb ∧ Cond.instantiable RX9 8 ∈ xtb ∧ Cond.initialized RX9 ∈ xtb := ⟨xt 18 (by decide +kernel) (by decide +kernel), xt 19 (by decide +kernel) (by decide +kernel), xt 1 (by decide +kernel) (by decide +kernel)⟩
theorem ln_X9_7 : Cond.classLink RX9 7 RX6 ∈ xtb ∧ Cond.instantiable RX6 6 ∈ xtb ∧ Cond.initialized RX6 ∈ xtb := ⟨xt 26 (by decide +kernel) (by decide +kernel), xt 27 (by decide +kernel) (by decide +kernel), xt 2 (by decide +kernel) (by decide +kernel)⟩
theorem ln_X9_10 : Cond.classLink RX9 10 RX4 ∈ xtb ∧ Cond.instantiable RX4 6 ∈ xtb ∧ Cond.initialized RX4 ∈ xtb := ⟨xt 71 (by decide +kernel) (by decide +kernel), xt 72 (by decide +kernel) (by decide +kernel), xt 3 (by decide +kernel) (by decide +kernel)⟩
theorem ln_X9_13 : Cond.classLink RX9 13 RX2 ∈ xtb ∧ Cond.instantiable RX2 8 ∈ xtb ∧ Cond.initialized RX2 ∈ xtb := ⟨xt 110 (by decide +kernel) (by decide +kernel), xt 111 (by decide +kernel) (by decide +kernel), xt 4 (by decide +kernel) (by decide +kernel)⟩
theorem ln_X9_18 : Cond.classLink RX9 18 RX0 ∈ xtb ∧ Cond.instantiable RX0 4 ∈ xtb ∧ Cond.initialized RX0 ∈ xtb := ⟨xt 144 (by decide +kernel) (by decide +kernel), xt 145 (by decide +kernel) (by decide +kernel), xt 5 (by decide +kernel) (by decide +kernel)⟩
theorem ln_X9_23 : Cond.classLink RX9 23 RX8 ∈ xtb ∧ Cond.instantiable RX8 2 ∈ xtb ∧ Cond.initialized RX8 ∈ xtb := ⟨xt 165 (by decide +kernel) (by decide +kernel), xt 166 (by decide +kernel) (by decide +kernel), xt 6 (by decide +kernel) (by decide +kernel)⟩
theorem ln_X9_32 : Cond.classLink RX9 32 RX3 ∈ xtb ∧ Cond.instantiable RX3 3 ∈ xtb ∧ Cond.initialized RX3 ∈ xtb := ⟨xt 182 (by decide +kernel) (by decide +kernel), xt 183 (by decide +kernel) (by decide +kernel), xt 7 (by decide +kernel) (by decide +kernel)⟩
theorem ln_X9_55 : Cond.classLink RX9 55 RX1 ∈ xtb ∧ Cond.instantiable RX1 12 ∈ xtb ∧ Cond.initialized RX1 ∈ xtb := ⟨xt 198 (by decide +kernel) (by decide +kernel), xt 199 (by decide +kernel) (by decide +kernel), xt 8 (by decide +kernel) (by decide +kernel)⟩
theorem ln_X1_50 : Cond.classLink RX1 50 RX5 ∈ xtb ∧ Cond.instantiable RX5 8 ∈ xtb ∧ Cond.initialized RX5 ∈ xtb := ⟨xt 204 (by decide +kernel) (by decide +kernel), xt 205 (by decide +kernel) (by decide +kernel), xt 9 (by decide +kernel) (by decide +kernel)⟩
theorem ln_L_10 : Cond.classLink RL 10 RX10 ∈ xtb ∧ Cond.instantiable RX10 24 ∈ xtb ∧ Cond.initialized RX10 ∈ xtb := ⟨xt 772 (by decide +kernel) (by decide +kernel), xt 773 (by decide +kernel) (by decide +kernel), xt 10 (by decide +kernel) (by decide +kernel)⟩
theorem pn_X0_init : plainName yX0_init.cls = true := by decide +kernel
theorem pn_X0_exists : plainName yX0_exists.cls = true := by decide +kernel
theorem pn_X0_find : plainName yX0_find.cls = true := by decide +kernel
theorem pn_X0_sumWith : plainName yX0_sumWith.cls = true := by decide +kernel
theorem pn_X1_init : plainName yX1_init.cls = true := by decide +kernel
theorem pn_X1_hasLine : plainName yX1_hasLine.cls = true := by decide +kernel
theorem pn_X1_firstWord : plainName yX1_firstWord.cls = true := by decide +kernel
theorem pn_X1_lastWord : plainName yX1_lastWord.cls = true := by decide +kernel
theorem pn_X1_endOf : plainName yX1_endOf.cls = true := by decide +kernel
theorem pn_X1_demeritsBefore : plainName yX1_demeritsBefore.cls = true := by decide +kernel
theorem pn_X1_linesWorseThan : plainName yX1_linesWorseThan.cls = true := by decide +kernel
theorem pn_X1_secondLast : plainName yX1_secondLast.cls = true := by decide +kernel
theorem pn_X1_becomeBest : plainName yX1_becomeBest.cls = true := by decide +kernel
theorem pn_X1_copyBreaks : plainName yX1_copyBreaks.cls = true := by decide +kernel
theorem pn_X1_endLineWith : plainName yX1_endLineWith.cls = true := by decide +kernel
theorem pn_X1_goOnFrom : plainName yX1_goOnFrom.cls = true := by decide +kernel
theorem pn_X1_settle : plainName yX1_settle.cls = true := by decide +kernel
theorem pn_X1_shareOut : plainName yX1_shareOut.cls = true := by decide +kernel
theorem pn_X1_changeKind : plainName yX1_changeKind.cls = true := by decide +kernel
theorem pn_X1_placeWords : plainName yX1_placeWords.cls = true := by decide +kernel
theorem pn_X2_init : plainName yX2_init.cls = true := by decide +kernel
theorem pn_X2_prepare : plainName yX2_prepare.cls = true := by decide +kernel
theorem pn_X2_isEnd : plainName yX2_isEnd.cls = true := by decide +kernel
theorem pn_X2_naturalWidth : plainName yX2_naturalWidth.cls = true := by decide +kernel
theorem pn_X2_badness : plainName yX2_badness.cls = true := by decide +kernel
theorem pn_X2_demerits : plainName yX2_demerits.cls = true := by decide +kernel
theorem pn_X3_init : plainName yX3_init.cls = true := by decide +kernel
theorem pn_X3_parse : plainName yX3_parse.cls = true := by decide +kernel
theorem pn_X3_applyTo : plainName yX3_applyTo.cls = true := by decide +kernel
theorem pn_X3_wantedPieces : plainName yX3_wantedPieces.cls = true := by decide +kernel
theorem pn_X3_takePiece : plainName yX3_takePiece.cls = true := by decide +kernel
theorem pn_X3_takeNumber : plainName yX3_takeNumber.cls = true := by decide +kernel
theorem pn_X3_leastNumber : plainName yX3_leastNumber.cls = true := by decide +kernel
theorem pn_X3_greatestNumber : plainName yX3_greatestNumber.cls = true := by decide +kernel
theorem pn_X3_subjectAt : plainName yX3_subjectAt.cls = true := by decide +kernel
theorem pn_X3_kindAt : plainName yX3_kindAt.cls = true := by decide +kernel
theorem pn_X4_init : plainName yX4_init.cls = true := by decide +kernel
theorem pn_X4_hasWord : plainName yX4_hasWord.cls = true := by decide +kernel
theorem pn_X4_take : plainName yX4_take.cls = true := by decide +kernel
theorem pn_X4_openWord : plainName yX4_openWord.cls = true := by decide +kernel
theorem pn_X4_lengthenWord : plainName yX4_lengthenWord.cls = true := by decide +kernel
theorem pn_X5_init : plainName yX5_init.cls = true := by decide +kernel
theorem pn_X5_spaceOf : plainName yX5_spaceOf.cls = true := by decide +kernel
theorem pn_X5_find : plainName yX5_find.cls = true := by decide +kernel
theorem pn_X5_spaceAbove : plainName yX5_spaceAbove.cls = true := by decide +kernel
theorem pn_X5_collectEnds : plainName yX5_collectEnds.cls = true := by decide +kernel
theorem pn_X6_init : plainName yX6_init.cls = true := by decide +kernel
theorem pn_X6_putWidths : plainName yX6_putWidths.cls = true := by decide +kernel
theorem pn_X7_widthOf : plainName yX7_widthOf.cls = true := by decide +kernel
theorem pn_X7_smallLetterWidth : plainName yX7_smallLetterWidth.cls = true := by decide +kernel
theorem pn_X7_capitalWidth : plainName yX7_capitalWidth.cls = true := by decide +kernel
theorem pn_X7_kindBehind : plainName yX7_kindBehind.cls = true := by decide +kernel
theorem pn_X7_hangsLeft : plainName yX7_hangsLeft.cls = true := by decide +kernel
theorem pn_X7_hangsRight : plainName yX7_hangsRight.cls = true := by decide +kernel
theorem pn_X7_isDigit : plainName yX7_isDigit.cls = true := by decide +kernel
theorem pn_X7_isOneOf : plainName yX7_isOneOf.cls = true := by decide +kernel
theorem pn_X8_init : plainName yX8_init.cls = true := by decide +kernel
theorem pn_X8_append : plainName yX8_append.cls = true := by decide +kernel
theorem pn_X8_empty : plainName yX8_empty.cls = true := by decide +kernel
theorem pn_X8_paragraphFault : plainName yX8_paragraphFault.cls = true := by decide +kernel
theorem pn_X8_endOfPiece : plainName yX8_endOfPiece.cls = true := by decide +kernel
theorem pn_X8_isName : plainName yX8_isName.cls = true := by decide +kernel
theorem pn_X8_numberAt : plainName yX8_numberAt.cls = true := by decide +kernel
theorem pn_X9_init : plainName yX9_init.cls = true := by decide +kernel
theorem pn_X9_type : plainName yX9_type.cls = true := by decide +kernel
theorem pn_X9_clearText : plainName yX9_clearText.cls = true := by decide +kernel
theorem pn_X9_readParagraph : plainName yX9_readParagraph.cls = true := by decide +kernel
theorem pn_X9_command : plainName yX9_command.cls = true := by decide +kernel
theorem pn_X9_setMeasure : plainName yX9_setMeasure.cls = true := by decide +kernel
theorem pn_X9_setHang : plainName yX9_setHang.cls = true := by decide +kernel
theorem pn_X9_setTolerance : plainName yX9_setTolerance.cls = true := by decide +kernel
theorem pn_X9_setSpace : plainName yX9_setSpace.cls = true := by decide +kernel
theorem pn_X9_layBest : plainName yX9_layBest.cls = true := by decide +kernel
theorem pn_X9_takeSecond : plainName yX9_takeSecond.cls = true := by decide +kernel
theorem pn_X9_breakRivers : plainName yX9_breakRivers.cls = true := by decide +kernel
theorem pn_X9_count : plainName yX9_count.cls = true := by decide +kernel
theorem pn_X9_spaceWidth : plainName yX9_spaceWidth.cls = true := by decide +kernel
theorem pn_X9_word : plainName yX9_word.cls = true := by decide +kernel
theorem pn_X9_line : plainName yX9_line.cls = true := by decide +kernel
theorem pn_X9_space : plainName yX9_space.cls = true := by decide +kernel
theorem pn_X9_begin : plainName yX9_begin.cls = true := by decide +kernel
theorem pn_X9_second : plainName yX9_second.cls = true := by decide +kernel
theorem pn_X9_worst : plainName yX9_worst.cls = true := by decide +kernel
theorem pn_X9_river : plainName yX9_river.cls = true := by decide +kernel
theorem pn_X9_at : plainName yX9_at.cls = true := by decide +kernel
theorem pn_X9_isKind : plainName yX9_isKind.cls = true := by decide +kernel
theorem pn_X9_restoreBest : plainName yX9_restoreBest.cls = true := by decide +kernel
theorem pn_X9_calmingLine : plainName yX9_calmingLine.cls = true := by decide +kernel
theorem pn_X10_init : plainName yX10_init.cls = true := by decide +kernel
theorem pn_X10_in : plainName yX10_in.cls = true := by decide +kernel
theorem pn_X10_widthOf : plainName yX10_widthOf.cls = true := by decide +kernel
theorem pn_X10_isSentence : plainName yX10_isSentence.cls = true := by decide +kernel
theorem pn_X10_isClause : plainName yX10_isClause.cls = true := by decide +kernel
theorem pn_X10_isMark : plainName yX10_isMark.cls = true := by decide +kernel
theorem pn_X10_isAllowed : plainName yX10_isAllowed.cls = true := by decide +kernel
theorem pn_X10_type : plainName yX10_type.cls = true := by decide +kernel
theorem pn_X10_clearText : plainName yX10_clearText.cls = true := by decide +kernel
theorem pn_X10_addWord : plainName yX10_addWord.cls = true := by decide +kernel
theorem pn_X10_readParagraph : plainName yX10_readParagraph.cls = true := by decide +kernel
theorem pn_X10_nextPiece : plainName yX10_nextPiece.cls = true := by decide +kernel
theorem pn_X10_isPiece : plainName yX10_isPiece.cls = true := by decide +kernel
theorem pn_X10_endsWith : plainName yX10_endsWith.cls = true := by decide +kernel
theorem pn_X10_isLong : plainName yX10_isLong.cls = true := by decide +kernel
theorem pn_X10_number : plainName yX10_number.cls = true := by decide +kernel
theorem pn_X10_kind : plainName yX10_kind.cls = true := by decide +kernel
theorem pn_X10_command : plainName yX10_command.cls = true := by decide +kernel
theorem pn_X10_setMeasure : plainName yX10_setMeasure.cls = true := by decide +kernel
theorem pn_X10_setHang : plainName yX10_setHang.cls = true := by decide +kernel
theorem pn_X10_setTolerance : plainName yX10_setTolerance.cls = true := by decide +kernel
theorem pn_X10_setSpace : plainName yX10_setSpace.cls = true := by decide +kernel
theorem pn_X10_hangLeft : plainName yX10_hangLeft.cls = true := by decide +kernel
theorem pn_X10_hangRight : plainName yX10_hangRight.cls = true := by decide +kernel
theorem pn_X10_spaces : plainName yX10_spaces.cls = true := by decide +kernel
theorem pn_X10_natural : plainName yX10_natural.cls = true := by decide +kernel
theorem pn_X10_difference : plainName yX10_difference.cls = true := by decide +kernel
theorem pn_X10_isLast : plainName yX10_isLast.cls = true := by decide +kernel
theorem pn_X10_isPossible : plainName yX10_isPossible.cls = true := by decide +kernel
theorem pn_X10_badness : plainName yX10_badness.cls = true := by decide +kernel
theorem pn_X10_demerits : plainName yX10_demerits.cls = true := by decide +kernel
theorem pn_X10_findWays : plainName yX10_findWays.cls = true := by decide +kernel
theorem pn_X10_goOn : plainName yX10_goOn.cls = true := by decide +kernel
theorem pn_X10_hasWay : plainName yX10_hasWay.cls = true := by decide +kernel
theorem pn_X10_layAnew : plainName yX10_layAnew.cls = true := by decide +kernel
theorem pn_X10_layBest : plainName yX10_layBest.cls = true := by decide +kernel
theorem pn_X10_lastOf : plainName yX10_lastOf.cls = true := by decide +kernel
theorem pn_X10_demeritsBefore : plainName yX10_demeritsBefore.cls = true := by decide +kernel
theorem pn_X10_secondOf : plainName yX10_secondOf.cls = true := by decide +kernel
theorem pn_X10_secondDemerits : plainName yX10_secondDemerits.cls = true := by decide +kernel
theorem pn_X10_noLine : plainName yX10_noLine.cls = true := by decide +kernel
theorem pn_X10_takesSecond : plainName yX10_takesSecond.cls = true := by decide +kernel
theorem pn_X10_takeSecond : plainName yX10_takeSecond.cls = true := by decide +kernel
theorem pn_X10_share : plainName yX10_share.cls = true := by decide +kernel
theorem pn_X10_layLine : plainName yX10_layLine.cls = true := by decide +kernel
theorem pn_X10_spaceBegin : plainName yX10_spaceBegin.cls = true := by decide +kernel
theorem pn_X10_middle : plainName yX10_middle.cls = true := by decide +kernel
theorem pn_X10_hasSpace : plainName yX10_hasSpace.cls = true := by decide +kernel
theorem pn_X10_areNear : plainName yX10_areNear.cls = true := by decide +kernel
theorem pn_X10_above : plainName yX10_above.cls = true := by decide +kernel
theorem pn_X10_hasBelow : plainName yX10_hasBelow.cls = true := by decide +kernel
theorem pn_X10_layOut : plainName yX10_layOut.cls = true := by decide +kernel
theorem pn_X10_ends : plainName yX10_ends.cls = true := by decide +kernel
theorem pn_X10_endOf : plainName yX10_endOf.cls = true := by decide +kernel
theorem pn_X10_strength : plainName yX10_strength.cls = true := by decide +kernel
theorem pn_X10_strengthWith : plainName yX10_strengthWith.cls = true := by decide +kernel
theorem pn_X10_breaker : plainName yX10_breaker.cls = true := by decide +kernel
theorem pn_X10_breakRivers : plainName yX10_breakRivers.cls = true := by decide +kernel
theorem pn_X10_count : plainName yX10_count.cls = true := by decide +kernel
theorem pn_X10_spaceWidth : plainName yX10_spaceWidth.cls = true := by decide +kernel
theorem pn_X10_noWord : plainName yX10_noWord.cls = true := by decide +kernel
theorem pn_X10_word : plainName yX10_word.cls = true := by decide +kernel
theorem pn_X10_line : plainName yX10_line.cls = true := by decide +kernel
theorem pn_X10_space : plainName yX10_space.cls = true := by decide +kernel
theorem pn_X10_begin : plainName yX10_begin.cls = true := by decide +kernel
theorem pn_X10_second : plainName yX10_second.cls = true := by decide +kernel
theorem pn_X10_badnessOf : plainName yX10_badnessOf.cls = true := by decide +kernel
theorem pn_X10_worst : plainName yX10_worst.cls = true := by decide +kernel
theorem pn_X10_river : plainName yX10_river.cls = true := by decide +kernel
theorem pn_J0_length_8abf5 : plainName yJ0_length_8abf5.cls = true := by decide +kernel
theorem pn_J0_charAt_5068e : plainName yJ0_charAt_5068e.cls = true := by decide +kernel
theorem pn_J0_indexOf_0f7a4 : plainName yJ0_indexOf_0f7a4.cls = true := by decide +kernel
theorem pn_J0_indexOf_7cf53 : plainName yJ0_indexOf_7cf53.cls = true := by decide +kernel
theorem pn_J0_coder_7d493 : plainName yJ0_coder_7d493.cls = true := by decide +kernel
theorem pn_J0_isLatin1_aae02 : plainName yJ0_isLatin1_aae02.cls = true := by decide +kernel
theorem pn_J0_checkIndex_df160 : plainName yJ0_checkIndex_df160.cls = true := by decide +kernel
theorem pn_J0_checkBoundsBeginEnd_23922 : plainName yJ0_checkBoundsBeginEnd_23922.cls = true := by decide +kernel
theorem pn_J1_charAt_3b067 : plainName yJ1_charAt_3b067.cls = true := by decide +kernel
theorem pn_J1_canEncode_9a6ad : plainName yJ1_canEncode_9a6ad.cls = true := by decide +kernel
theorem pn_J1_indexOf_4cfef : plainName yJ1_indexOf_4cfef.cls = true := by decide +kernel
theorem pn_J1_indexOfChar_4cfef : plainName yJ1_indexOfChar_4cfef.cls = true := by decide +kernel
theorem pn_J3_checkIndex_8e157 : plainName yJ3_checkIndex_8e157.cls = true := by decide +kernel
theorem pn_J3_checkFromToIndex_8c36e : plainName yJ3_checkFromToIndex_8c36e.cls = true := by decide +kernel
end
section
/-! MATHEMATICS 1: sums, the paragraph's view, lines -/
def sm (f : Int → Int) (a : Int) : Nat → Int
  | 0 => 0
  | k + 1 => sm f a k + f (a + (k : Int))
def Sm (f : Int → Int) (a b : Int) : Int := sm f a (b - a).toNat
theorem Sm_self (f : Int → Int) (a : Int) : Sm f a a = 0 := by
  unfold Sm
  rw [show (a - a).toNat = 0 by omega]
  rfl
theorem Sm_succ (f : Int → Int) {a b : Int} (h : a ≤ b) : Sm f a (b + 1) = Sm f a b + f b := by
  unfold Sm
  rw [show (b + 1 - a).toNat = (b - a).toNat + 1 by omega, sm, show a + ((b - a).toNat : Int) = b by omega]
theorem Sm_add (f : Int → Int) {a b : Int} (hab : a ≤ b) : ∀ (k : Nat), Sm f a (b + k) = Sm f a b + Sm f b (b + k)
  | 0 => by
    rw [show b + ((0 : Nat) : Int) = b by omega, Sm_self]
    omega
  | k + 1 => by
    rw [show b + ((k + 1 : Nat) : Int) = b + k + 1 by omega, Sm_succ f (by omega), Sm_succ f (by omega), Sm_add f hab k]
    omega
theorem Sm_split (f : Int → Int) {a b c : Int} (hab : a ≤ b) (hbc : b ≤ c) : Sm f a c = Sm f a b + Sm f b c := by
  have := Sm_add f hab (c - b).toNat
  rwa [show b + ((c - b).toNat : Int) = c by omega] at this
theorem sm_congr {f g : Int → Int} {a : Int} : ∀ (k : Nat), (∀ j : Int, a ≤ j → j < a + k → f j = g j) → sm f a k = sm g a k
  | 0, _ => rfl
  | k + 1, h => by
    rw [sm, sm, sm_congr k (fun j h1 h2 => h j h1 (by omega)), h (a + k) (by omega) (by omega)]
theorem Sm_congr {f g : Int → Int} {a b : Int} (h : ∀ j, a ≤ j → j < b → f j = g j) : Sm f a b = Sm g a b :=
  sm_congr _ (fun j h1 h2 => h j h1 (by omega))
theorem sm_sub (f g : Int → Int) (a : Int) : ∀ k, sm (fun w => f w - g w) a k = sm f a k - sm g a k
  | 0 => rfl
  | k + 1 => by
    rw [sm, sm, sm, sm_sub f g a k]
    omega
theorem Sm_sub (f g : Int → Int) (a b : Int) : Sm (fun w => f w - g w) a b = Sm f a b - Sm g a b := sm_sub f g a _
theorem sm_add2 (f g : Int → Int) (a : Int) : ∀ k, sm (fun w => f w + g w) a k = sm f a k + sm g a k
  | 0 => rfl
  | k + 1 => by
    rw [sm, sm, sm, sm_add2 f g a k]
    omega
theorem Sm_add2 (f g : Int → Int) (a b : Int) : Sm (fun w => f w + g w) a b = Sm f a b + Sm g a b := sm_add2 f g a _
theorem sm_le {f g : Int → Int} {a : Int} : ∀ (k : Nat), (∀ j : Int, a ≤ j → j < a + k → f j ≤ g j) → sm f a k ≤ sm g a k
  | 0, _ => Int.le_refl _
  | k + 1, h => by
    have h1 := sm_le k (fun j h1 h2 => h j h1 (by omega))
    have h2 := h (a + k) (by omega) (by omega)
    rw [sm, sm]
    omega
theorem Sm_le {f g : Int → Int} {a b : Int} (h : ∀ j, a ≤ j → j < b → f j ≤ g j) : Sm f a b ≤ Sm g a b :=
  sm_le _ (fun j h1 h2 => h j h1 (by omega))
theorem sm_const (c a : Int) : ∀ k : Nat, sm (fun _ => c) a k = c * k
  | 0 => by simp [sm]
  | k + 1 => by
    rw [sm, sm_const c a k, Int.natCast_succ, Int.mul_add, Int.mul_one]
theorem Sm_const (c : Int) {a b : Int} (h : a ≤ b) : Sm (fun _ => c) a b = c * (b - a) := by
  unfold Sm
  rw [sm_const, show ((b - a).toNat : Int) = b - a by omega]
theorem Sm_bound {f : Int → Int} {a b lo hi : Int} (hab : a ≤ b) (h : ∀ j, a ≤ j → j < b → lo ≤ f j ∧ f j ≤ hi) : lo * (b - a) ≤ Sm f a b ∧ Sm f a b ≤ hi * (b - a) := by
  rw [← Sm_const lo hab, ← Sm_const hi hab]
  exact ⟨Sm_le fun j h1 h2 => (h j h1 h2).1, Sm_le fun j h1 h2 => (h j h1 h2).2⟩
theorem Sm_b60 {f : Int → Int} {a b hi : Int} (ha : 0 ≤ a) (hab : a ≤ b) (hb : b ≤ 60) (hh : 0 ≤ hi) (h : ∀ j, a ≤ j → j < b → 0 ≤ f j ∧ f j ≤ hi) : 0 ≤ Sm f a b ∧ Sm f a b ≤ hi * 60 := by
  obtain ⟨h1, h2⟩ := Sm_bound hab h
  have h3 : hi * (b - a) ≤ hi * 60 := Int.mul_le_mul_of_nonneg_left (by omega) hh
  exact ⟨by omega, by omega⟩
/-- what is sound of a view d: 0 number of words, 1 widths, 2 sizes, 3 kinds, 4, 5 marks, 6 measure, 7 hang, 8 tolerance, 9, 10, 11 least, natural, greatest -/
def PI (d : Nat → Int → Int) : Prop := (0 ≤ d 0 0 ∧ d 0 0 ≤ 60) ∧ (∀ w, 0 ≤ w → w < d 0 0 → (0 ≤ d 1 w ∧ d 1 w ≤ 600) ∧ (1 ≤ d 2 w ∧ d 2 w ≤ 120) ∧ (0 ≤ d 3 w ∧ d 3 w ≤ 2) ∧ (0 ≤ d 4 w ∧ d 4 w ≤ 5) ∧ (0 ≤ d 5 w ∧ d 5 w ≤ 5)) ∧
  (10 ≤ d 6 0 ∧ d 6 0 ≤ 200) ∧ (0 ≤ d 7 0 ∧ d 7 0 ≤ 100) ∧ (0 ≤ d 8 0 ∧ d 8 0 ≤ 20) ∧ ∀ k, 0 ≤ k → k ≤ 2 → 1 ≤ d 9 k ∧ d 9 k ≤ d 10 k ∧ d 10 k ≤ d 11 k ∧ d 11 k ≤ 40
def hL (d : Nat → Int → Int) (a : Int) : Int := (d 4 a * d 7 0).tdiv 100
def hR (d : Nat → Int → Int) (b : Int) : Int := (d 5 b * d 7 0).tdiv 100
def nt (d : Nat → Int → Int) (a b : Int) : Int := Sm (d 1) a (b + 1) + Sm (fun w => d 10 (d 3 w)) a b - hL d a - hR d b
def df (d : Nat → Int → Int) (a b : Int) : Int := d 6 0 - nt d a b
def st (d : Nat → Int → Int) (a b : Int) : Int := Sm (fun w => d 11 (d 3 w) - d 10 (d 3 w)) a b
def sh (d : Nat → Int → Int) (a b : Int) : Int := Sm (fun w => d 10 (d 3 w) - d 9 (d 3 w)) a b
def ps (d : Nat → Int → Int) (a b : Int) : Bool := decide (- sh d a b ≤ df d a b ∧ (b = d 0 0 - 1 ∨ df d a b ≤ st d a b))
def rmm (d : Nat → Int → Int) (a b : Int) : Int := if 0 < df d a b then st d a b else sh d a b
def bd (d : Nat → Int → Int) (a b : Int) : Int := if df d a b = 0 ∨ (0 < df d a b ∧ b = d 0 0 - 1) then 0 else (100 * df d a b * df d a b).tdiv (rmm d a b * rmm d a b)
def dm (d : Nat → Int → Int) (a b : Int) : Int := (10 + bd d a b) * (10 + bd d a b) + (if ¬ b = d 0 0 - 1 ∧ d 2 b ≤ 2 then 100 else 0)
theorem tdiv100 {x : Int} (h : 0 ≤ x) (h2 : x ≤ 500) : 0 ≤ x.tdiv 100 ∧ x.tdiv 100 ≤ 5 := by
  rw [Int.tdiv_eq_ediv_of_nonneg h]
  omega
theorem mk5 {x y : Int} (hx : 0 ≤ x ∧ x ≤ 5) (hy : 0 ≤ y ∧ y ≤ 100) : 0 ≤ x * y ∧ x * y ≤ 500 := by
  have h1 := Int.mul_nonneg hx.1 hy.1
  have h2 : x * y ≤ 5 * 100 := Int.mul_le_mul hx.2 hy.2 hy.1 (by omega)
  omega
theorem hL_b {d : Nat → Int → Int} (hp : PI d) {a : Int} (h0 : 0 ≤ a) (h1 : a < d 0 0) : 0 ≤ hL d a ∧ hL d a ≤ 5 := by
  have h := mk5 (hp.2.1 a h0 h1).2.2.2.1 hp.2.2.2.1
  exact tdiv100 h.1 h.2
theorem hR_b {d : Nat → Int → Int} (hp : PI d) {a : Int} (h0 : 0 ≤ a) (h1 : a < d 0 0) : 0 ≤ hR d a ∧ hR d a ≤ 5 := by
  have h := mk5 (hp.2.1 a h0 h1).2.2.2.2 hp.2.2.2.1
  exact tdiv100 h.1 h.2
theorem wd_b {d : Nat → Int → Int} (hp : PI d) {a b : Int} (h0 : 0 ≤ a) (h1 : a ≤ b) (h2 : b ≤ d 0 0) : 0 ≤ Sm (d 1) a b ∧ Sm (d 1) a b ≤ 36000 := by
  have := Sm_b60 (f := d 1) (hi := 600) h0 h1 (by have := hp.1; omega) (by omega) (fun j q1 q2 => (hp.2.1 j (by omega) (by omega)).1)
  omega
theorem kd_b {d : Nat → Int → Int} (hp : PI d) {w : Int} (h0 : 0 ≤ w) (h1 : w < d 0 0) : 1 ≤ d 9 (d 3 w) ∧ d 9 (d 3 w) ≤ d 10 (d 3 w) ∧ d 10 (d 3 w) ≤ d 11 (d 3 w) ∧ d 11 (d 3 w) ≤ 40 := by
  have h := (hp.2.1 w h0 h1).2.2.1
  exact hp.2.2.2.2.2 (d 3 w) h.1 h.2
theorem na_b {d : Nat → Int → Int} (hp : PI d) {a b : Int} (h0 : 0 ≤ a) (h1 : a ≤ b) (h2 : b ≤ d 0 0) : 0 ≤ Sm (fun w => d 10 (d 3 w)) a b ∧ Sm (fun w => d 10 (d 3 w)) a b ≤ 2400 := by
  have := Sm_b60 (f := fun w => d 10 (d 3 w)) (hi := 40) h0 h1 (by have := hp.1; omega) (by omega) (fun j q1 q2 => by have := kd_b hp (w := j) (by omega) (by omega); omega)
  omega
theorem st_b {d : Nat → Int → Int} (hp : PI d) {a b : Int} (h0 : 0 ≤ a) (h1 : a ≤ b) (h2 : b ≤ d 0 0) : 0 ≤ st d a b ∧ st d a b ≤ 2340 := by
  have := Sm_b60 (f := fun w => d 11 (d 3 w) - d 10 (d 3 w)) (hi := 39) h0 h1 (by have := hp.1; omega) (by omega) (fun j q1 q2 => by have := kd_b hp (w := j) (by omega) (by omega); omega)
  unfold st
  omega
theorem sh_b {d : Nat → Int → Int} (hp : PI d) {a b : Int} (h0 : 0 ≤ a) (h1 : a ≤ b) (h2 : b ≤ d 0 0) : 0 ≤ sh d a b ∧ sh d a b ≤ 2340 := by
  have := Sm_b60 (f := fun w => d 10 (d 3 w) - d 9 (d 3 w)) (hi := 39) h0 h1 (by have := hp.1; omega) (by omega) (fun j q1 q2 => by have := kd_b hp (w := j) (by omega) (by omega); omega)
  unfold sh
  omega
theorem nt_b {d : Nat → Int → Int} (hp : PI d) {a b : Int} (h0 : 0 ≤ a) (h1 : a ≤ b) (h2 : b < d 0 0) : -10 ≤ nt d a b ∧ nt d a b ≤ 40000 := by
  have e1 := wd_b hp (a := a) (b := b + 1) h0 (by omega) (by omega)
  have e2 := na_b hp (a := a) (b := b) h0 h1 (by omega)
  have e3 := hL_b hp (a := a) h0 (by omega)
  have e4 := hR_b hp (a := b) (by omega) h2
  unfold nt
  omega
theorem df_b {d : Nat → Int → Int} (hp : PI d) {a b : Int} (h0 : 0 ≤ a) (h1 : a ≤ b) (h2 : b < d 0 0) : -40000 ≤ df d a b ∧ df d a b ≤ 300 := by
  have e1 := nt_b hp h0 h1 h2
  have e2 := hp.2.2.1
  unfold df
  omega
theorem sq_le {x r : Int} (h1 : -r ≤ x) (h2 : x ≤ r) : x * x ≤ r * r := by
  by_cases hx : 0 ≤ x
  · exact Int.mul_le_mul h2 h2 hx (by omega)
  · have : (-x) * (-x) ≤ r * r := Int.mul_le_mul (by omega) (by omega) (by omega) (by omega)
    rwa [Int.neg_mul_neg] at this
theorem sq_nn (x : Int) : 0 ≤ x * x := by
  by_cases hx : 0 ≤ x
  · exact Int.mul_nonneg hx hx
  · have : 0 ≤ (-x) * (-x) := Int.mul_nonneg (by omega) (by omega)
    rwa [Int.neg_mul_neg] at this
theorem ps_iff {d : Nat → Int → Int} {a b : Int} : ps d a b = true ↔ (- sh d a b ≤ df d a b ∧ (b = d 0 0 - 1 ∨ df d a b ≤ st d a b)) := by
  unfold ps
  exact decide_eq_true_iff
/-- in a possible line that isn't at rest, D lies within a room that isn't 0 -/
theorem rmm_b {d : Nat → Int → Int} (hp : PI d) {a b : Int} (h0 : 0 ≤ a) (h1 : a ≤ b) (h2 : b < d 0 0) (h : ps d a b = true) (hn : ¬ (df d a b = 0 ∨ (0 < df d a b ∧ b = d 0 0 - 1))) : 1 ≤ rmm d a b ∧ rmm d a b ≤ 2340 ∧ - rmm d a b ≤ df d a b ∧ df d a b ≤ rmm d a b := by
  have e1 := st_b hp (a := a) (b := b) h0 h1 (by omega)
  have e2 := sh_b hp (a := a) (b := b) h0 h1 (by omega)
  have e3 := ps_iff.mp h
  unfold rmm
  split <;> omega
theorem bd_b {d : Nat → Int → Int} (hp : PI d) {a b : Int} (h0 : 0 ≤ a) (h1 : a ≤ b) (h2 : b < d 0 0) (h : ps d a b = true) : 0 ≤ bd d a b ∧ bd d a b ≤ 100 := by
  unfold bd
  split
  · omega
  · rename_i hn
    obtain ⟨r1, r2, r3, r4⟩ := rmm_b hp h0 h1 h2 h hn
    have q1 := sq_le r3 r4
    have q2 := sq_nn (df d a b)
    have q3 : 1 * 1 ≤ rmm d a b * rmm d a b := Int.mul_le_mul r1 r1 (by omega) (by omega)
    have e : 100 * df d a b * df d a b = 100 * (df d a b * df d a b) := Int.mul_assoc _ _ _
    rw [e, Int.tdiv_eq_ediv_of_nonneg (by omega)]
    refine ⟨Int.ediv_nonneg (by omega) (by omega), ?_⟩
    exact Int.ediv_le_of_le_mul (by omega) (by omega)
theorem dm_b {d : Nat → Int → Int} (hp : PI d) {a b : Int} (h0 : 0 ≤ a) (h1 : a ≤ b) (h2 : b < d 0 0) (h : ps d a b = true) : 100 ≤ dm d a b ∧ dm d a b ≤ 12200 := by
  obtain ⟨q1, q2⟩ := bd_b hp h0 h1 h2 h
  have q3 : (10 + bd d a b) * (10 + bd d a b) ≤ 110 * 110 := Int.mul_le_mul (by omega) (by omega) (by omega) (by omega)
  have q4 : 10 * 10 ≤ (10 + bd d a b) * (10 + bd d a b) := Int.mul_le_mul (by omega) (by omega) (by omega) (by omega)
  unfold dm
  split <;> omega
/-- the product of a possible line's D stays an int -/
theorem sq_r {x r : Int} (h1 : -r ≤ x) (h2 : x ≤ r) (h3 : 0 ≤ r) (h4 : r ≤ 2340) : 0 ≤ 100 * x * x ∧ 100 * x * x ≤ 547560000 ∧ 0 ≤ r * r ∧ r * r ≤ 5475600 := by
  have q1 := sq_le h1 h2
  have q2 := sq_nn x
  have q3 : r * r ≤ 2340 * 2340 := Int.mul_le_mul h4 h4 h3 (by omega)
  have e : 100 * x * x = 100 * (x * x) := Int.mul_assoc _ _ _
  have q4 := sq_nn r
  rw [e]
  omega
/-- the last of the least: over the candidates c (below 0: none) at lo, lo + 1, .. -/
def am (c : Int → Int) (lo : Int) : Nat → Int × Int
  | 0 => (-1, -1)
  | k + 1 => if 0 ≤ c (lo + k) ∧ ((am c lo k).1 < 0 ∨ c (lo + k) ≤ (am c lo k).1) then (c (lo + k), lo + k) else am c lo k
theorem am_congr {c c2 : Int → Int} {lo : Int} : ∀ k : Nat, (∀ j, lo ≤ j → j < lo + k → c j = c2 j) → am c lo k = am c2 lo k
  | 0, _ => rfl
  | k + 1, h => by
    rw [am, am, am_congr k (fun j h1 h2 => h j h1 (by omega)), h (lo + k) (by omega) (by omega)]
theorem am_in {c : Int → Int} {lo : Int} : ∀ k : Nat, ((am c lo k).1 = -1 ∧ (am c lo k).2 = -1 ∧ ∀ j, lo ≤ j → j < lo + k → c j < 0) ∨ (0 ≤ (am c lo k).1 ∧ lo ≤ (am c lo k).2 ∧ (am c lo k).2 < lo + k ∧ c (am c lo k).2 = (am c lo k).1)
  | 0 => Or.inl ⟨rfl, rfl, fun j h1 h2 => by omega⟩
  | k + 1 => by
    have ih := am_in (c := c) (lo := lo) k
    rw [am]
    split
    · rename_i h
      exact Or.inr ⟨h.1, by dsimp only; omega, by dsimp only; omega, rfl⟩
    · rename_i h
      rcases ih with ⟨i1, i2, i3⟩ | ⟨i1, i2, i3, i4⟩
      · refine Or.inl ⟨i1, i2, fun j h1 h2 => ?_⟩
        by_cases hj : j = lo + k
        · subst hj
          rcases Int.lt_or_le (c (lo + k)) 0 with q | q
          · exact q
          · exact absurd ⟨q, Or.inl (by omega)⟩ h
        · exact i3 j h1 (by omega)
      · exact Or.inr ⟨i1, i2, by omega, i4⟩
def cd (d : Nat → Int → Int) (bs : Int → Int) (a b : Int) : Int := if 0 ≤ bs (b + 1) ∧ ps d a b = true then dm d a b + bs (b + 1) else -1
/-- the least demerits from a word on, and where its first line ends -/
def BW (d : Nat → Int → Int) (bs be : Int → Int) : Prop := bs (d 0 0) = 0 ∧ ∀ a, 0 ≤ a → a < d 0 0 → bs a = (am (cd d bs a) a (d 0 0 - a).toNat).1 ∧ (0 ≤ bs a → be a = (am (cd d bs a) a (d 0 0 - a).toNat).2)
end
section
/-! the paragraph and the settings, as the class and as the reference hold them -/
def vX (s : Nat → Int → Int) : Nat → Int → Int := fun k => match k with
  | 0 => fun _ => s 103 0
  | 1 => s 6
  | 2 => s 7
  | 3 => s 8
  | 4 => s 9
  | 5 => s 10
  | 6 => fun _ => s 100 0
  | 7 => fun _ => s 101 0
  | 8 => fun _ => s 102 0
  | 9 => s 2
  | 10 => s 3
  | _ => s 4
def vM (s : Nat → Int → Int) : Nat → Int → Int := fun k => match k with
  | 0 => fun _ => s 120 0
  | 1 => s 51
  | 2 => s 52
  | 3 => s 53
  | 4 => s 54
  | 5 => s 55
  | 6 => fun _ => s 117 0
  | 7 => fun _ => s 118 0
  | 8 => fun _ => s 119 0
  | 9 => fun k => s 50 (3 * k)
  | 10 => fun k => s 50 (3 * k + 1)
  | _ => fun k => s 50 (3 * k + 2)
/-- the class's sums over the words before a word, and its hangs -/
def RUf (d : Nat → Int → Int) (f12 f13 f14 f15 f16 f17 : Int → Int) (i : Int) : Prop :=
  (∀ j, 0 ≤ j → j ≤ i → f12 j = Sm (d 1) 0 j ∧ f13 j = Sm (fun w => d 10 (d 3 w)) 0 j ∧ f14 j = Sm (fun w => d 11 (d 3 w) - d 10 (d 3 w)) 0 j ∧ f15 j = Sm (fun w => d 10 (d 3 w) - d 9 (d 3 w)) 0 j) ∧ ∀ j, 0 ≤ j → j < i → f16 j = hL d j ∧ f17 j = hR d j
def RU (s : Nat → Int → Int) : Prop := RUf (vX s) (s 12) (s 13) (s 14) (s 15) (s 16) (s 17) (s 103 0)
theorem RU_nt {s : Nat → Int → Int} (hr : RU s) {a b : Int} (h0 : 0 ≤ a) (h1 : a ≤ b) (h2 : b < s 103 0) : s 12 (b + 1) - s 12 a + (s 13 b - s 13 a) - s 16 a - s 17 b = nt (vX s) a b := by
  obtain ⟨h3, h4⟩ := hr
  have a1 := h3 (b + 1) (by omega) (by omega)
  have a2 := h3 a h0 (by omega)
  have a3 := h3 b (by omega) (by omega)
  have a4 := h4 a h0 (by omega)
  have a5 := h4 b (by omega) h2
  have s1 := Sm_split (vX s 1) (a := 0) (b := a) (c := b + 1) h0 (by omega)
  have s2 := Sm_split (fun w => vX s 10 (vX s 3 w)) (a := 0) (b := a) (c := b) h0 h1
  unfold nt
  omega
theorem RU_st {s : Nat → Int → Int} (hr : RU s) {a b : Int} (h0 : 0 ≤ a) (h1 : a ≤ b) (h2 : b < s 103 0) : s 14 b - s 14 a = st (vX s) a b ∧ s 15 b - s 15 a = sh (vX s) a b := by
  obtain ⟨h3, h4⟩ := hr
  have a2 := h3 a h0 (by omega)
  have a3 := h3 b (by omega) (by omega)
  have s1 := Sm_split (fun w => vX s 11 (vX s 3 w) - vX s 10 (vX s 3 w)) (a := 0) (b := a) (c := b) h0 h1
  have s2 := Sm_split (fun w => vX s 10 (vX s 3 w) - vX s 9 (vX s 3 w)) (a := 0) (b := a) (c := b) h0 h1
  unfold st sh
  omega
/-- what the class answers for badness and demerits of any line -/
def xb (d : Nat → Int → Int) (a b : Int) : Int := if ps d a b = true then bd d a b else -1
def xd (d : Nat → Int → Int) (a b : Int) : Int := if ps d a b = true then dm d a b else -1
theorem xb_0 {d : Nat → Int → Int} (hp : PI d) {a b : Int} (h0 : 0 ≤ a) (h1 : a ≤ b) (h2 : b < d 0 0) (hz : df d a b = 0 ∨ (0 < df d a b ∧ b = d 0 0 - 1)) : xb d a b = 0 := by
  have e1 := st_b hp (a := a) (b := b) h0 h1 (by omega)
  have e2 := sh_b hp (a := a) (b := b) h0 h1 (by omega)
  have e3 : ps d a b = true := ps_iff.mpr (by omega)
  unfold xb bd
  rw [if_pos e3, if_pos hz]
theorem xb_no {d : Nat → Int → Int} (hp : PI d) {a b : Int} (h0 : 0 ≤ a) (h1 : a ≤ b) (h2 : b < d 0 0) (hz : ¬ (df d a b = 0 ∨ (0 < df d a b ∧ b = d 0 0 - 1))) (h : rmm d a b < 1 ∨ rmm d a b < df d a b ∨ rmm d a b < - df d a b) : xb d a b = -1 := by
  unfold xb
  by_cases e : ps d a b = true
  · have := rmm_b hp h0 h1 h2 e hz
    omega
  · rw [if_neg e]
theorem xb_yes {d : Nat → Int → Int} (hp : PI d) {a b : Int} (h0 : 0 ≤ a) (h1 : a ≤ b) (h2 : b < d 0 0) (hz : ¬ (df d a b = 0 ∨ (0 < df d a b ∧ b = d 0 0 - 1))) (h : ¬ (rmm d a b < 1 ∨ rmm d a b < df d a b ∨ rmm d a b < - df d a b)) : xb d a b = (100 * df d a b * df d a b).tdiv (rmm d a b * rmm d a b) ∧ - rmm d a b ≤ df d a b ∧ df d a b ≤ rmm d a b := by
  have e1 := st_b hp (a := a) (b := b) h0 h1 (by omega)
  have e2 := sh_b hp (a := a) (b := b) h0 h1 (by omega)
  have e3 : ps d a b = true := ps_iff.mpr (by unfold rmm at h; split at h <;> omega)
  unfold xb bd
  rw [if_pos e3, if_neg hz]
  exact ⟨rfl, by omega, by omega⟩
theorem xb_b {d : Nat → Int → Int} (hp : PI d) {a b : Int} (h0 : 0 ≤ a) (h1 : a ≤ b) (h2 : b < d 0 0) : -1 ≤ xb d a b ∧ xb d a b ≤ 100 := by
  unfold xb
  split
  · rename_i h
    have := bd_b hp h0 h1 h2 h
    omega
  · omega
theorem xd_b {d : Nat → Int → Int} (hp : PI d) {a b : Int} (h0 : 0 ≤ a) (h1 : a ≤ b) (h2 : b < d 0 0) : -1 ≤ xd d a b ∧ xd d a b ≤ 12200 := by
  unfold xd
  split
  · rename_i h
    have := dm_b hp h0 h1 h2 h
    omega
  · omega
theorem xd_no {d : Nat → Int → Int} (hp : PI d) {a b : Int} (h0 : 0 ≤ a) (h1 : a ≤ b) (h2 : b < d 0 0) (h : xb d a b = -1) : xd d a b = -1 := by
  unfold xb at h
  unfold xd
  split at h
  · rename_i h3
    have := bd_b hp h0 h1 h2 h3
    omega
  · rename_i h3
    rw [if_neg h3]
theorem xd_y1 {d : Nat → Int → Int} {a b : Int} (h : ¬ xb d a b = -1) (hs : ¬ b = d 0 0 - 1 ∧ d 2 b ≤ 2) : xd d a b = (10 + xb d a b) * (10 + xb d a b) + 100 := by
  unfold xb at h ⊢
  unfold xd dm
  by_cases z : ps d a b = true
  · rw [if_pos z, if_pos z, if_pos hs]
  · rw [if_neg z] at h
    exact absurd rfl h
theorem xd_y0 {d : Nat → Int → Int} {a b : Int} (h : ¬ xb d a b = -1) (hs : ¬ (¬ b = d 0 0 - 1 ∧ d 2 b ≤ 2)) : xd d a b = (10 + xb d a b) * (10 + xb d a b) + 0 := by
  unfold xb at h ⊢
  unfold xd dm
  by_cases z : ps d a b = true
  · rw [if_pos z, if_pos z, if_neg hs]
  · rw [if_neg z] at h
    exact absurd rfl h
theorem cd_no {d : Nat → Int → Int} {bs : Int → Int} {a b : Int} (h : ¬ 0 ≤ bs (b + 1) ∨ xd d a b = -1) (hp : PI d) (h0 : 0 ≤ a) (h1 : a ≤ b) (h2 : b < d 0 0) : cd d bs a b = -1 := by
  unfold cd
  rw [if_neg]
  intro z
  rcases h with h | h
  · exact h z.1
  · unfold xd at h
    rw [if_pos z.2] at h
    have := dm_b hp h0 h1 h2 z.2
    omega
theorem cd_yes {d : Nat → Int → Int} {bs : Int → Int} {a b : Int} (h : 0 ≤ bs (b + 1)) (h3 : ¬ xd d a b = -1) : cd d bs a b = xd d a b + bs (b + 1) := by
  unfold cd
  unfold xd at h3 ⊢
  by_cases z : ps d a b = true
  · rw [if_pos ⟨h, z⟩, if_pos z]
  · rw [if_neg z] at h3
    exact absurd rfl h3
theorem cd_bnd {d : Nat → Int → Int} {bs : Int → Int} (hp : PI d) {a b M : Int} (h0 : 0 ≤ a) (h1 : a ≤ b) (h2 : b < d 0 0) (hM : bs (b + 1) ≤ M) (hM0 : 0 ≤ M) : -1 ≤ cd d bs a b ∧ cd d bs a b ≤ 12200 + M := by
  unfold cd
  split
  · rename_i h
    have := dm_b hp h0 h1 h2 h.2
    omega
  · omega
theorem cd_congr {d : Nat → Int → Int} {bs bs2 : Int → Int} {a b : Int} (h : bs (b + 1) = bs2 (b + 1)) : cd d bs a b = cd d bs2 a b := by
  unfold cd
  rw [h]
theorem am_take {c : Int → Int} {a b : Int} (hab : a ≤ b) (h0 : 0 ≤ c b) (h : (am c a (b - a).toNat).1 < 0 ∨ c b ≤ (am c a (b - a).toNat).1) : am c a (b + 1 - a).toNat = (c b, b) := by
  rw [show (b + 1 - a).toNat = (b - a).toNat + 1 by omega, am, show a + ((b - a).toNat : Int) = b by omega, if_pos ⟨h0, h⟩]
theorem am_skip {c : Int → Int} {a b : Int} (hab : a ≤ b) (h : c b < 0 ∨ (0 ≤ (am c a (b - a).toNat).1 ∧ (am c a (b - a).toNat).1 < c b)) : am c a (b + 1 - a).toNat = am c a (b - a).toNat := by
  rw [show (b + 1 - a).toNat = (b - a).toNat + 1 by omega, am, show a + ((b - a).toNat : Int) = b by omega, if_neg (by omega)]
theorem am_0 (c : Int → Int) (a : Int) : am c a (a - a).toNat = (-1, -1) := by
  rw [show (a - a).toNat = 0 by omega]
  rfl
/-- the search for the best way, done for the words behind a -/
def BWp (d : Nat → Int → Int) (bs be : Int → Int) (a : Int) : Prop := bs (d 0 0) = 0 ∧ (∀ j, a < j → j < d 0 0 → bs j = (am (cd d bs j) j (d 0 0 - j).toNat).1 ∧ be j = (am (cd d bs j) j (d 0 0 - j).toNat).2) ∧ ∀ j, a < j → j ≤ d 0 0 → -1 ≤ bs j ∧ bs j ≤ 12200 * (d 0 0 - j)
theorem BWp_step {d : Nat → Int → Int} {f g be ge : Int → Int} {a : Int} (hp : PI d) (h0 : 0 ≤ a) (h1 : a < d 0 0) (h : BWp d f be a) (hg : ∀ j, ¬ j = a → g j = f j ∧ ge j = be j) (h2 : g a = (am (cd d f a) a (d 0 0 - a).toNat).1) (h3 : ge a = (am (cd d f a) a (d 0 0 - a).toNat).2) : BWp d g ge (a + (-1)) := by
  obtain ⟨b1, b2, b3⟩ := h
  have e : ∀ j, a ≤ j → am (cd d g j) j (d 0 0 - j).toNat = am (cd d f j) j (d 0 0 - j).toNat := fun j hj => am_congr _ fun i q1 q2 => cd_congr (hg (i + 1) (by omega)).1
  refine ⟨by rw [(hg _ (by omega)).1, b1], fun j q1 q2 => ?_, fun j q1 q2 => ?_⟩
  · by_cases hj : j = a
    · subst hj
      rw [e j (by omega), h2, h3]
      exact ⟨rfl, rfl⟩
    · rw [e j (by omega), (hg j hj).1, (hg j hj).2]
      exact b2 j (by omega) q2
  · by_cases hj : j = a
    · subst hj
      rw [h2]
      rcases am_in (c := cd d f j) (lo := j) (d 0 0 - j).toNat with ⟨i1, -, -⟩ | ⟨i1, i2, i3, i4⟩
      · rw [i1]
        omega
      · have q := b3 ((am (cd d f j) j (d 0 0 - j).toNat).2 + 1) (by omega) (by omega)
        have q3 := cd_bnd (bs := f) hp h0 i2 (by omega) (M := 12200 * (d 0 0 - j) - 12200) (by omega) (by omega)
        rw [← i4]
        omega
    · rw [(hg j hj).1]
      exact b3 j (by omega) q2
theorem BWp_BW {d : Nat → Int → Int} {f be : Int → Int} (h : BWp d f be (-1)) : BW d f be := ⟨h.1, fun a q1 q2 => ⟨(h.2.1 a (by omega) q2).1, fun _ => (h.2.1 a (by omega) q2).2⟩⟩
def BS (d : Nat → Int → Int) (bs : Int → Int) : Prop := ∀ j, 0 ≤ j → j ≤ d 0 0 → -1 ≤ bs j ∧ bs j ≤ 732000
theorem BWp_BS {d : Nat → Int → Int} {f be : Int → Int} (hp : PI d) (h : BWp d f be (-1)) : BS d f := fun j q1 q2 => by
  have := h.2.2 j (by omega) q2
  have := hp.1
  omega
theorem bw_take {d : Nat → Int → Int} {f g be ge : Int → Int} {a b : Int} (q1 : a ≤ b) (q2 : ∀ j, ¬ j = a → g j = f j ∧ ge j = be j) (q3 : g a = (am (cd d f a) a (b - a).toNat).1 ∧ ge a = (am (cd d f a) a (b - a).toNat).2) (hc : ¬ cd d g a b = -1) (hb : -1 ≤ cd d g a b) (h : g a = -1 ∨ cd d g a b ≤ g a) : ab_u g a (cd d g a b) a = (am (cd d f a) a (b + 1 - a).toNat).1 ∧ ab_u ge a b a = (am (cd d f a) a (b + 1 - a).toNat).2 := by
  have e : cd d g a b = cd d f a b := cd_congr (q2 (b + 1) (by omega)).1
  rw [am_take q1 (by omega) (by omega)]
  unfold ab_u
  rw [if_pos rfl, if_pos rfl]
  exact ⟨e, rfl⟩
theorem bw_skip {d : Nat → Int → Int} {f g be ge : Int → Int} {a b : Int} (q1 : a ≤ b) (q2 : ∀ j, ¬ j = a → g j = f j ∧ ge j = be j) (q3 : g a = (am (cd d f a) a (b - a).toNat).1 ∧ ge a = (am (cd d f a) a (b - a).toNat).2) (h : cd d g a b = -1 ∨ (¬ g a = -1 ∧ g a < cd d g a b)) : g a = (am (cd d f a) a (b + 1 - a).toNat).1 ∧ ge a = (am (cd d f a) a (b + 1 - a).toNat).2 := by
  have e : cd d g a b = cd d f a b := cd_congr (q2 (b + 1) (by omega)).1
  have := am_in (c := cd d f a) (lo := a) (b - a).toNat
  rw [am_skip q1 (by omega)]
  exact q3
theorem bw_hb {d : Nat → Int → Int} {f g be ge : Int → Int} {a b : Int} (hp : PI d) (h0 : 0 ≤ a) (q1 : a ≤ b) (qn : b < d 0 0) (h : BWp d f be a) (q2 : ∀ j, ¬ j = a → g j = f j ∧ ge j = be j) (q3 : g a = (am (cd d f a) a (b - a).toNat).1 ∧ ge a = (am (cd d f a) a (b - a).toNat).2) : (-1 ≤ g (b + 1) ∧ g (b + 1) ≤ 732000) ∧ (-1 ≤ cd d g a b ∧ cd d g a b ≤ 744200) ∧ (-1 ≤ g a ∧ g a ≤ 744200) := by
  have hn := hp.1
  have hall : ∀ j, a < j → j ≤ d 0 0 → -1 ≤ g j ∧ g j ≤ 732000 := fun j j1 j2 => by
    rw [(q2 j (by omega)).1]
    have := h.2.2 j j1 j2
    omega
  have h1 := hall (b + 1) (by omega) (by omega)
  refine ⟨h1, ?_, ?_⟩
  · have := cd_bnd (bs := g) hp h0 q1 qn h1.2 (by omega)
    omega
  · rw [q3.1]
    rcases am_in (c := cd d f a) (lo := a) (b - a).toNat with ⟨i1, -, -⟩ | ⟨i1, i2, i3, i4⟩
    · rw [i1]
      omega
    · have e2 := h.2.2 ((am (cd d f a) a (b - a).toNat).2 + 1) (by omega) (by omega)
      have := cd_bnd (bs := f) (M := 732000) hp h0 i2 (by omega) (by omega) (by omega)
      rw [← i4]
      omega

set_option maxRecDepth 20000 in
theorem c_X9_at (s : Nat → Int → Int) (q n : Nat) (f : Int → Int) (i : Int) (hq : (WW s)[q]? = some (.inl (0, n, f))) (hn : n < 2147483648) (hi : 0 ≤ i ∧ i < n) : ab_Mt yX9_at cX9_at 2 (some .int) ({ frames := 0, cells := 0, slots := 0, locals := 0 } : Room) false 0 0 [.inr (some q), .inl i] (WW s) (fun r h2 => r = some (.inl (f i)) ∧ h2 = WW s) := by
  refine ab_mk RX9 false rfl pn_X9_at (fun z => by cases z) (Nat.le_of_ble_eq_true rfl) (fun V hV => ?_)
  show V 0 [some (.inr (some q)), some (.inl i)] [] (WW s) 0 0
  refine rb_iload_n hV dX9_at_0 rfl rfl ?_
  refine rb_if_lt hV (tgt := 16) dX9_at_1 (by decide) (by first | assumption | (unfold ab_r at *; omega)) (fun c1 => absurd c1 (by omega)) (fun c1 => ?_)
  refine rb_iload_n hV dX9_at_4 rfl rfl ?_
  refine rb_aload_n hV dX9_at_5 rfl rfl ?_
  refine rb_alen hV dX9_at_6 hq (Nat.le_of_ble_eq_true rfl) ?_
  refine rb_icmp_ge hV (tgt := 16) dX9_at_7 (by decide) ⟨(by first | assumption | (unfold ab_r at *; omega)), (by first | assumption | (unfold ab_r at *; omega))⟩ (fun c7 => absurd c7 (by omega)) (fun c7 => ?_)
  refine rb_aload_n hV dX9_at_10 rfl rfl ?_
  refine rb_iload_n hV dX9_at_11 rfl rfl ?_
  refine rb_iald hV dX9_at_12 hq hn (by omega) ?_
  refine rb_goto hV (tgt := 17) dX9_at_13 (by decide) ?_
  refine rb_ret hV (r := some (.inl (f i))) dX9_at_17 rfl ⟨(Nat.le_of_ble_eq_true rfl), (Nat.le_of_ble_eq_true rfl)⟩ trivial ?_
  exact ⟨rfl, rfl⟩

set_option maxRecDepth 20000 in
theorem c_X9_isKind (s : Nat → Int → Int) (a : Int) (ha : ab_r a) : ab_Mt yX9_isKind cX9_isKind 1 (some .boolean) ({ frames := 0, cells := 0, slots := 0, locals := 0 } : Room) false 0 0 [.inl a] (WW s) (fun r h2 => r = some (.inl (if 0 ≤ a ∧ a < 3 then 1 else 0)) ∧ h2 = WW s) := by
  refine ab_mk RX9 false rfl pn_X9_isKind (fun z => by cases z) (Nat.le_of_ble_eq_true rfl) (fun V hV => ?_)
  show V 0 [some (.inl a)] [] (WW s) 0 0
  refine rb_iload_n hV dX9_isKind_0 rfl rfl ?_
  refine rb_if_lt hV (tgt := 13) dX9_isKind_1 (by decide) (by first | assumption | (unfold ab_r at *; omega)) (fun c1 => ?_) (fun c1 => ?_)
  · refine rb_iconst hV dX9_isKind_13 ?_
    refine rb_ret hV (r := some (.inl 0)) dX9_isKind_14 rfl ⟨(Nat.le_of_ble_eq_true rfl), (Nat.le_of_ble_eq_true rfl)⟩ (by first | exact Or.inl rfl | exact Or.inr rfl | omega) ?_
    exact ⟨by first | (rw [if_pos (by omega)]; done) | (rw [if_neg (by omega)]; done), rfl⟩
  · refine rb_iload_n hV dX9_isKind_4 rfl rfl ?_
    refine rb_iconst hV dX9_isKind_5 ?_
    refine rb_icmp_ge hV (tgt := 13) dX9_isKind_6 (by decide) ⟨(by first | assumption | (unfold ab_r at *; omega)), (by first | assumption | (unfold ab_r at *; omega))⟩ (fun c6 => ?_) (fun c6 => ?_)
    · refine rb_iconst hV dX9_isKind_13 ?_
      refine rb_ret hV (r := some (.inl 0)) dX9_isKind_14 rfl ⟨(Nat.le_of_ble_eq_true rfl), (Nat.le_of_ble_eq_true rfl)⟩ (by first | exact Or.inl rfl | exact Or.inr rfl | omega) ?_
      exact ⟨by first | (rw [if_pos (by omega)]; done) | (rw [if_neg (by omega)]; done), rfl⟩
    · refine rb_iconst hV dX9_isKind_9 ?_
      refine rb_goto hV (tgt := 14) dX9_isKind_10 (by decide) ?_
      refine rb_ret hV (r := some (.inl 1)) dX9_isKind_14 rfl ⟨(Nat.le_of_ble_eq_true rfl), (Nat.le_of_ble_eq_true rfl)⟩ (by first | exact Or.inl rfl | exact Or.inr rfl | omega) ?_
      exact ⟨by first | (rw [if_pos (by omega)]; done) | (rw [if_neg (by omega)]; done), rfl⟩

set_option maxRecDepth 20000 in
theorem c_X2_isEnd (s : Nat → Int → Int) (b : Int) (hb : ab_r b) (hw : 0 ≤ s 103 0 ∧ s 103 0 ≤ 60) : ab_Mt yX2_isEnd cX2_isEnd 2 (some .boolean) ({ frames := 0, cells := 0, slots := 0, locals := 0 } : Room) false 0 0 [.inr (some 11), .inl b] (WW s) (fun r h2 => r = some (.inl (if b = s 103 0 - 1 then 1 else 0)) ∧ h2 = WW s) := by
  refine ab_mk RX2 false rfl pn_X2_isEnd (fun z => by cases z) (Nat.le_of_ble_eq_true rfl) (fun V hV => ?_)
  show V 0 [some (.inr (some 11)), some (.inl b)] [] (WW s) 0 0
  refine rb_iload_n hV dX2_isEnd_0 rfl rfl ?_
  refine rb_aload_n hV dX2_isEnd_1 rfl rfl ?_
  refine rb_get hV (v := .inr (some 5)) dX2_isEnd_2 ⟨RX2, TX2, 8, rfl, (Nat.le_of_ble_eq_true rfl), lf_X2_9⟩ (gw_11 _) rfl ?_
  refine rb_get hV (v := .inl (s 103 0)) dX2_isEnd_5 ⟨RX4, TX4, 6, rfl, (Nat.le_of_ble_eq_true rfl), lf_X2_38⟩ (gw_5 _) rfl ?_
  refine rb_iconst hV dX2_isEnd_8 ?_
  refine rb_isub hV dX2_isEnd_9 ?_
  refine rb_icmp_ne hV (tgt := 17) dX2_isEnd_10 (by decide) ⟨(by first | assumption | (unfold ab_r at *; omega)), (by first | assumption | (unfold ab_r at *; omega))⟩ (fun c10 => ?_) (fun c10 => ?_)
  · refine rb_iconst hV dX2_isEnd_17 ?_
    refine rb_ret hV (r := some (.inl 0)) dX2_isEnd_18 rfl ⟨(Nat.le_of_ble_eq_true rfl), (Nat.le_of_ble_eq_true rfl)⟩ (by first | exact Or.inl rfl | exact Or.inr rfl | omega) ?_
    exact ⟨by first | (rw [if_pos (by omega)]; done) | (rw [if_neg (by omega)]; done), rfl⟩
  · refine rb_iconst hV dX2_isEnd_13 ?_
    refine rb_goto hV (tgt := 18) dX2_isEnd_14 (by decide) ?_
    refine rb_ret hV (r := some (.inl 1)) dX2_isEnd_18 rfl ⟨(Nat.le_of_ble_eq_true rfl), (Nat.le_of_ble_eq_true rfl)⟩ (by first | exact Or.inl rfl | exact Or.inr rfl | omega) ?_
    exact ⟨by first | (rw [if_pos (by omega)]; done) | (rw [if_neg (by omega)]; done), rfl⟩

set_option maxRecDepth 20000 in
theorem c_X2_naturalWidth (s : Nat → Int → Int) (a b : Int) (hp : PI (vX s)) (hr : RU s) (h : 0 ≤ a ∧ a ≤ b ∧ b < s 103 0) : ab_Mt yX2_naturalWidth cX2_naturalWidth 5 (some .int) ({ frames := 0, cells := 0, slots := 0, locals := 0 } : Room) false 0 0 [.inr (some 11), .inl a, .inl b] (WW s) (fun r h2 => r = some (.inl (nt (vX s) a b)) ∧ h2 = WW s) := by
  refine ab_mk RX2 false rfl pn_X2_naturalWidth (fun z => by cases z) (Nat.le_of_ble_eq_true rfl) (fun V hV => ?_)
  show V 0 [some (.inr (some 11)), some (.inl a), some (.inl b), none, none] [] (WW s) 0 0
  have hn : 0 ≤ s 103 0 ∧ s 103 0 ≤ 60 := hp.1
  refine rb_iload_n hV dX2_naturalWidth_0 rfl rfl ?_
  refine rb_if_lt hV (tgt := 15) dX2_naturalWidth_1 (by decide) (by first | assumption | (unfold ab_r at *; omega)) (fun c1 => absurd c1 (by omega)) (fun c1 => ?_)
  refine rb_iload_n hV dX2_naturalWidth_4 rfl rfl ?_
  refine rb_iload_n hV dX2_naturalWidth_5 rfl rfl ?_
  refine rb_icmp_lt hV (tgt := 15) dX2_naturalWidth_6 (by decide) ⟨(by first | assumption | (unfold ab_r at *; omega)), (by first | assumption | (unfold ab_r at *; omega))⟩ (fun c6 => absurd c6 (by omega)) (fun c6 => ?_)
  refine rb_iload_n hV dX2_naturalWidth_9 rfl rfl ?_
  refine rb_bipush hV dX2_naturalWidth_10 (by decide) ?_
  refine rb_icmp_lt hV (tgt := 17) dX2_naturalWidth_12 (by decide) ⟨(by first | assumption | (unfold ab_r at *; omega)), (by first | assumption | (unfold ab_r at *; omega))⟩ (fun c12 => ?_) (fun c12 => absurd c12 (by omega))
  refine rb_aload_n hV dX2_naturalWidth_17 rfl rfl ?_
  refine rb_get hV (v := .inr (some 12)) dX2_naturalWidth_18 ⟨RX2, TX2, 8, rfl, (Nat.le_of_ble_eq_true rfl), lf_X2_19⟩ (gw_11 _) rfl ?_
  refine rb_iload_n hV dX2_naturalWidth_21 rfl rfl ?_
  refine rb_iconst hV dX2_naturalWidth_22 ?_
  refine rb_iadd hV dX2_naturalWidth_23 ?_
  refine rb_iald hV (f := (s 12)) dX2_naturalWidth_24 (gw_12 _) (Nat.le_of_ble_eq_true rfl) (by omega) ?_
  refine rb_aload_n hV dX2_naturalWidth_25 rfl rfl ?_
  refine rb_get hV (v := .inr (some 12)) dX2_naturalWidth_26 ⟨RX2, TX2, 8, rfl, (Nat.le_of_ble_eq_true rfl), lf_X2_19⟩ (gw_11 _) rfl ?_
  refine rb_iload_n hV dX2_naturalWidth_29 rfl rfl ?_
  refine rb_iald hV (f := (s 12)) dX2_naturalWidth_30 (gw_12 _) (Nat.le_of_ble_eq_true rfl) (by omega) ?_
  refine rb_isub hV dX2_naturalWidth_31 ?_
  refine rb_istore_n hV (L2 := [some (.inr (some 11)), some (.inl a), some (.inl b), some (.inl ((s 12 (b + 1)) - (s 12 a))), none]) dX2_naturalWidth_32 rfl (Nat.le_of_ble_eq_true rfl) rfl ?_
  refine rb_aload_n hV dX2_naturalWidth_33 rfl rfl ?_
  refine rb_get hV (v := .inr (some 13)) dX2_naturalWidth_34 ⟨RX2, TX2, 8, rfl, (Nat.le_of_ble_eq_true rfl), lf_X2_23⟩ (gw_11 _) rfl ?_
  refine rb_iload_n hV dX2_naturalWidth_37 rfl rfl ?_
  refine rb_iald hV (f := (s 13)) dX2_naturalWidth_38 (gw_13 _) (Nat.le_of_ble_eq_true rfl) (by omega) ?_
  refine rb_aload_n hV dX2_naturalWidth_39 rfl rfl ?_
  refine rb_get hV (v := .inr (some 13)) dX2_naturalWidth_40 ⟨RX2, TX2, 8, rfl, (Nat.le_of_ble_eq_true rfl), lf_X2_23⟩ (gw_11 _) rfl ?_
  refine rb_iload_n hV dX2_naturalWidth_43 rfl rfl ?_
  refine rb_iald hV (f := (s 13)) dX2_naturalWidth_44 (gw_13 _) (Nat.le_of_ble_eq_true rfl) (by omega) ?_
  refine rb_isub hV dX2_naturalWidth_45 ?_
  refine rb_istore hV (L2 := [some (.inr (some 11)), some (.inl a), some (.inl b), some (.inl ((s 12 (b + 1)) - (s 12 a))), some (.inl ((s 13 b) - (s 13 a)))]) dX2_naturalWidth_46 (Nat.le_of_ble_eq_true rfl) rfl ?_
  refine rb_iload_n hV dX2_naturalWidth_48 rfl rfl ?_
  refine rb_iload hV dX2_naturalWidth_49 rfl ?_
  refine rb_iadd hV dX2_naturalWidth_51 ?_
  refine rb_aload_n hV dX2_naturalWidth_52 rfl rfl ?_
  refine rb_get hV (v := .inr (some 16)) dX2_naturalWidth_53 ⟨RX2, TX2, 8, rfl, (Nat.le_of_ble_eq_true rfl), lf_X2_32⟩ (gw_11 _) rfl ?_
  refine rb_iload_n hV dX2_naturalWidth_56 rfl rfl ?_
  refine rb_iald hV (f := (s 16)) dX2_naturalWidth_57 (gw_16 _) (Nat.le_of_ble_eq_true rfl) (by omega) ?_
  refine rb_isub hV dX2_naturalWidth_58 ?_
  refine rb_aload_n hV dX2_naturalWidth_59 rfl rfl ?_
  refine rb_get hV (v := .inr (some 17)) dX2_naturalWidth_60 ⟨RX2, TX2, 8, rfl, (Nat.le_of_ble_eq_true rfl), lf_X2_35⟩ (gw_11 _) rfl ?_
  refine rb_iload_n hV dX2_naturalWidth_63 rfl rfl ?_
  refine rb_iald hV (f := (s 17)) dX2_naturalWidth_64 (gw_17 _) (Nat.le_of_ble_eq_true rfl) (by omega) ?_
  refine rb_isub hV dX2_naturalWidth_65 ?_
  refine rb_ret hV (r := some (.inl (((((s 12 (b + 1)) - (s 12 a)) + ((s 13 b) - (s 13 a))) - (s 16 a)) - (s 17 b)))) dX2_naturalWidth_66 rfl ⟨(Nat.le_of_ble_eq_true rfl), (Nat.le_of_ble_eq_true rfl)⟩ trivial ?_
  exact ⟨congrArg (fun z : Int => some (Sum.inl z)) (RU_nt hr h.1 h.2.1 h.2.2), rfl⟩

set_option maxRecDepth 20000 in
theorem c_X2_badness (s : Nat → Int → Int) (a b : Int) (hp : PI (vX s)) (hr : RU s) (h : 0 ≤ a ∧ a ≤ b ∧ b < s 103 0) : ab_Mt yX2_badness cX2_badness 6 (some .int) ({ frames := 1, cells := 0, slots := 0, locals := 24 } : Room) false 0 0 [.inr (some 11), .inl a, .inl b] (WW s) (fun r h2 => r = some (.inl (xb (vX s) a b)) ∧ h2 = WW s) := by
  refine ab_mk RX2 false rfl pn_X2_badness (fun z => by cases z) (Nat.le_of_ble_eq_true rfl) (fun V hV => ?_)
  show V 0 [some (.inr (some 11)), some (.inl a), some (.inl b), none, none, none] [] (WW s) 0 0
  have hn : 0 ≤ s 103 0 ∧ s 103 0 ≤ 60 := hp.1
  have hd := df_b hp h.1 h.2.1 h.2.2
  have hnt := nt_b hp h.1 h.2.1 h.2.2
  have hm : 10 ≤ s 100 0 ∧ s 100 0 ≤ 200 := hp.2.2.1
  have hst := st_b hp h.1 h.2.1 (Int.le_of_lt h.2.2)
  have hsh := sh_b hp h.1 h.2.1 (Int.le_of_lt h.2.2)
  have hru := RU_st hr h.1 h.2.1 h.2.2
  have hdf : df (vX s) a b = s 100 0 - nt (vX s) a b := rfl
  refine rb_aload_n hV dX2_badness_0 rfl rfl ?_
  refine rb_get hV (v := .inr (some 1)) dX2_badness_1 ⟨RX2, TX2, 8, rfl, (Nat.le_of_ble_eq_true rfl), lf_X2_15⟩ (gw_11 _) rfl ?_
  refine rb_get hV (v := .inl (s 100 0)) dX2_badness_4 ⟨RX6, TX6, 6, rfl, (Nat.le_of_ble_eq_true rfl), lf_X2_74⟩ (gw_1 _) rfl ?_
  refine rb_aload_n hV dX2_badness_7 rfl rfl ?_
  refine rb_iload_n hV dX2_badness_8 rfl rfl ?_
  refine rb_iload_n hV dX2_badness_9 rfl rfl ?_
  refine rb_callV hV (rest := [.inl (s 100 0)]) dX2_badness_10 (c_X2_naturalWidth s a b hp hr (show 0 ≤ a ∧ a ≤ b ∧ b < (s 103 0) by omega)) lk_X2_77 rfl (Or.inl ⟨2, _, TX2, 8, gw_11 _, rfl⟩) rfl ⟨rfl, rfl, (Nat.le_of_ble_eq_true rfl), (Nat.le_of_ble_eq_true rfl), (Nat.le_of_ble_eq_true rfl), (Nat.le_of_ble_eq_true rfl)⟩ (Nat.le_of_ble_eq_true rfl) (fun r9 h9 p9 => ?_)
  obtain ⟨rfl, rfl⟩ := p9
  show V 13 [some (.inr (some 11)), some (.inl a), some (.inl b), none, none, none] [.inl (nt (vX s) a b), .inl (s 100 0)] (WW s) 0 0
  refine rb_isub hV dX2_badness_13 ?_
  refine rb_istore_n hV (L2 := [some (.inr (some 11)), some (.inl a), some (.inl b), some (.inl ((s 100 0) - (nt (vX s) a b))), none, none]) dX2_badness_14 rfl (Nat.le_of_ble_eq_true rfl) rfl ?_
  refine rb_iload_n hV dX2_badness_15 rfl rfl ?_
  refine rb_if_eq hV (tgt := 31) dX2_badness_16 (by decide) (by first | assumption | (unfold ab_r at *; omega)) (fun c16 => ?_) (fun c16 => ?_)
  · refine rb_iconst hV dX2_badness_31 ?_
    refine rb_ret hV (r := some (.inl 0)) dX2_badness_32 rfl ⟨(Nat.le_of_ble_eq_true rfl), (Nat.le_of_ble_eq_true rfl)⟩ trivial ?_
    exact ⟨congrArg (fun z : Int => some (Sum.inl z)) (xb_0 hp h.1 h.2.1 h.2.2 (by show (df (vX s) a b = 0 ∨ (0 < df (vX s) a b ∧ b = s 103 0 - 1)); omega)).symm, rfl⟩
  · refine rb_iload_n hV dX2_badness_19 rfl rfl ?_
    refine rb_if_le hV (tgt := 33) dX2_badness_20 (by decide) (by first | assumption | (unfold ab_r at *; omega)) (fun c20 => ?_) (fun c20 => ?_)
    · refine rb_iload_n hV dX2_badness_33 rfl rfl ?_
      refine rb_if_le hV (tgt := 44) dX2_badness_34 (by decide) (by first | assumption | (unfold ab_r at *; omega)) (fun c34 => ?_) (fun c34 => absurd c34 (by omega))
      refine rb_aload_n hV dX2_badness_44 rfl rfl ?_
      refine rb_get hV (v := .inr (some 15)) dX2_badness_45 ⟨RX2, TX2, 8, rfl, (Nat.le_of_ble_eq_true rfl), lf_X2_29⟩ (gw_11 _) rfl ?_
      refine rb_astore hV (L2 := [some (.inr (some 11)), some (.inl a), some (.inl b), some (.inl ((s 100 0) - (nt (vX s) a b))), some (.inr (some 15)), none]) dX2_badness_48 (Nat.le_of_ble_eq_true rfl) rfl ?_
      refine rb_aload hV dX2_badness_50 rfl ?_
      refine rb_iload_n hV dX2_badness_52 rfl rfl ?_
      refine rb_callS hV (rest := []) dX2_badness_53 (c_X9_at s 15 _ (s 15) b (gw_15 _) (Nat.le_of_ble_eq_true rfl) (by omega)) lk_X2_52 rfl rfl ⟨rfl, rfl, (Nat.le_of_ble_eq_true rfl), (Nat.le_of_ble_eq_true rfl), (Nat.le_of_ble_eq_true rfl), (Nat.le_of_ble_eq_true rfl)⟩ (Nat.le_of_ble_eq_true rfl) (fun r9 h9 p9 => ?_)
      obtain ⟨rfl, rfl⟩ := p9
      show V 56 [some (.inr (some 11)), some (.inl a), some (.inl b), some (.inl ((s 100 0) - (nt (vX s) a b))), some (.inr (some 15)), none] [.inl (s 15 b)] (WW s) 0 0
      refine rb_aload hV dX2_badness_56 rfl ?_
      refine rb_iload_n hV dX2_badness_58 rfl rfl ?_
      refine rb_callS hV (rest := [.inl (s 15 b)]) dX2_badness_59 (c_X9_at s 15 _ (s 15) a (gw_15 _) (Nat.le_of_ble_eq_true rfl) (by omega)) lk_X2_52 rfl rfl ⟨rfl, rfl, (Nat.le_of_ble_eq_true rfl), (Nat.le_of_ble_eq_true rfl), (Nat.le_of_ble_eq_true rfl), (Nat.le_of_ble_eq_true rfl)⟩ (Nat.le_of_ble_eq_true rfl) (fun r9 h9 p9 => ?_)
      obtain ⟨rfl, rfl⟩ := p9
      show V 62 [some (.inr (some 11)), some (.inl a), some (.inl b), some (.inl ((s 100 0) - (nt (vX s) a b))), some (.inr (some 15)), none] [.inl (s 15 a), .inl (s 15 b)] (WW s) 0 0
      refine rb_isub hV dX2_badness_62 ?_
      refine rb_istore hV (L2 := [some (.inr (some 11)), some (.inl a), some (.inl b), some (.inl ((s 100 0) - (nt (vX s) a b))), some (.inr (some 15)), some (.inl ((s 15 b) - (s 15 a)))]) dX2_badness_63 (Nat.le_of_ble_eq_true rfl) rfl ?_
      refine rb_iload hV dX2_badness_65 rfl ?_
      refine rb_iconst hV dX2_badness_67 ?_
      refine rb_icmp_lt hV (tgt := 80) dX2_badness_68 (by decide) ⟨(by first | assumption | (unfold ab_r at *; omega)), (by first | assumption | (unfold ab_r at *; omega))⟩ (fun c68 => ?_) (fun c68 => ?_)
      · refine rb_iconst hV dX2_badness_80 ?_
        refine rb_ret hV (r := some (.inl (-1))) dX2_badness_81 rfl ⟨(Nat.le_of_ble_eq_true rfl), (Nat.le_of_ble_eq_true rfl)⟩ trivial ?_
        exact ⟨congrArg (fun z : Int => some (Sum.inl z)) (xb_no hp h.1 h.2.1 h.2.2 (by show ¬ (df (vX s) a b = 0 ∨ (0 < df (vX s) a b ∧ b = s 103 0 - 1)); omega) (by unfold rmm; split <;> omega)).symm, rfl⟩
      · refine rb_iload hV dX2_badness_71 rfl ?_
        refine rb_iload_n hV dX2_badness_73 rfl rfl ?_
        refine rb_mabs hV dX2_badness_74 lk_X2_85 (by first | assumption | (unfold ab_r at *; omega)) (Nat.le_of_ble_eq_true rfl) (Nat.le_of_ble_eq_true rfl) ⟨(Nat.le_of_ble_eq_true rfl), (Nat.le_of_ble_eq_true rfl)⟩ ?_
        rw [if_neg (show ¬ 0 ≤ ((s 100 0) - (nt (vX s) a b)) by omega)]
        refine rb_icmp_ge hV (tgt := 82) dX2_badness_77 (by decide) ⟨(by first | assumption | (unfold ab_r at *; omega)), (by first | assumption | (unfold ab_r at *; omega))⟩ (fun c77 => ?_) (fun c77 => ?_)
        · refine rb_bipush hV dX2_badness_82 (by decide) ?_
          refine rb_iload_n hV dX2_badness_84 rfl rfl ?_
          refine rb_imul hV dX2_badness_85 ?_
          refine rb_iload_n hV dX2_badness_86 rfl rfl ?_
          refine rb_imul hV dX2_badness_87 ?_
          refine rb_iload hV dX2_badness_88 rfl ?_
          refine rb_iload hV dX2_badness_90 rfl ?_
          refine rb_imul hV dX2_badness_92 ?_
          refine rb_idiv hV dX2_badness_93 (by have e9 := sq_r (x := s 100 0 - nt (vX s) a b) (r := s 15 b - s 15 a) (by omega) (by omega) (by omega) (by omega); unfold ab_r; omega) (by have e9 : 1 * 1 ≤ (s 15 b - s 15 a) * (s 15 b - s 15 a) := Int.mul_le_mul (by omega) (by omega) (by omega) (by omega); omega) ?_
          refine rb_ret hV (r := some (.inl ((((100 * ((s 100 0) - (nt (vX s) a b))) * ((s 100 0) - (nt (vX s) a b)))).tdiv (((s 15 b) - (s 15 a)) * ((s 15 b) - (s 15 a)))))) dX2_badness_94 rfl ⟨(Nat.le_of_ble_eq_true rfl), (Nat.le_of_ble_eq_true rfl)⟩ trivial ?_
          refine ⟨congrArg (fun z : Int => some (Sum.inl z)) ?_, rfl⟩
          rw [(xb_yes hp h.1 h.2.1 h.2.2 (by show ¬ (df (vX s) a b = 0 ∨ (0 < df (vX s) a b ∧ b = s 103 0 - 1)); omega) (by unfold rmm; split <;> omega)).1, hdf, show rmm (vX s) a b = (s 15 b - s 15 a) by unfold rmm; split <;> omega]
        · refine rb_iconst hV dX2_badness_80 ?_
          refine rb_ret hV (r := some (.inl (-1))) dX2_badness_81 rfl ⟨(Nat.le_of_ble_eq_true rfl), (Nat.le_of_ble_eq_true rfl)⟩ trivial ?_
          exact ⟨congrArg (fun z : Int => some (Sum.inl z)) (xb_no hp h.1 h.2.1 h.2.2 (by show ¬ (df (vX s) a b = 0 ∨ (0 < df (vX s) a b ∧ b = s 103 0 - 1)); omega) (by unfold rmm; split <;> omega)).symm, rfl⟩
    · refine rb_aload_n hV dX2_badness_23 rfl rfl ?_
      refine rb_iload_n hV dX2_badness_24 rfl rfl ?_
      refine rb_callV hV (rest := []) dX2_badness_25 (c_X2_isEnd s b (by unfold ab_r; omega) (by omega)) lk_X2_81 rfl (Or.inl ⟨2, _, TX2, 8, gw_11 _, rfl⟩) rfl ⟨rfl, rfl, (Nat.le_of_ble_eq_true rfl), (Nat.le_of_ble_eq_true rfl), (Nat.le_of_ble_eq_true rfl), (Nat.le_of_ble_eq_true rfl)⟩ (Nat.le_of_ble_eq_true rfl) (fun r9 h9 p9 => ?_)
      obtain ⟨rfl, rfl⟩ := p9
      by_cases e25 : b = s 103 0 - 1
      · rw [if_pos e25]
        show V 28 [some (.inr (some 11)), some (.inl a), some (.inl b), some (.inl ((s 100 0) - (nt (vX s) a b))), none, none] [.inl 1] (WW s) 0 0
        refine rb_if_eq hV (tgt := 33) dX2_badness_28 (by decide) (by first | assumption | (unfold ab_r at *; omega)) (fun z => absurd z (by decide)) (fun _ => ?_)
        refine rb_iconst hV dX2_badness_31 ?_
        refine rb_ret hV (r := some (.inl 0)) dX2_badness_32 rfl ⟨(Nat.le_of_ble_eq_true rfl), (Nat.le_of_ble_eq_true rfl)⟩ trivial ?_
        exact ⟨congrArg (fun z : Int => some (Sum.inl z)) (xb_0 hp h.1 h.2.1 h.2.2 (by show (df (vX s) a b = 0 ∨ (0 < df (vX s) a b ∧ b = s 103 0 - 1)); omega)).symm, rfl⟩
      · rw [if_neg e25]
        show V 28 [some (.inr (some 11)), some (.inl a), some (.inl b), some (.inl ((s 100 0) - (nt (vX s) a b))), none, none] [.inl 0] (WW s) 0 0
        refine rb_if_eq hV (tgt := 33) dX2_badness_28 (by decide) (by first | assumption | (unfold ab_r at *; omega)) (fun _ => ?_) (fun z => absurd z (by decide))
        refine rb_iload_n hV dX2_badness_33 rfl rfl ?_
        refine rb_if_le hV (tgt := 44) dX2_badness_34 (by decide) (by first | assumption | (unfold ab_r at *; omega)) (fun c34 => absurd c34 (by omega)) (fun c34 => ?_)
        refine rb_aload_n hV dX2_badness_37 rfl rfl ?_
        refine rb_get hV (v := .inr (some 14)) dX2_badness_38 ⟨RX2, TX2, 8, rfl, (Nat.le_of_ble_eq_true rfl), lf_X2_26⟩ (gw_11 _) rfl ?_
        refine rb_goto hV (tgt := 48) dX2_badness_41 (by decide) ?_
        refine rb_astore hV (L2 := [some (.inr (some 11)), some (.inl a), some (.inl b), some (.inl ((s 100 0) - (nt (vX s) a b))), some (.inr (some 14)), none]) dX2_badness_48 (Nat.le_of_ble_eq_true rfl) rfl ?_
        refine rb_aload hV dX2_badness_50 rfl ?_
        refine rb_iload_n hV dX2_badness_52 rfl rfl ?_
        refine rb_callS hV (rest := []) dX2_badness_53 (c_X9_at s 14 _ (s 14) b (gw_14 _) (Nat.le_of_ble_eq_true rfl) (by omega)) lk_X2_52 rfl rfl ⟨rfl, rfl, (Nat.le_of_ble_eq_true rfl), (Nat.le_of_ble_eq_true rfl), (Nat.le_of_ble_eq_true rfl), (Nat.le_of_ble_eq_true rfl)⟩ (Nat.le_of_ble_eq_true rfl) (fun r9 h9 p9 => ?_)
        obtain ⟨rfl, rfl⟩ := p9
        show V 56 [some (.inr (some 11)), some (.inl a), some (.inl b), some (.inl ((s 100 0) - (nt (vX s) a b))), some (.inr (some 14)), none] [.inl (s 14 b)] (WW s) 0 0
        refine rb_aload hV dX2_badness_56 rfl ?_
        refine rb_iload_n hV dX2_badness_58 rfl rfl ?_
        refine rb_callS hV (rest := [.inl (s 14 b)]) dX2_badness_59 (c_X9_at s 14 _ (s 14) a (gw_14 _) (Nat.le_of_ble_eq_true rfl) (by omega)) lk_X2_52 rfl rfl ⟨rfl, rfl, (Nat.le_of_ble_eq_true rfl), (Nat.le_of_ble_eq_true rfl), (Nat.le_of_ble_eq_true rfl), (Nat.le_of_ble_eq_true rfl)⟩ (Nat.le_of_ble_eq_true rfl) (fun r9 h9 p9 => ?_)
        obtain ⟨rfl, rfl⟩ := p9
        show V 62 [some (.inr (some 11)), some (.inl a), some (.inl b), some (.inl ((s 100 0) - (nt (vX s) a b))), some (.inr (some 14)), none] [.inl (s 14 a), .inl (s 14 b)] (WW s) 0 0
        refine rb_isub hV dX2_badness_62 ?_
        refine rb_istore hV (L2 := [some (.inr (some 11)), some (.inl a), some (.inl b), some (.inl ((s 100 0) - (nt (vX s) a b))), some (.inr (some 14)), some (.inl ((s 14 b) - (s 14 a)))]) dX2_badness_63 (Nat.le_of_ble_eq_true rfl) rfl ?_
        refine rb_iload hV dX2_badness_65 rfl ?_
        refine rb_iconst hV dX2_badness_67 ?_
        refine rb_icmp_lt hV (tgt := 80) dX2_badness_68 (by decide) ⟨(by first | assumption | (unfold ab_r at *; omega)), (by first | assumption | (unfold ab_r at *; omega))⟩ (fun c68 => ?_) (fun c68 => ?_)
        · refine rb_iconst hV dX2_badness_80 ?_
          refine rb_ret hV (r := some (.inl (-1))) dX2_badness_81 rfl ⟨(Nat.le_of_ble_eq_true rfl), (Nat.le_of_ble_eq_true rfl)⟩ trivial ?_
          exact ⟨congrArg (fun z : Int => some (Sum.inl z)) (xb_no hp h.1 h.2.1 h.2.2 (by show ¬ (df (vX s) a b = 0 ∨ (0 < df (vX s) a b ∧ b = s 103 0 - 1)); omega) (by unfold rmm; split <;> omega)).symm, rfl⟩
        · refine rb_iload hV dX2_badness_71 rfl ?_
          refine rb_iload_n hV dX2_badness_73 rfl rfl ?_
          refine rb_mabs hV dX2_badness_74 lk_X2_85 (by first | assumption | (unfold ab_r at *; omega)) (Nat.le_of_ble_eq_true rfl) (Nat.le_of_ble_eq_true rfl) ⟨(Nat.le_of_ble_eq_true rfl), (Nat.le_of_ble_eq_true rfl)⟩ ?_
          rw [if_pos (show 0 ≤ ((s 100 0) - (nt (vX s) a b)) by omega)]
          refine rb_icmp_ge hV (tgt := 82) dX2_badness_77 (by decide) ⟨(by first | assumption | (unfold ab_r at *; omega)), (by first | assumption | (unfold ab_r at *; omega))⟩ (fun c77 => ?_) (fun c77 => ?_)
          · refine rb_bipush hV dX2_badness_82 (by decide) ?_
            refine rb_iload_n hV dX2_badness_84 rfl rfl ?_
            refine rb_imul hV dX2_badness_85 ?_
            refine rb_iload_n hV dX2_badness_86 rfl rfl ?_
            refine rb_imul hV dX2_badness_87 ?_
            refine rb_iload hV dX2_badness_88 rfl ?_
            refine rb_iload hV dX2_badness_90 rfl ?_
            refine rb_imul hV dX2_badness_92 ?_
            refine rb_idiv hV dX2_badness_93 (by have e9 := sq_r (x := s 100 0 - nt (vX s) a b) (r := s 14 b - s 14 a) (by omega) (by omega) (by omega) (by omega); unfold ab_r; omega) (by have e9 : 1 * 1 ≤ (s 14 b - s 14 a) * (s 14 b - s 14 a) := Int.mul_le_mul (by omega) (by omega) (by omega) (by omega); omega) ?_
            refine rb_ret hV (r := some (.inl ((((100 * ((s 100 0) - (nt (vX s) a b))) * ((s 100 0) - (nt (vX s) a b)))).tdiv (((s 14 b) - (s 14 a)) * ((s 14 b) - (s 14 a)))))) dX2_badness_94 rfl ⟨(Nat.le_of_ble_eq_true rfl), (Nat.le_of_ble_eq_true rfl)⟩ trivial ?_
            refine ⟨congrArg (fun z : Int => some (Sum.inl z)) ?_, rfl⟩
            rw [(xb_yes hp h.1 h.2.1 h.2.2 (by show ¬ (df (vX s) a b = 0 ∨ (0 < df (vX s) a b ∧ b = s 103 0 - 1)); omega) (by unfold rmm; split <;> omega)).1, hdf, show rmm (vX s) a b = (s 14 b - s 14 a) by unfold rmm; split <;> omega]
          · refine rb_iconst hV dX2_badness_80 ?_
            refine rb_ret hV (r := some (.inl (-1))) dX2_badness_81 rfl ⟨(Nat.le_of_ble_eq_true rfl), (Nat.le_of_ble_eq_true rfl)⟩ trivial ?_
            exact ⟨congrArg (fun z : Int => some (Sum.inl z)) (xb_no hp h.1 h.2.1 h.2.2 (by show ¬ (df (vX s) a b = 0 ∨ (0 < df (vX s) a b ∧ b = s 103 0 - 1)); omega) (by unfold rmm; split <;> omega)).symm, rfl⟩

set_option maxRecDepth 20000 in
theorem c_X2_demerits (s : Nat → Int → Int) (a b : Int) (hp : PI (vX s)) (hr : RU s) (h : 0 ≤ a ∧ a ≤ b ∧ b < s 103 0) : ab_Mt yX2_demerits cX2_demerits 5 (some .int) ({ frames := 2, cells := 0, slots := 0, locals := 49 } : Room) false 0 0 [.inr (some 11), .inl a, .inl b] (WW s) (fun r h2 => r = some (.inl (xd (vX s) a b)) ∧ h2 = WW s) := by
  refine ab_mk RX2 false rfl pn_X2_demerits (fun z => by cases z) (Nat.le_of_ble_eq_true rfl) (fun V hV => ?_)
  show V 0 [some (.inr (some 11)), some (.inl a), some (.inl b), none, none] [] (WW s) 0 0
  have hn : 0 ≤ s 103 0 ∧ s 103 0 ≤ 60 := hp.1
  have hx := xb_b hp h.1 h.2.1 h.2.2
  have hz : 1 ≤ s 7 b ∧ s 7 b ≤ 120 := (hp.2.1 b (by omega) h.2.2).2.1
  refine rb_aload_n hV dX2_demerits_0 rfl rfl ?_
  refine rb_iload_n hV dX2_demerits_1 rfl rfl ?_
  refine rb_iload_n hV dX2_demerits_2 rfl rfl ?_
  refine rb_callV hV (rest := []) dX2_demerits_3 (c_X2_badness s a b hp hr (show 0 ≤ a ∧ a ≤ b ∧ b < (s 103 0) by omega)) lk_X2_91 rfl (Or.inl ⟨2, _, TX2, 8, gw_11 _, rfl⟩) rfl ⟨rfl, rfl, (Nat.le_of_ble_eq_true rfl), (Nat.le_of_ble_eq_true rfl), (Nat.le_of_ble_eq_true rfl), (Nat.le_of_ble_eq_true rfl)⟩ (Nat.le_of_ble_eq_true rfl) (fun r9 h9 p9 => ?_)
  obtain ⟨rfl, rfl⟩ := p9
  show V 6 [some (.inr (some 11)), some (.inl a), some (.inl b), none, none] [.inl (xb (vX s) a b)] (WW s) 0 0
  refine rb_istore_n hV (L2 := [some (.inr (some 11)), some (.inl a), some (.inl b), some (.inl (xb (vX s) a b)), none]) dX2_demerits_6 rfl (Nat.le_of_ble_eq_true rfl) rfl ?_
  refine rb_iload_n hV dX2_demerits_7 rfl rfl ?_
  refine rb_iconst hV dX2_demerits_8 ?_
  refine rb_icmp_ne hV (tgt := 14) dX2_demerits_9 (by decide) ⟨(by first | assumption | (unfold ab_r at *; omega)), (by first | assumption | (unfold ab_r at *; omega))⟩ (fun c9 => ?_) (fun c9 => ?_)
  · refine rb_aload_n hV dX2_demerits_14 rfl rfl ?_
    refine rb_iload_n hV dX2_demerits_15 rfl rfl ?_
    refine rb_callV hV (rest := []) dX2_demerits_16 (c_X2_isEnd s b (by unfold ab_r; omega) (by omega)) lk_X2_81 rfl (Or.inl ⟨2, _, TX2, 8, gw_11 _, rfl⟩) rfl ⟨rfl, rfl, (Nat.le_of_ble_eq_true rfl), (Nat.le_of_ble_eq_true rfl), (Nat.le_of_ble_eq_true rfl), (Nat.le_of_ble_eq_true rfl)⟩ (Nat.le_of_ble_eq_true rfl) (fun r9 h9 p9 => ?_)
    obtain ⟨rfl, rfl⟩ := p9
    by_cases e16 : b = s 103 0 - 1
    · rw [if_pos e16]
      show V 19 [some (.inr (some 11)), some (.inl a), some (.inl b), some (.inl (xb (vX s) a b)), none] [.inl 1] (WW s) 0 0
      refine rb_if_ne hV (tgt := 41) dX2_demerits_19 (by decide) (by first | assumption | (unfold ab_r at *; omega)) (fun _ => ?_) (fun z => absurd z (by decide))
      refine rb_iconst hV dX2_demerits_41 ?_
      refine rb_istore hV (L2 := [some (.inr (some 11)), some (.inl a), some (.inl b), some (.inl (xb (vX s) a b)), some (.inl 0)]) dX2_demerits_42 (Nat.le_of_ble_eq_true rfl) rfl ?_
      refine rb_bipush hV dX2_demerits_44 (by decide) ?_
      refine rb_iload_n hV dX2_demerits_46 rfl rfl ?_
      refine rb_iadd hV dX2_demerits_47 ?_
      refine rb_bipush hV dX2_demerits_48 (by decide) ?_
      refine rb_iload_n hV dX2_demerits_50 rfl rfl ?_
      refine rb_iadd hV dX2_demerits_51 ?_
      refine rb_imul hV dX2_demerits_52 ?_
      refine rb_iload hV dX2_demerits_53 rfl ?_
      refine rb_if_eq hV (tgt := 63) dX2_demerits_55 (by decide) (by first | assumption | (unfold ab_r at *; omega)) (fun _ => ?_) (fun z => absurd z (by decide))
      refine rb_iconst hV dX2_demerits_63 ?_
      refine rb_iadd hV dX2_demerits_64 ?_
      refine rb_ret hV (r := some (.inl (((10 + (xb (vX s) a b)) * (10 + (xb (vX s) a b))) + 0))) dX2_demerits_65 rfl ⟨(Nat.le_of_ble_eq_true rfl), (Nat.le_of_ble_eq_true rfl)⟩ trivial ?_
      exact ⟨congrArg (fun z : Int => some (Sum.inl z)) (xd_y0 c9 (by show ¬ (¬ b = s 103 0 - 1 ∧ s 7 b ≤ 2); omega)).symm, rfl⟩
    · rw [if_neg e16]
      show V 19 [some (.inr (some 11)), some (.inl a), some (.inl b), some (.inl (xb (vX s) a b)), none] [.inl 0] (WW s) 0 0
      refine rb_if_ne hV (tgt := 41) dX2_demerits_19 (by decide) (by first | assumption | (unfold ab_r at *; omega)) (fun z => absurd z (by decide)) (fun _ => ?_)
      refine rb_aload_n hV dX2_demerits_22 rfl rfl ?_
      refine rb_get hV (v := .inr (some 5)) dX2_demerits_23 ⟨RX2, TX2, 8, rfl, (Nat.le_of_ble_eq_true rfl), lf_X2_9⟩ (gw_11 _) rfl ?_
      refine rb_get hV (v := .inr (some 7)) dX2_demerits_26 ⟨RX4, TX4, 6, rfl, (Nat.le_of_ble_eq_true rfl), lf_X2_94⟩ (gw_5 _) rfl ?_
      refine rb_iload_n hV dX2_demerits_29 rfl rfl ?_
      refine rb_callS hV (rest := []) dX2_demerits_30 (c_X9_at s 7 _ (s 7) b (gw_7 _) (Nat.le_of_ble_eq_true rfl) (by omega)) lk_X2_52 rfl rfl ⟨rfl, rfl, (Nat.le_of_ble_eq_true rfl), (Nat.le_of_ble_eq_true rfl), (Nat.le_of_ble_eq_true rfl), (Nat.le_of_ble_eq_true rfl)⟩ (Nat.le_of_ble_eq_true rfl) (fun r9 h9 p9 => ?_)
      obtain ⟨rfl, rfl⟩ := p9
      show V 33 [some (.inr (some 11)), some (.inl a), some (.inl b), some (.inl (xb (vX s) a b)), none] [.inl (s 7 b)] (WW s) 0 0
      refine rb_iconst hV dX2_demerits_33 ?_
      refine rb_icmp_gt hV (tgt := 41) dX2_demerits_34 (by decide) ⟨(by first | assumption | (unfold ab_r at *; omega)), (by first | assumption | (unfold ab_r at *; omega))⟩ (fun c34 => ?_) (fun c34 => ?_)
      · refine rb_iconst hV dX2_demerits_41 ?_
        refine rb_istore hV (L2 := [some (.inr (some 11)), some (.inl a), some (.inl b), some (.inl (xb (vX s) a b)), some (.inl 0)]) dX2_demerits_42 (Nat.le_of_ble_eq_true rfl) rfl ?_
        refine rb_bipush hV dX2_demerits_44 (by decide) ?_
        refine rb_iload_n hV dX2_demerits_46 rfl rfl ?_
        refine rb_iadd hV dX2_demerits_47 ?_
        refine rb_bipush hV dX2_demerits_48 (by decide) ?_
        refine rb_iload_n hV dX2_demerits_50 rfl rfl ?_
        refine rb_iadd hV dX2_demerits_51 ?_
        refine rb_imul hV dX2_demerits_52 ?_
        refine rb_iload hV dX2_demerits_53 rfl ?_
        refine rb_if_eq hV (tgt := 63) dX2_demerits_55 (by decide) (by first | assumption | (unfold ab_r at *; omega)) (fun _ => ?_) (fun z => absurd z (by decide))
        refine rb_iconst hV dX2_demerits_63 ?_
        refine rb_iadd hV dX2_demerits_64 ?_
        refine rb_ret hV (r := some (.inl (((10 + (xb (vX s) a b)) * (10 + (xb (vX s) a b))) + 0))) dX2_demerits_65 rfl ⟨(Nat.le_of_ble_eq_true rfl), (Nat.le_of_ble_eq_true rfl)⟩ trivial ?_
        exact ⟨congrArg (fun z : Int => some (Sum.inl z)) (xd_y0 c9 (by show ¬ (¬ b = s 103 0 - 1 ∧ s 7 b ≤ 2); omega)).symm, rfl⟩
      · refine rb_iconst hV dX2_demerits_37 ?_
        refine rb_goto hV (tgt := 42) dX2_demerits_38 (by decide) ?_
        refine rb_istore hV (L2 := [some (.inr (some 11)), some (.inl a), some (.inl b), some (.inl (xb (vX s) a b)), some (.inl 1)]) dX2_demerits_42 (Nat.le_of_ble_eq_true rfl) rfl ?_
        refine rb_bipush hV dX2_demerits_44 (by decide) ?_
        refine rb_iload_n hV dX2_demerits_46 rfl rfl ?_
        refine rb_iadd hV dX2_demerits_47 ?_
        refine rb_bipush hV dX2_demerits_48 (by decide) ?_
        refine rb_iload_n hV dX2_demerits_50 rfl rfl ?_
        refine rb_iadd hV dX2_demerits_51 ?_
        refine rb_imul hV dX2_demerits_52 ?_
        refine rb_iload hV dX2_demerits_53 rfl ?_
        refine rb_if_eq hV (tgt := 63) dX2_demerits_55 (by decide) (by first | assumption | (unfold ab_r at *; omega)) (fun z => absurd z (by decide)) (fun _ => ?_)
        refine rb_bipush hV dX2_demerits_58 (by decide) ?_
        refine rb_goto hV (tgt := 64) dX2_demerits_60 (by decide) ?_
        refine rb_iadd hV dX2_demerits_64 ?_
        refine rb_ret hV (r := some (.inl (((10 + (xb (vX s) a b)) * (10 + (xb (vX s) a b))) + 100))) dX2_demerits_65 rfl ⟨(Nat.le_of_ble_eq_true rfl), (Nat.le_of_ble_eq_true rfl)⟩ trivial ?_
        exact ⟨congrArg (fun z : Int => some (Sum.inl z)) (xd_y1 c9 (by show ¬ b = s 103 0 - 1 ∧ s 7 b ≤ 2; omega)).symm, rfl⟩
  · refine rb_iconst hV dX2_demerits_12 ?_
    refine rb_ret hV (r := some (.inl (-1))) dX2_demerits_13 rfl ⟨(Nat.le_of_ble_eq_true rfl), (Nat.le_of_ble_eq_true rfl)⟩ trivial ?_
    exact ⟨congrArg (fun z : Int => some (Sum.inl z)) (xd_no hp h.1 h.2.1 h.2.2 c9).symm, rfl⟩

set_option maxRecDepth 20000 in
theorem c_X0_sumWith (s : Nat → Int → Int) (a b : Int) (hp : PI (vX s)) (hr : RU s) (h : 0 ≤ a ∧ a ≤ b ∧ b < s 103 0) (hb : -1 ≤ s 19 (b + 1) ∧ s 19 (b + 1) ≤ 732000) : ab_Mt yX0_sumWith cX0_sumWith 5 (some .int) ({ frames := 3, cells := 0, slots := 0, locals := 73 } : Room) false 0 0 [.inr (some 18), .inl a, .inl b] (WW s) (fun r h2 => r = some (.inl (cd (vX s) (s 19) a b)) ∧ h2 = WW s) := by
  refine ab_mk RX0 false rfl pn_X0_sumWith (fun z => by cases z) (Nat.le_of_ble_eq_true rfl) (fun V hV => ?_)
  show V 0 [some (.inr (some 18)), some (.inl a), some (.inl b), none, none] [] (WW s) 0 0
  have hn : 0 ≤ s 103 0 ∧ s 103 0 ≤ 60 := hp.1
  have hx := xd_b hp h.1 h.2.1 h.2.2
  refine rb_aload_n hV dX0_sumWith_0 rfl rfl ?_
  refine rb_get hV (v := .inr (some 19)) dX0_sumWith_1 ⟨RX0, TX0, 4, rfl, (Nat.le_of_ble_eq_true rfl), lf_X0_19⟩ (gw_18 _) rfl ?_
  refine rb_iload_n hV dX0_sumWith_4 rfl rfl ?_
  refine rb_iconst hV dX0_sumWith_5 ?_
  refine rb_iadd hV dX0_sumWith_6 ?_
  refine rb_callS hV (rest := []) dX0_sumWith_7 (c_X9_at s 19 _ (s 19) (b + 1) (gw_19 _) (Nat.le_of_ble_eq_true rfl) (by omega)) lk_X0_36 rfl rfl ⟨rfl, rfl, (Nat.le_of_ble_eq_true rfl), (Nat.le_of_ble_eq_true rfl), (Nat.le_of_ble_eq_true rfl), (Nat.le_of_ble_eq_true rfl)⟩ (Nat.le_of_ble_eq_true rfl) (fun r9 h9 p9 => ?_)
  obtain ⟨rfl, rfl⟩ := p9
  show V 10 [some (.inr (some 18)), some (.inl a), some (.inl b), none, none] [.inl (s 19 (b + 1))] (WW s) 0 0
  refine rb_istore_n hV (L2 := [some (.inr (some 18)), some (.inl a), some (.inl b), some (.inl (s 19 (b + 1))), none]) dX0_sumWith_10 rfl (Nat.le_of_ble_eq_true rfl) rfl ?_
  refine rb_iload_n hV dX0_sumWith_11 rfl rfl ?_
  refine rb_iconst hV dX0_sumWith_12 ?_
  refine rb_icmp_ne hV (tgt := 18) dX0_sumWith_13 (by decide) ⟨(by first | assumption | (unfold ab_r at *; omega)), (by first | assumption | (unfold ab_r at *; omega))⟩ (fun c13 => ?_) (fun c13 => ?_)
  · refine rb_aload_n hV dX0_sumWith_18 rfl rfl ?_
    refine rb_get hV (v := .inr (some 11)) dX0_sumWith_19 ⟨RX0, TX0, 4, rfl, (Nat.le_of_ble_eq_true rfl), lf_X0_15⟩ (gw_18 _) rfl ?_
    refine rb_iload_n hV dX0_sumWith_22 rfl rfl ?_
    refine rb_iload_n hV dX0_sumWith_23 rfl rfl ?_
    refine rb_callV hV (rest := []) dX0_sumWith_24 (c_X2_demerits s a b hp hr (show 0 ≤ a ∧ a ≤ b ∧ b < (s 103 0) by omega)) lk_X0_40 rfl (Or.inl ⟨2, _, TX2, 8, gw_11 _, rfl⟩) rfl ⟨rfl, rfl, (Nat.le_of_ble_eq_true rfl), (Nat.le_of_ble_eq_true rfl), (Nat.le_of_ble_eq_true rfl), (Nat.le_of_ble_eq_true rfl)⟩ (Nat.le_of_ble_eq_true rfl) (fun r9 h9 p9 => ?_)
    obtain ⟨rfl, rfl⟩ := p9
    show V 27 [some (.inr (some 18)), some (.inl a), some (.inl b), some (.inl (s 19 (b + 1))), none] [.inl (xd (vX s) a b)] (WW s) 0 0
    refine rb_istore hV (L2 := [some (.inr (some 18)), some (.inl a), some (.inl b), some (.inl (s 19 (b + 1))), some (.inl (xd (vX s) a b))]) dX0_sumWith_27 (Nat.le_of_ble_eq_true rfl) rfl ?_
    refine rb_iload hV dX0_sumWith_29 rfl ?_
    refine rb_iconst hV dX0_sumWith_31 ?_
    refine rb_icmp_ne hV (tgt := 39) dX0_sumWith_32 (by decide) ⟨(by first | assumption | (unfold ab_r at *; omega)), (by first | assumption | (unfold ab_r at *; omega))⟩ (fun c32 => ?_) (fun c32 => ?_)
    · refine rb_iload hV dX0_sumWith_39 rfl ?_
      refine rb_iload_n hV dX0_sumWith_41 rfl rfl ?_
      refine rb_iadd hV dX0_sumWith_42 ?_
      refine rb_ret hV (r := some (.inl ((xd (vX s) a b) + (s 19 (b + 1))))) dX0_sumWith_43 rfl ⟨(Nat.le_of_ble_eq_true rfl), (Nat.le_of_ble_eq_true rfl)⟩ trivial ?_
      exact ⟨congrArg (fun z : Int => some (Sum.inl z)) (cd_yes (by omega) (by omega)).symm, rfl⟩
    · refine rb_iconst hV dX0_sumWith_35 ?_
      refine rb_goto hV (tgt := 43) dX0_sumWith_36 (by decide) ?_
      refine rb_ret hV (r := some (.inl (-1))) dX0_sumWith_43 rfl ⟨(Nat.le_of_ble_eq_true rfl), (Nat.le_of_ble_eq_true rfl)⟩ trivial ?_
      exact ⟨congrArg (fun z : Int => some (Sum.inl z)) (cd_no (by omega) hp h.1 h.2.1 h.2.2).symm, rfl⟩
  · refine rb_iconst hV dX0_sumWith_16 ?_
    refine rb_ret hV (r := some (.inl (-1))) dX0_sumWith_17 rfl ⟨(Nat.le_of_ble_eq_true rfl), (Nat.le_of_ble_eq_true rfl)⟩ trivial ?_
    exact ⟨congrArg (fun z : Int => some (Sum.inl z)) (cd_no (by omega) hp h.1 h.2.1 h.2.2).symm, rfl⟩

set_option maxRecDepth 20000 in
theorem c_X0_exists (s : Nat → Int → Int) (hw : 0 ≤ s 103 0 ∧ s 103 0 ≤ 60) (hb : -1 ≤ s 19 0 ∧ s 19 0 ≤ 732000) : ab_Mt yX0_exists cX0_exists 1 (some .boolean) ({ frames := 0, cells := 0, slots := 0, locals := 0 } : Room) false 0 0 [.inr (some 18)] (WW s) (fun r h2 => r = some (.inl (if 0 < s 103 0 ∧ ¬ s 19 0 = -1 then 1 else 0)) ∧ h2 = WW s) := by
  refine ab_mk RX0 false rfl pn_X0_exists (fun z => by cases z) (Nat.le_of_ble_eq_true rfl) (fun V hV => ?_)
  show V 0 [some (.inr (some 18))] [] (WW s) 0 0
  refine rb_aload_n hV dX0_exists_0 rfl rfl ?_
  refine rb_get hV (v := .inr (some 5)) dX0_exists_1 ⟨RX0, TX0, 4, rfl, (Nat.le_of_ble_eq_true rfl), lf_X0_9⟩ (gw_18 _) rfl ?_
  refine rb_get hV (v := .inl (s 103 0)) dX0_exists_4 ⟨RX4, TX4, 6, rfl, (Nat.le_of_ble_eq_true rfl), lf_X0_26⟩ (gw_5 _) rfl ?_
  refine rb_if_le hV (tgt := 24) dX0_exists_7 (by decide) (by first | assumption | (unfold ab_r at *; omega)) (fun c7 => ?_) (fun c7 => ?_)
  · refine rb_iconst hV dX0_exists_24 ?_
    refine rb_ret hV (r := some (.inl 0)) dX0_exists_25 rfl ⟨(Nat.le_of_ble_eq_true rfl), (Nat.le_of_ble_eq_true rfl)⟩ (by first | exact Or.inl rfl | exact Or.inr rfl | omega) ?_
    exact ⟨by first | (rw [if_pos (by omega)]; done) | (rw [if_neg (by omega)]; done), rfl⟩
  · refine rb_aload_n hV dX0_exists_10 rfl rfl ?_
    refine rb_get hV (v := .inr (some 19)) dX0_exists_11 ⟨RX0, TX0, 4, rfl, (Nat.le_of_ble_eq_true rfl), lf_X0_19⟩ (gw_18 _) rfl ?_
    refine rb_iconst hV dX0_exists_14 ?_
    refine rb_iald hV (f := (s 19)) dX0_exists_15 (gw_19 _) (Nat.le_of_ble_eq_true rfl) (by omega) ?_
    refine rb_iconst hV dX0_exists_16 ?_
    refine rb_icmp_eq hV (tgt := 24) dX0_exists_17 (by decide) ⟨(by first | assumption | (unfold ab_r at *; omega)), (by first | assumption | (unfold ab_r at *; omega))⟩ (fun c17 => ?_) (fun c17 => ?_)
    · refine rb_iconst hV dX0_exists_24 ?_
      refine rb_ret hV (r := some (.inl 0)) dX0_exists_25 rfl ⟨(Nat.le_of_ble_eq_true rfl), (Nat.le_of_ble_eq_true rfl)⟩ (by first | exact Or.inl rfl | exact Or.inr rfl | omega) ?_
      exact ⟨by first | (rw [if_pos (by omega)]; done) | (rw [if_neg (by omega)]; done), rfl⟩
    · refine rb_iconst hV dX0_exists_20 ?_
      refine rb_goto hV (tgt := 25) dX0_exists_21 (by decide) ?_
      refine rb_ret hV (r := some (.inl 1)) dX0_exists_25 rfl ⟨(Nat.le_of_ble_eq_true rfl), (Nat.le_of_ble_eq_true rfl)⟩ (by first | exact Or.inl rfl | exact Or.inr rfl | omega) ?_
      exact ⟨by first | (rw [if_pos (by omega)]; done) | (rw [if_neg (by omega)]; done), rfl⟩

set_option maxRecDepth 20000 in
theorem c_X0_find (s : Nat → Int → Int) (hp : PI (vX s)) (hr : RU s) : ab_Mt yX0_find cX0_find 4 none ({ frames := 4, cells := 0, slots := 0, locals := 97 } : Room) false 0 0 [.inr (some 18)] (WW s) (fun r h2 => r = none ∧ ∃ f19 f20, h2 = WW (ab_s (ab_s s 19 f19) 20 f20) ∧ BWp (vX s) f19 f20 (-1)) := by
  refine ab_mk RX0 false rfl pn_X0_find (fun z => by cases z) (Nat.le_of_ble_eq_true rfl) (fun V hV => ?_)
  show V 0 [some (.inr (some 18)), none, none, none] [] (WW s) 0 0
  have hn : 0 ≤ s 103 0 ∧ s 103 0 ≤ 60 := hp.1
  have e0 : vX s 0 0 = s 103 0 := rfl
  refine rb_aload_n hV dX0_find_0 rfl rfl ?_
  refine rb_get hV (v := .inr (some 19)) dX0_find_1 ⟨RX0, TX0, 4, rfl, (Nat.le_of_ble_eq_true rfl), lf_X0_19⟩ (gw_18 _) rfl ?_
  refine rb_aload_n hV dX0_find_4 rfl rfl ?_
  refine rb_get hV (v := .inr (some 5)) dX0_find_5 ⟨RX0, TX0, 4, rfl, (Nat.le_of_ble_eq_true rfl), lf_X0_9⟩ (gw_18 _) rfl ?_
  refine rb_get hV (v := .inl (s 103 0)) dX0_find_8 ⟨RX4, TX4, 6, rfl, (Nat.le_of_ble_eq_true rfl), lf_X0_26⟩ (gw_5 _) rfl ?_
  refine rb_iconst hV dX0_find_11 ?_
  refine rb_iast hV (f := (s 19)) dX0_find_12 (gw_19 _) (Nat.le_of_ble_eq_true rfl) (by omega) rfl (pw_19 _ _) ?_
  refine rb_aload_n hV dX0_find_13 rfl rfl ?_
  refine rb_get hV (v := .inr (some 5)) dX0_find_14 ⟨RX0, TX0, 4, rfl, (Nat.le_of_ble_eq_true rfl), lf_X0_9⟩ (gw_18 _) rfl ?_
  refine rb_get hV (v := .inl (s 103 0)) dX0_find_17 ⟨RX4, TX4, 6, rfl, (Nat.le_of_ble_eq_true rfl), lf_X0_26⟩ (gw_5 _) rfl ?_
  refine rb_iconst hV dX0_find_20 ?_
  refine rb_isub hV dX0_find_21 ?_
  refine rb_istore_n hV (L2 := [some (.inr (some 18)), some (.inl ((s 103 0) - 1)), none, none]) dX0_find_22 rfl (Nat.le_of_ble_eq_true rfl) rfl ?_
  refine rb_heq (b := (ab_s (ab_s s 19 (ab_u (s 19) (s 103 0) 0)) 20 (s 20))) (ab_s_id rfl).symm ?_
  have h23 : ∀ (n23 : Nat) (a : Int) (f19 : Int → Int) (f20 : Int → Int), (-1 ≤ a ∧ a < s 103 0) → (BWp (vX s) f19 f20 a) → ((a + 1).toNat) < n23 → V 23 [some (.inr (some 18)), some (.inl a), none, none] [] (WW (ab_s (ab_s s 19 f19) 20 f20)) 0 0 := by
    intro n23
    induction n23 with
    | zero => intro a f19 f20 h1 h2 hm; omega
    | succ n23 ih23 =>
      intro a f19 f20 h1 h2 hm
      refine rb_iload_n hV dX0_find_23 rfl rfl ?_
      refine rb_if_lt hV (tgt := 112) dX0_find_24 (by decide) (by first | assumption | (unfold ab_r at *; omega)) (fun c24 => ?_) (fun c24 => ?_)
      · refine rb_ret hV (r := none) dX0_find_112 rfl ⟨(Nat.le_of_ble_eq_true rfl), (Nat.le_of_ble_eq_true rfl)⟩ trivial ?_
        have e : a = -1 := by omega
        exact ⟨rfl, f19, f20, rfl, e ▸ h2⟩
      · refine rb_aload_n hV dX0_find_27 rfl rfl ?_
        refine rb_get hV (v := .inr (some 19)) dX0_find_28 ⟨RX0, TX0, 4, rfl, (Nat.le_of_ble_eq_true rfl), lf_X0_19⟩ (gw_18 _) rfl ?_
        refine rb_iload_n hV dX0_find_31 rfl rfl ?_
        refine rb_iconst hV dX0_find_32 ?_
        refine rb_iast hV (f := (f19)) dX0_find_33 (gw_19 _) (Nat.le_of_ble_eq_true rfl) (by omega) rfl ((pw_19 _ _).trans (congrArg WW ((ab_s_sw (by decide)).trans (congrArg (fun x => ab_s x 20 _) (ab_s_same _ 19 _ _))))) ?_
        refine rb_aload_n hV dX0_find_34 rfl rfl ?_
        refine rb_get hV (v := .inr (some 20)) dX0_find_35 ⟨RX0, TX0, 4, rfl, (Nat.le_of_ble_eq_true rfl), lf_X0_23⟩ (gw_18 _) rfl ?_
        refine rb_iload_n hV dX0_find_38 rfl rfl ?_
        refine rb_iconst hV dX0_find_39 ?_
        refine rb_iast hV (f := (f20)) dX0_find_40 (gw_20 _) (Nat.le_of_ble_eq_true rfl) (by omega) rfl ((pw_20 _ _).trans (congrArg WW (ab_s_same _ 20 _ _))) ?_
        refine rb_iload_n hV dX0_find_41 rfl rfl ?_
        refine rb_istore_n hV (L2 := [some (.inr (some 18)), some (.inl a), some (.inl a), none]) dX0_find_42 rfl (Nat.le_of_ble_eq_true rfl) rfl ?_
        have h43 : ∀ (n43 : Nat) (b : Int) (g19 : Int → Int) (g20 : Int → Int), (a ≤ b ∧ b ≤ s 103 0) → (∀ j, ¬ j = a → g19 j = f19 j ∧ g20 j = f20 j) → (g19 a = (am (cd (vX s) f19 a) a (b - a).toNat).1 ∧ g20 a = (am (cd (vX s) f19 a) a (b - a).toNat).2) → ((s 103 0 - b).toNat) < n43 → V 43 [some (.inr (some 18)), some (.inl a), some (.inl b), none] [] (WW (ab_s (ab_s s 19 g19) 20 g20)) 0 0 := by
          intro n43
          induction n43 with
          | zero => intro b g19 g20 q1 q2 q3 hm; omega
          | succ n43 ih43 =>
            intro b g19 g20 q1 q2 q3 hm
            refine rb_iload_n hV dX0_find_43 rfl rfl ?_
            refine rb_aload_n hV dX0_find_44 rfl rfl ?_
            refine rb_get hV (v := .inr (some 5)) dX0_find_45 ⟨RX0, TX0, 4, rfl, (Nat.le_of_ble_eq_true rfl), lf_X0_9⟩ (gw_18 _) rfl ?_
            refine rb_get hV (v := .inl (s 103 0)) dX0_find_48 ⟨RX4, TX4, 6, rfl, (Nat.le_of_ble_eq_true rfl), lf_X0_26⟩ (gw_5 _) rfl ?_
            refine rb_icmp_ge hV (tgt := 106) dX0_find_51 (by decide) ⟨(by first | assumption | (unfold ab_r at *; omega)), (by first | assumption | (unfold ab_r at *; omega))⟩ (fun c51 => ?_) (fun c51 => ?_)
            · refine rb_iinc hV (L2 := [some (.inr (some 18)), some (.inl (a + (-1))), some (.inl b), none]) dX0_find_106 rfl rfl rfl ?_
              refine rb_goto hV (tgt := 23) dX0_find_109 (by decide) ?_
              refine rb_weak hV (L2 := [some (.inr (some 18)), some (.inl (a + (-1))), none, none]) ⟨rfl, ⟨rfl, trivial⟩⟩ ?_
              refine ih23 (a + (-1)) (g19) (g20) ?_ ?_ ?_
              · omega
              · exact BWp_step hp (by omega) h1.2 h2 q2 (by rw [q3.1, show b = s 103 0 by omega]; rfl) (by rw [q3.2, show b = s 103 0 by omega]; rfl)
              · omega
            · have hB := bw_hb hp (by omega) q1.1 (show b < s 103 0 by omega) h2 q2 q3
              refine rb_aload_n hV dX0_find_54 rfl rfl ?_
              refine rb_iload_n hV dX0_find_55 rfl rfl ?_
              refine rb_iload_n hV dX0_find_56 rfl rfl ?_
              refine rb_callV hV (rest := []) dX0_find_57 (c_X0_sumWith (ab_s (ab_s s 19 g19) 20 g20) a b hp hr (show 0 ≤ a ∧ a ≤ b ∧ b < (s 103 0) by omega) hB.1) lk_X0_32 rfl (Or.inl ⟨0, _, TX0, 4, gw_18 _, rfl⟩) rfl ⟨rfl, rfl, (Nat.le_of_ble_eq_true rfl), (Nat.le_of_ble_eq_true rfl), (Nat.le_of_ble_eq_true rfl), (Nat.le_of_ble_eq_true rfl)⟩ (Nat.le_of_ble_eq_true rfl) (fun r9 h9 p9 => ?_)
              obtain ⟨rfl, rfl⟩ := p9
              show V 60 [some (.inr (some 18)), some (.inl a), some (.inl b), none] [.inl (cd (vX s) (g19) a b)] (WW (ab_s (ab_s s 19 g19) 20 g20)) 0 0
              refine rb_istore_n hV (L2 := [some (.inr (some 18)), some (.inl a), some (.inl b), some (.inl (cd (vX s) (g19) a b))]) dX0_find_60 rfl (Nat.le_of_ble_eq_true rfl) rfl ?_
              refine rb_iload_n hV dX0_find_61 rfl rfl ?_
              refine rb_iconst hV dX0_find_62 ?_
              refine rb_icmp_eq hV (tgt := 100) dX0_find_63 (by decide) ⟨(by first | assumption | (unfold ab_r at *; omega)), (by first | assumption | (unfold ab_r at *; omega))⟩ (fun c63 => ?_) (fun c63 => ?_)
              · refine rb_iinc hV (L2 := [some (.inr (some 18)), some (.inl a), some (.inl (b + 1)), some (.inl (cd (vX s) (g19) a b))]) dX0_find_100 rfl rfl rfl ?_
                refine rb_goto hV (tgt := 43) dX0_find_103 (by decide) ?_
                refine rb_weak hV (L2 := [some (.inr (some 18)), some (.inl a), some (.inl (b + 1)), none]) ⟨rfl, ⟨rfl, ⟨rfl, trivial⟩⟩⟩ ?_
                refine ih43 (b + 1) (g19) (g20) ?_ ?_ ?_ ?_
                · omega
                · exact q2
                · exact bw_skip q1.1 q2 q3 (by omega)
                · omega
              · refine rb_aload_n hV dX0_find_66 rfl rfl ?_
                refine rb_get hV (v := .inr (some 19)) dX0_find_67 ⟨RX0, TX0, 4, rfl, (Nat.le_of_ble_eq_true rfl), lf_X0_19⟩ (gw_18 _) rfl ?_
                refine rb_iload_n hV dX0_find_70 rfl rfl ?_
                refine rb_iald hV (f := (g19)) dX0_find_71 (gw_19 _) (Nat.le_of_ble_eq_true rfl) (by omega) ?_
                refine rb_iconst hV dX0_find_72 ?_
                refine rb_icmp_eq hV (tgt := 86) dX0_find_73 (by decide) ⟨(by first | assumption | (unfold ab_r at *; omega)), (by first | assumption | (unfold ab_r at *; omega))⟩ (fun c73 => ?_) (fun c73 => ?_)
                · refine rb_aload_n hV dX0_find_86 rfl rfl ?_
                  refine rb_get hV (v := .inr (some 19)) dX0_find_87 ⟨RX0, TX0, 4, rfl, (Nat.le_of_ble_eq_true rfl), lf_X0_19⟩ (gw_18 _) rfl ?_
                  refine rb_iload_n hV dX0_find_90 rfl rfl ?_
                  refine rb_iload_n hV dX0_find_91 rfl rfl ?_
                  refine rb_iast hV (f := (g19)) dX0_find_92 (gw_19 _) (Nat.le_of_ble_eq_true rfl) (by omega) rfl ((pw_19 _ _).trans (congrArg WW ((ab_s_sw (by decide)).trans (congrArg (fun x => ab_s x 20 _) (ab_s_same _ 19 _ _))))) ?_
                  refine rb_aload_n hV dX0_find_93 rfl rfl ?_
                  refine rb_get hV (v := .inr (some 20)) dX0_find_94 ⟨RX0, TX0, 4, rfl, (Nat.le_of_ble_eq_true rfl), lf_X0_23⟩ (gw_18 _) rfl ?_
                  refine rb_iload_n hV dX0_find_97 rfl rfl ?_
                  refine rb_iload_n hV dX0_find_98 rfl rfl ?_
                  refine rb_iast hV (f := (g20)) dX0_find_99 (gw_20 _) (Nat.le_of_ble_eq_true rfl) (by omega) rfl ((pw_20 _ _).trans (congrArg WW (ab_s_same _ 20 _ _))) ?_
                  refine rb_iinc hV (L2 := [some (.inr (some 18)), some (.inl a), some (.inl (b + 1)), some (.inl (cd (vX s) (g19) a b))]) dX0_find_100 rfl rfl rfl ?_
                  refine rb_goto hV (tgt := 43) dX0_find_103 (by decide) ?_
                  refine rb_weak hV (L2 := [some (.inr (some 18)), some (.inl a), some (.inl (b + 1)), none]) ⟨rfl, ⟨rfl, ⟨rfl, trivial⟩⟩⟩ ?_
                  refine ih43 (b + 1) (ab_u (g19) a (cd (vX s) (g19) a b)) (ab_u (g20) a b) ?_ ?_ ?_ ?_
                  · omega
                  · exact fun j hj => ⟨(if_neg hj).trans (q2 j hj).1, (if_neg hj).trans (q2 j hj).2⟩
                  · exact bw_take q1.1 q2 q3 (by omega) (by omega) (by omega)
                  · omega
                · refine rb_iload_n hV dX0_find_76 rfl rfl ?_
                  refine rb_aload_n hV dX0_find_77 rfl rfl ?_
                  refine rb_get hV (v := .inr (some 19)) dX0_find_78 ⟨RX0, TX0, 4, rfl, (Nat.le_of_ble_eq_true rfl), lf_X0_19⟩ (gw_18 _) rfl ?_
                  refine rb_iload_n hV dX0_find_81 rfl rfl ?_
                  refine rb_iald hV (f := (g19)) dX0_find_82 (gw_19 _) (Nat.le_of_ble_eq_true rfl) (by omega) ?_
                  refine rb_icmp_gt hV (tgt := 100) dX0_find_83 (by decide) ⟨(by first | assumption | (unfold ab_r at *; omega)), (by first | assumption | (unfold ab_r at *; omega))⟩ (fun c83 => ?_) (fun c83 => ?_)
                  · refine rb_iinc hV (L2 := [some (.inr (some 18)), some (.inl a), some (.inl (b + 1)), some (.inl (cd (vX s) (g19) a b))]) dX0_find_100 rfl rfl rfl ?_
                    refine rb_goto hV (tgt := 43) dX0_find_103 (by decide) ?_
                    refine rb_weak hV (L2 := [some (.inr (some 18)), some (.inl a), some (.inl (b + 1)), none]) ⟨rfl, ⟨rfl, ⟨rfl, trivial⟩⟩⟩ ?_
                    refine ih43 (b + 1) (g19) (g20) ?_ ?_ ?_ ?_
                    · omega
                    · exact q2
                    · exact bw_skip q1.1 q2 q3 (by omega)
                    · omega
                  · refine rb_aload_n hV dX0_find_86 rfl rfl ?_
                    refine rb_get hV (v := .inr (some 19)) dX0_find_87 ⟨RX0, TX0, 4, rfl, (Nat.le_of_ble_eq_true rfl), lf_X0_19⟩ (gw_18 _) rfl ?_
                    refine rb_iload_n hV dX0_find_90 rfl rfl ?_
                    refine rb_iload_n hV dX0_find_91 rfl rfl ?_
                    refine rb_iast hV (f := (g19)) dX0_find_92 (gw_19 _) (Nat.le_of_ble_eq_true rfl) (by omega) rfl ((pw_19 _ _).trans (congrArg WW ((ab_s_sw (by decide)).trans (congrArg (fun x => ab_s x 20 _) (ab_s_same _ 19 _ _))))) ?_
                    refine rb_aload_n hV dX0_find_93 rfl rfl ?_
                    refine rb_get hV (v := .inr (some 20)) dX0_find_94 ⟨RX0, TX0, 4, rfl, (Nat.le_of_ble_eq_true rfl), lf_X0_23⟩ (gw_18 _) rfl ?_
                    refine rb_iload_n hV dX0_find_97 rfl rfl ?_
                    refine rb_iload_n hV dX0_find_98 rfl rfl ?_
                    refine rb_iast hV (f := (g20)) dX0_find_99 (gw_20 _) (Nat.le_of_ble_eq_true rfl) (by omega) rfl ((pw_20 _ _).trans (congrArg WW (ab_s_same _ 20 _ _))) ?_
                    refine rb_iinc hV (L2 := [some (.inr (some 18)), some (.inl a), some (.inl (b + 1)), some (.inl (cd (vX s) (g19) a b))]) dX0_find_100 rfl rfl rfl ?_
                    refine rb_goto hV (tgt := 43) dX0_find_103 (by decide) ?_
                    refine rb_weak hV (L2 := [some (.inr (some 18)), some (.inl a), some (.inl (b + 1)), none]) ⟨rfl, ⟨rfl, ⟨rfl, trivial⟩⟩⟩ ?_
                    refine ih43 (b + 1) (ab_u (g19) a (cd (vX s) (g19) a b)) (ab_u (g20) a b) ?_ ?_ ?_ ?_
                    · omega
                    · exact fun j hj => ⟨(if_neg hj).trans (q2 j hj).1, (if_neg hj).trans (q2 j hj).2⟩
                    · exact bw_take q1.1 q2 q3 (by omega) (by omega) (by omega)
                    · omega
        refine h43 _ a (ab_u (f19) a (-1)) (ab_u (f20) a (-1)) ?_ ?_ ?_ (Nat.lt_succ_self _)
        · omega
        · exact fun j hj => ⟨if_neg hj, if_neg hj⟩
        · rw [am_0]; exact ⟨if_pos rfl, if_pos rfl⟩
  refine h23 _ ((s 103 0) - 1) (ab_u (s 19) (s 103 0) 0) (s 20) ?_ ?_ (Nat.lt_succ_self _)
  · omega
  · exact ⟨if_pos rfl, fun j j1 j2 => absurd (show s 103 0 ≤ j by omega) (show ¬ s 103 0 ≤ j from Int.not_le.mpr j2), fun j j1 j2 => by
      have e : j = s 103 0 := by omega
      subst e
      rw [show ab_u (s 19) (s 103 0) 0 (s 103 0) = 0 from if_pos rfl]
      omega⟩
end
