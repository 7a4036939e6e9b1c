section
-- ===== PART A: goes FIRST, ahead of the names: the tables' words, and 'selects' of the private methods out of them =====
/-- a private method of a class that the tables say can be made, by its rows of tables_1 -/
def lw_okq (q : MethodName × Nat) : Prop := (q.1.cls ≠ "java/lang/invoke/MethodHandle" ∧ q.1.cls ≠ "java/lang/invoke/VarHandle") ∧ Cond.instantiable q.1.cls q.2 ∈ tables_1 ∧ Cond.privateMethod q.1 ∈ tables_1 ∧ Cond.instanceMethod q.1 ∈ tables_1
theorem lw_p0 : lw_okq (⟨"RiverJustifier$Paragraph", "openWord", "(C)V"⟩, 6) := ⟨⟨by decide +kernel, by decide +kernel⟩, List.mem_of_getElem? (i := 72) (by decide +kernel), List.mem_of_getElem? (i := 447) (by decide +kernel), List.mem_of_getElem? (i := 448) (by decide +kernel)⟩
theorem lw_p1 : lw_okq (⟨"RiverJustifier$Paragraph", "lengthenWord", "(C)V"⟩, 6) := ⟨⟨by decide +kernel, by decide +kernel⟩, List.mem_of_getElem? (i := 72) (by decide +kernel), List.mem_of_getElem? (i := 456) (by decide +kernel), List.mem_of_getElem? (i := 457) (by decide +kernel)⟩
theorem lw_p2 : lw_okq (⟨"RiverJustifier", "restoreBest", "()I"⟩, 8) := ⟨⟨by decide +kernel, by decide +kernel⟩, List.mem_of_getElem? (i := 19) (by decide +kernel), List.mem_of_getElem? (i := 469) (by decide +kernel), List.mem_of_getElem? (i := 470) (by decide +kernel)⟩
theorem lw_p3 : lw_okq (⟨"RiverJustifier$Layout", "goOnFrom", "(I)V"⟩, 12) := ⟨⟨by decide +kernel, by decide +kernel⟩, List.mem_of_getElem? (i := 199) (by decide +kernel), List.mem_of_getElem? (i := 516) (by decide +kernel), List.mem_of_getElem? (i := 517) (by decide +kernel)⟩
theorem lw_p4 : lw_okq (⟨"RiverJustifier$Layout", "settle", "()V"⟩, 12) := ⟨⟨by decide +kernel, by decide +kernel⟩, List.mem_of_getElem? (i := 199) (by decide +kernel), List.mem_of_getElem? (i := 521) (by decide +kernel), List.mem_of_getElem? (i := 522) (by decide +kernel)⟩
theorem lw_p5 : lw_okq (⟨"RiverJustifier$Layout", "shareOut", "(II)V"⟩, 12) := ⟨⟨by decide +kernel, by decide +kernel⟩, List.mem_of_getElem? (i := 199) (by decide +kernel), List.mem_of_getElem? (i := 542) (by decide +kernel), List.mem_of_getElem? (i := 543) (by decide +kernel)⟩
theorem lw_p6 : lw_okq (⟨"RiverJustifier$Layout", "changeKind", "(IIIII)I"⟩, 12) := ⟨⟨by decide +kernel, by decide +kernel⟩, List.mem_of_getElem? (i := 199) (by decide +kernel), List.mem_of_getElem? (i := 549) (by decide +kernel), List.mem_of_getElem? (i := 550) (by decide +kernel)⟩
theorem lw_p7 : lw_okq (⟨"RiverJustifier$Layout", "placeWords", "(III)V"⟩, 12) := ⟨⟨by decide +kernel, by decide +kernel⟩, List.mem_of_getElem? (i := 199) (by decide +kernel), List.mem_of_getElem? (i := 553) (by decide +kernel), List.mem_of_getElem? (i := 554) (by decide +kernel)⟩
theorem lw_p8 : lw_okq (⟨"RiverJustifier$Rivers", "spaceAbove", "(LRiverJustifier$Layout;II)I"⟩, 8) := ⟨⟨by decide +kernel, by decide +kernel⟩, List.mem_of_getElem? (i := 205) (by decide +kernel), List.mem_of_getElem? (i := 566) (by decide +kernel), List.mem_of_getElem? (i := 567) (by decide +kernel)⟩
theorem lw_p9 : lw_okq (⟨"RiverJustifier$Rivers", "collectEnds", "(LRiverJustifier$Layout;I)V"⟩, 8) := ⟨⟨by decide +kernel, by decide +kernel⟩, List.mem_of_getElem? (i := 205) (by decide +kernel), List.mem_of_getElem? (i := 574) (by decide +kernel), List.mem_of_getElem? (i := 575) (by decide +kernel)⟩
theorem lw_p10 : lw_okq (⟨"RiverJustifier$Order", "takePiece", "(LRiverJustifier$Text;III)Z"⟩, 3) := ⟨⟨by decide +kernel, by decide +kernel⟩, List.mem_of_getElem? (i := 183) (by decide +kernel), List.mem_of_getElem? (i := 591) (by decide +kernel), List.mem_of_getElem? (i := 592) (by decide +kernel)⟩
theorem lw_p11 : lw_okq (⟨"RiverJustifier$Order", "wantedPieces", "()I"⟩, 3) := ⟨⟨by decide +kernel, by decide +kernel⟩, List.mem_of_getElem? (i := 183) (by decide +kernel), List.mem_of_getElem? (i := 627) (by decide +kernel), List.mem_of_getElem? (i := 628) (by decide +kernel)⟩
theorem lw_p12 : lw_okq (⟨"RiverJustifier$Order", "takeNumber", "(II)Z"⟩, 3) := ⟨⟨by decide +kernel, by decide +kernel⟩, List.mem_of_getElem? (i := 183) (by decide +kernel), List.mem_of_getElem? (i := 636) (by decide +kernel), List.mem_of_getElem? (i := 637) (by decide +kernel)⟩
theorem lw_p13 : lw_okq (⟨"RiverJustifier$Order", "leastNumber", "(I)I"⟩, 3) := ⟨⟨by decide +kernel, by decide +kernel⟩, List.mem_of_getElem? (i := 183) (by decide +kernel), List.mem_of_getElem? (i := 640) (by decide +kernel), List.mem_of_getElem? (i := 641) (by decide +kernel)⟩
theorem lw_p14 : lw_okq (⟨"RiverJustifier$Order", "greatestNumber", "()I"⟩, 3) := ⟨⟨by decide +kernel, by decide +kernel⟩, List.mem_of_getElem? (i := 183) (by decide +kernel), List.mem_of_getElem? (i := 645) (by decide +kernel), List.mem_of_getElem? (i := 646) (by decide +kernel)⟩
theorem lw_p15 : lw_okq (⟨"RiverJustifier", "calmingLine", "()I"⟩, 8) := ⟨⟨by decide +kernel, by decide +kernel⟩, List.mem_of_getElem? (i := 19) (by decide +kernel), List.mem_of_getElem? (i := 706) (by decide +kernel), List.mem_of_getElem? (i := 707) (by decide +kernel)⟩
def lw_privs_1 : List (MethodName × Nat) := [(⟨"RiverJustifier$Paragraph", "openWord", "(C)V"⟩, 6), (⟨"RiverJustifier$Paragraph", "lengthenWord", "(C)V"⟩, 6), (⟨"RiverJustifier", "restoreBest", "()I"⟩, 8), (⟨"RiverJustifier$Layout", "goOnFrom", "(I)V"⟩, 12), (⟨"RiverJustifier$Layout", "settle", "()V"⟩, 12), (⟨"RiverJustifier$Layout", "shareOut", "(II)V"⟩, 12), (⟨"RiverJustifier$Layout", "changeKind", "(IIIII)I"⟩, 12), (⟨"RiverJustifier$Layout", "placeWords", "(III)V"⟩, 12), (⟨"RiverJustifier$Rivers", "spaceAbove", "(LRiverJustifier$Layout;II)I"⟩, 8), (⟨"RiverJustifier$Rivers", "collectEnds", "(LRiverJustifier$Layout;I)V"⟩, 8), (⟨"RiverJustifier$Order", "takePiece", "(LRiverJustifier$Text;III)Z"⟩, 3), (⟨"RiverJustifier$Order", "wantedPieces", "()I"⟩, 3), (⟨"RiverJustifier$Order", "takeNumber", "(II)Z"⟩, 3), (⟨"RiverJustifier$Order", "leastNumber", "(I)I"⟩, 3), (⟨"RiverJustifier$Order", "greatestNumber", "()I"⟩, 3), (⟨"RiverJustifier", "calmingLine", "()I"⟩, 8)]
theorem lw_r1 : ∀ q ∈ lw_privs_1, lw_okq q := List.forall_mem_cons.mpr ⟨lw_p0, List.forall_mem_cons.mpr ⟨lw_p1, List.forall_mem_cons.mpr ⟨lw_p2, List.forall_mem_cons.mpr ⟨lw_p3, List.forall_mem_cons.mpr ⟨lw_p4, List.forall_mem_cons.mpr ⟨lw_p5, List.forall_mem_cons.mpr ⟨lw_p6, List.forall_mem_cons.mpr ⟨lw_p7, List.forall_mem_cons.mpr ⟨lw_p8, List.forall_mem_cons.mpr ⟨lw_p9, List.forall_mem_cons.mpr ⟨lw_p10, List.forall_mem_cons.mpr ⟨lw_p11, List.forall_mem_cons.mpr ⟨lw_p12, List.forall_mem_cons.mpr ⟨lw_p13, List.forall_mem_cons.mpr ⟨lw_p14, List.forall_mem_cons.mpr ⟨lw_p15, fun _ h => absurd h List.not_mem_nil⟩⟩⟩⟩⟩⟩⟩⟩⟩⟩⟩⟩⟩⟩⟩⟩
theorem lw_p16 : lw_okq (⟨"RiverJustifierModel", "layAnew", "()V"⟩, 24) := ⟨⟨by decide +kernel, by decide +kernel⟩, List.mem_of_getElem? (i := 773) (by decide +kernel), List.mem_of_getElem? (i := 779) (by decide +kernel), List.mem_of_getElem? (i := 780) (by decide +kernel)⟩
theorem lw_p17 : lw_okq (⟨"RiverJustifierModel", "findWays", "()V"⟩, 24) := ⟨⟨by decide +kernel, by decide +kernel⟩, List.mem_of_getElem? (i := 773) (by decide +kernel), List.mem_of_getElem? (i := 783) (by decide +kernel), List.mem_of_getElem? (i := 784) (by decide +kernel)⟩
theorem lw_p18 : lw_okq (⟨"RiverJustifierModel", "isPossible", "(II)Z"⟩, 24) := ⟨⟨by decide +kernel, by decide +kernel⟩, List.mem_of_getElem? (i := 773) (by decide +kernel), List.mem_of_getElem? (i := 787) (by decide +kernel), List.mem_of_getElem? (i := 788) (by decide +kernel)⟩
theorem lw_p19 : lw_okq (⟨"RiverJustifierModel", "difference", "(II)I"⟩, 24) := ⟨⟨by decide +kernel, by decide +kernel⟩, List.mem_of_getElem? (i := 773) (by decide +kernel), List.mem_of_getElem? (i := 791) (by decide +kernel), List.mem_of_getElem? (i := 792) (by decide +kernel)⟩
theorem lw_p20 : lw_okq (⟨"RiverJustifierModel", "natural", "(II)I"⟩, 24) := ⟨⟨by decide +kernel, by decide +kernel⟩, List.mem_of_getElem? (i := 773) (by decide +kernel), List.mem_of_getElem? (i := 795) (by decide +kernel), List.mem_of_getElem? (i := 796) (by decide +kernel)⟩
theorem lw_p21 : lw_okq (⟨"RiverJustifierModel", "spaces", "(III)I"⟩, 24) := ⟨⟨by decide +kernel, by decide +kernel⟩, List.mem_of_getElem? (i := 773) (by decide +kernel), List.mem_of_getElem? (i := 799) (by decide +kernel), List.mem_of_getElem? (i := 800) (by decide +kernel)⟩
theorem lw_p22 : lw_okq (⟨"RiverJustifierModel", "hangLeft", "(I)I"⟩, 24) := ⟨⟨by decide +kernel, by decide +kernel⟩, List.mem_of_getElem? (i := 773) (by decide +kernel), List.mem_of_getElem? (i := 803) (by decide +kernel), List.mem_of_getElem? (i := 804) (by decide +kernel)⟩
theorem lw_p23 : lw_okq (⟨"RiverJustifierModel", "hangRight", "(I)I"⟩, 24) := ⟨⟨by decide +kernel, by decide +kernel⟩, List.mem_of_getElem? (i := 773) (by decide +kernel), List.mem_of_getElem? (i := 807) (by decide +kernel), List.mem_of_getElem? (i := 808) (by decide +kernel)⟩
theorem lw_p24 : lw_okq (⟨"RiverJustifierModel", "isLast", "(I)Z"⟩, 24) := ⟨⟨by decide +kernel, by decide +kernel⟩, List.mem_of_getElem? (i := 773) (by decide +kernel), List.mem_of_getElem? (i := 811) (by decide +kernel), List.mem_of_getElem? (i := 812) (by decide +kernel)⟩
theorem lw_p25 : lw_okq (⟨"RiverJustifierModel", "demerits", "(II)I"⟩, 24) := ⟨⟨by decide +kernel, by decide +kernel⟩, List.mem_of_getElem? (i := 773) (by decide +kernel), List.mem_of_getElem? (i := 815) (by decide +kernel), List.mem_of_getElem? (i := 816) (by decide +kernel)⟩
theorem lw_p26 : lw_okq (⟨"RiverJustifierModel", "badness", "(II)I"⟩, 24) := ⟨⟨by decide +kernel, by decide +kernel⟩, List.mem_of_getElem? (i := 773) (by decide +kernel), List.mem_of_getElem? (i := 819) (by decide +kernel), List.mem_of_getElem? (i := 820) (by decide +kernel)⟩
theorem lw_p27 : lw_okq (⟨"RiverJustifierModel", "hasWay", "()Z"⟩, 24) := ⟨⟨by decide +kernel, by decide +kernel⟩, List.mem_of_getElem? (i := 773) (by decide +kernel), List.mem_of_getElem? (i := 823) (by decide +kernel), List.mem_of_getElem? (i := 824) (by decide +kernel)⟩
theorem lw_p28 : lw_okq (⟨"RiverJustifierModel", "goOn", "(II)V"⟩, 24) := ⟨⟨by decide +kernel, by decide +kernel⟩, List.mem_of_getElem? (i := 773) (by decide +kernel), List.mem_of_getElem? (i := 827) (by decide +kernel), List.mem_of_getElem? (i := 828) (by decide +kernel)⟩
theorem lw_p29 : lw_okq (⟨"RiverJustifierModel", "layOut", "()V"⟩, 24) := ⟨⟨by decide +kernel, by decide +kernel⟩, List.mem_of_getElem? (i := 773) (by decide +kernel), List.mem_of_getElem? (i := 831) (by decide +kernel), List.mem_of_getElem? (i := 832) (by decide +kernel)⟩
theorem lw_p30 : lw_okq (⟨"RiverJustifierModel", "layLine", "(I)V"⟩, 24) := ⟨⟨by decide +kernel, by decide +kernel⟩, List.mem_of_getElem? (i := 773) (by decide +kernel), List.mem_of_getElem? (i := 835) (by decide +kernel), List.mem_of_getElem? (i := 836) (by decide +kernel)⟩
theorem lw_p31 : lw_okq (⟨"RiverJustifierModel", "lastOf", "(I)I"⟩, 24) := ⟨⟨by decide +kernel, by decide +kernel⟩, List.mem_of_getElem? (i := 773) (by decide +kernel), List.mem_of_getElem? (i := 839) (by decide +kernel), List.mem_of_getElem? (i := 840) (by decide +kernel)⟩
def lw_privs_2 : List (MethodName × Nat) := [(⟨"RiverJustifierModel", "layAnew", "()V"⟩, 24), (⟨"RiverJustifierModel", "findWays", "()V"⟩, 24), (⟨"RiverJustifierModel", "isPossible", "(II)Z"⟩, 24), (⟨"RiverJustifierModel", "difference", "(II)I"⟩, 24), (⟨"RiverJustifierModel", "natural", "(II)I"⟩, 24), (⟨"RiverJustifierModel", "spaces", "(III)I"⟩, 24), (⟨"RiverJustifierModel", "hangLeft", "(I)I"⟩, 24), (⟨"RiverJustifierModel", "hangRight", "(I)I"⟩, 24), (⟨"RiverJustifierModel", "isLast", "(I)Z"⟩, 24), (⟨"RiverJustifierModel", "demerits", "(II)I"⟩, 24), (⟨"RiverJustifierModel", "badness", "(II)I"⟩, 24), (⟨"RiverJustifierModel", "hasWay", "()Z"⟩, 24), (⟨"RiverJustifierModel", "goOn", "(II)V"⟩, 24), (⟨"RiverJustifierModel", "layOut", "()V"⟩, 24), (⟨"RiverJustifierModel", "layLine", "(I)V"⟩, 24), (⟨"RiverJustifierModel", "lastOf", "(I)I"⟩, 24)]
theorem lw_r2 : ∀ q ∈ lw_privs_2, lw_okq q := List.forall_mem_cons.mpr ⟨lw_p16, List.forall_mem_cons.mpr ⟨lw_p17, List.forall_mem_cons.mpr ⟨lw_p18, List.forall_mem_cons.mpr ⟨lw_p19, List.forall_mem_cons.mpr ⟨lw_p20, List.forall_mem_cons.mpr ⟨lw_p21, List.forall_mem_cons.mpr ⟨lw_p22, List.forall_mem_cons.mpr ⟨lw_p23, List.forall_mem_cons.mpr ⟨lw_p24, List.forall_mem_cons.mpr ⟨lw_p25, List.forall_mem_cons.mpr ⟨lw_p26, List.forall_mem_cons.mpr ⟨lw_p27, List.forall_mem_cons.mpr ⟨lw_p28, List.forall_mem_cons.mpr ⟨lw_p29, List.forall_mem_cons.mpr ⟨lw_p30, List.forall_mem_cons.mpr ⟨lw_p31, fun _ h => absurd h List.not_mem_nil⟩⟩⟩⟩⟩⟩⟩⟩⟩⟩⟩⟩⟩⟩⟩⟩
theorem lw_p32 : lw_okq (⟨"RiverJustifierModel", "share", "(IIIII)I"⟩, 24) := ⟨⟨by decide +kernel, by decide +kernel⟩, List.mem_of_getElem? (i := 773) (by decide +kernel), List.mem_of_getElem? (i := 843) (by decide +kernel), List.mem_of_getElem? (i := 844) (by decide +kernel)⟩
theorem lw_p33 : lw_okq (⟨"RiverJustifierModel", "hasSpace", "(I)Z"⟩, 24) := ⟨⟨by decide +kernel, by decide +kernel⟩, List.mem_of_getElem? (i := 773) (by decide +kernel), List.mem_of_getElem? (i := 847) (by decide +kernel), List.mem_of_getElem? (i := 848) (by decide +kernel)⟩
theorem lw_p34 : lw_okq (⟨"RiverJustifierModel", "above", "(I)I"⟩, 24) := ⟨⟨by decide +kernel, by decide +kernel⟩, List.mem_of_getElem? (i := 773) (by decide +kernel), List.mem_of_getElem? (i := 851) (by decide +kernel), List.mem_of_getElem? (i := 852) (by decide +kernel)⟩
theorem lw_p35 : lw_okq (⟨"RiverJustifierModel", "areNear", "(II)Z"⟩, 24) := ⟨⟨by decide +kernel, by decide +kernel⟩, List.mem_of_getElem? (i := 773) (by decide +kernel), List.mem_of_getElem? (i := 855) (by decide +kernel), List.mem_of_getElem? (i := 856) (by decide +kernel)⟩
theorem lw_p36 : lw_okq (⟨"RiverJustifierModel", "middle", "(I)I"⟩, 24) := ⟨⟨by decide +kernel, by decide +kernel⟩, List.mem_of_getElem? (i := 773) (by decide +kernel), List.mem_of_getElem? (i := 859) (by decide +kernel), List.mem_of_getElem? (i := 860) (by decide +kernel)⟩
theorem lw_p37 : lw_okq (⟨"RiverJustifierModel", "spaceBegin", "(I)I"⟩, 24) := ⟨⟨by decide +kernel, by decide +kernel⟩, List.mem_of_getElem? (i := 773) (by decide +kernel), List.mem_of_getElem? (i := 863) (by decide +kernel), List.mem_of_getElem? (i := 864) (by decide +kernel)⟩
theorem lw_p38 : lw_okq (⟨"RiverJustifierModel", "addWord", "(II)V"⟩, 24) := ⟨⟨by decide +kernel, by decide +kernel⟩, List.mem_of_getElem? (i := 773) (by decide +kernel), List.mem_of_getElem? (i := 967) (by decide +kernel), List.mem_of_getElem? (i := 968) (by decide +kernel)⟩
theorem lw_p39 : lw_okq (⟨"RiverJustifierModel", "nextPiece", "(Z)V"⟩, 24) := ⟨⟨by decide +kernel, by decide +kernel⟩, List.mem_of_getElem? (i := 773) (by decide +kernel), List.mem_of_getElem? (i := 978) (by decide +kernel), List.mem_of_getElem? (i := 979) (by decide +kernel)⟩
theorem lw_p40 : lw_okq (⟨"RiverJustifierModel", "isPiece", "(CCCC)Z"⟩, 24) := ⟨⟨by decide +kernel, by decide +kernel⟩, List.mem_of_getElem? (i := 773) (by decide +kernel), List.mem_of_getElem? (i := 982) (by decide +kernel), List.mem_of_getElem? (i := 983) (by decide +kernel)⟩
theorem lw_p41 : lw_okq (⟨"RiverJustifierModel", "isLong", "(I)Z"⟩, 24) := ⟨⟨by decide +kernel, by decide +kernel⟩, List.mem_of_getElem? (i := 773) (by decide +kernel), List.mem_of_getElem? (i := 986) (by decide +kernel), List.mem_of_getElem? (i := 987) (by decide +kernel)⟩
theorem lw_p42 : lw_okq (⟨"RiverJustifierModel", "endsWith", "(CCC)Z"⟩, 24) := ⟨⟨by decide +kernel, by decide +kernel⟩, List.mem_of_getElem? (i := 773) (by decide +kernel), List.mem_of_getElem? (i := 990) (by decide +kernel), List.mem_of_getElem? (i := 991) (by decide +kernel)⟩
theorem lw_p43 : lw_okq (⟨"RiverJustifierModel", "kind", "()I"⟩, 24) := ⟨⟨by decide +kernel, by decide +kernel⟩, List.mem_of_getElem? (i := 773) (by decide +kernel), List.mem_of_getElem? (i := 994) (by decide +kernel), List.mem_of_getElem? (i := 995) (by decide +kernel)⟩
theorem lw_p44 : lw_okq (⟨"RiverJustifierModel", "number", "(II)I"⟩, 24) := ⟨⟨by decide +kernel, by decide +kernel⟩, List.mem_of_getElem? (i := 773) (by decide +kernel), List.mem_of_getElem? (i := 998) (by decide +kernel), List.mem_of_getElem? (i := 999) (by decide +kernel)⟩
theorem lw_p45 : lw_okq (⟨"RiverJustifierModel", "noLine", "(I)Z"⟩, 24) := ⟨⟨by decide +kernel, by decide +kernel⟩, List.mem_of_getElem? (i := 773) (by decide +kernel), List.mem_of_getElem? (i := 1030) (by decide +kernel), List.mem_of_getElem? (i := 1031) (by decide +kernel)⟩
theorem lw_p46 : lw_okq (⟨"RiverJustifierModel", "secondOf", "(I)I"⟩, 24) := ⟨⟨by decide +kernel, by decide +kernel⟩, List.mem_of_getElem? (i := 773) (by decide +kernel), List.mem_of_getElem? (i := 1034) (by decide +kernel), List.mem_of_getElem? (i := 1035) (by decide +kernel)⟩
theorem lw_p47 : lw_okq (⟨"RiverJustifierModel", "takesSecond", "(I)V"⟩, 24) := ⟨⟨by decide +kernel, by decide +kernel⟩, List.mem_of_getElem? (i := 773) (by decide +kernel), List.mem_of_getElem? (i := 1038) (by decide +kernel), List.mem_of_getElem? (i := 1039) (by decide +kernel)⟩
def lw_privs_3 : List (MethodName × Nat) := [(⟨"RiverJustifierModel", "share", "(IIIII)I"⟩, 24), (⟨"RiverJustifierModel", "hasSpace", "(I)Z"⟩, 24), (⟨"RiverJustifierModel", "above", "(I)I"⟩, 24), (⟨"RiverJustifierModel", "areNear", "(II)Z"⟩, 24), (⟨"RiverJustifierModel", "middle", "(I)I"⟩, 24), (⟨"RiverJustifierModel", "spaceBegin", "(I)I"⟩, 24), (⟨"RiverJustifierModel", "addWord", "(II)V"⟩, 24), (⟨"RiverJustifierModel", "nextPiece", "(Z)V"⟩, 24), (⟨"RiverJustifierModel", "isPiece", "(CCCC)Z"⟩, 24), (⟨"RiverJustifierModel", "isLong", "(I)Z"⟩, 24), (⟨"RiverJustifierModel", "endsWith", "(CCC)Z"⟩, 24), (⟨"RiverJustifierModel", "kind", "()I"⟩, 24), (⟨"RiverJustifierModel", "number", "(II)I"⟩, 24), (⟨"RiverJustifierModel", "noLine", "(I)Z"⟩, 24), (⟨"RiverJustifierModel", "secondOf", "(I)I"⟩, 24), (⟨"RiverJustifierModel", "takesSecond", "(I)V"⟩, 24)]
theorem lw_r3 : ∀ q ∈ lw_privs_3, lw_okq q := List.forall_mem_cons.mpr ⟨lw_p32, List.forall_mem_cons.mpr ⟨lw_p33, List.forall_mem_cons.mpr ⟨lw_p34, List.forall_mem_cons.mpr ⟨lw_p35, List.forall_mem_cons.mpr ⟨lw_p36, List.forall_mem_cons.mpr ⟨lw_p37, List.forall_mem_cons.mpr ⟨lw_p38, List.forall_mem_cons.mpr ⟨lw_p39, List.forall_mem_cons.mpr ⟨lw_p40, List.forall_mem_cons.mpr ⟨lw_p41, List.forall_mem_cons.mpr ⟨lw_p42, List.forall_mem_cons.mpr ⟨lw_p43, List.forall_mem_cons.mpr ⟨lw_p44, List.forall_mem_cons.mpr ⟨lw_p45, List.forall_mem_cons.mpr ⟨lw_p46, List.forall_mem_cons.mpr ⟨lw_p47, fun _ h => absurd h List.not_mem_nil⟩⟩⟩⟩⟩⟩⟩⟩⟩⟩⟩⟩⟩⟩⟩⟩
theorem lw_p48 : lw_okq (⟨"RiverJustifierModel", "breaker", "()I"⟩, 24) := ⟨⟨by decide +kernel, by decide +kernel⟩, List.mem_of_getElem? (i := 773) (by decide +kernel), List.mem_of_getElem? (i := 1046) (by decide +kernel), List.mem_of_getElem? (i := 1047) (by decide +kernel)⟩
theorem lw_p49 : lw_okq (⟨"RiverJustifierModel", "strengthWith", "(I)I"⟩, 24) := ⟨⟨by decide +kernel, by decide +kernel⟩, List.mem_of_getElem? (i := 773) (by decide +kernel), List.mem_of_getElem? (i := 1050) (by decide +kernel), List.mem_of_getElem? (i := 1051) (by decide +kernel)⟩
theorem lw_p50 : lw_okq (⟨"RiverJustifierModel", "strength", "()I"⟩, 24) := ⟨⟨by decide +kernel, by decide +kernel⟩, List.mem_of_getElem? (i := 773) (by decide +kernel), List.mem_of_getElem? (i := 1054) (by decide +kernel), List.mem_of_getElem? (i := 1055) (by decide +kernel)⟩
theorem lw_p51 : lw_okq (⟨"RiverJustifierModel", "ends", "(I)Z"⟩, 24) := ⟨⟨by decide +kernel, by decide +kernel⟩, List.mem_of_getElem? (i := 773) (by decide +kernel), List.mem_of_getElem? (i := 1058) (by decide +kernel), List.mem_of_getElem? (i := 1059) (by decide +kernel)⟩
theorem lw_p52 : lw_okq (⟨"RiverJustifierModel", "hasBelow", "(I)Z"⟩, 24) := ⟨⟨by decide +kernel, by decide +kernel⟩, List.mem_of_getElem? (i := 773) (by decide +kernel), List.mem_of_getElem? (i := 1062) (by decide +kernel), List.mem_of_getElem? (i := 1063) (by decide +kernel)⟩
theorem lw_p53 : lw_okq (⟨"RiverJustifierModel", "secondDemerits", "(I)I"⟩, 24) := ⟨⟨by decide +kernel, by decide +kernel⟩, List.mem_of_getElem? (i := 773) (by decide +kernel), List.mem_of_getElem? (i := 1066) (by decide +kernel), List.mem_of_getElem? (i := 1067) (by decide +kernel)⟩
theorem lw_p54 : lw_okq (⟨"RiverJustifierModel", "demeritsBefore", "(I)I"⟩, 24) := ⟨⟨by decide +kernel, by decide +kernel⟩, List.mem_of_getElem? (i := 773) (by decide +kernel), List.mem_of_getElem? (i := 1070) (by decide +kernel), List.mem_of_getElem? (i := 1071) (by decide +kernel)⟩
theorem lw_p55 : lw_okq (⟨"RiverJustifierModel", "endOf", "(I)I"⟩, 24) := ⟨⟨by decide +kernel, by decide +kernel⟩, List.mem_of_getElem? (i := 773) (by decide +kernel), List.mem_of_getElem? (i := 1078) (by decide +kernel), List.mem_of_getElem? (i := 1079) (by decide +kernel)⟩
theorem lw_p56 : lw_okq (⟨"RiverJustifierModel", "noWord", "(I)Z"⟩, 24) := ⟨⟨by decide +kernel, by decide +kernel⟩, List.mem_of_getElem? (i := 773) (by decide +kernel), List.mem_of_getElem? (i := 1090) (by decide +kernel), List.mem_of_getElem? (i := 1091) (by decide +kernel)⟩
theorem lw_p57 : lw_okq (⟨"RiverJustifierModel", "badnessOf", "(I)I"⟩, 24) := ⟨⟨by decide +kernel, by decide +kernel⟩, List.mem_of_getElem? (i := 773) (by decide +kernel), List.mem_of_getElem? (i := 1114) (by decide +kernel), List.mem_of_getElem? (i := 1115) (by decide +kernel)⟩
def lw_privs_4 : List (MethodName × Nat) := [(⟨"RiverJustifierModel", "breaker", "()I"⟩, 24), (⟨"RiverJustifierModel", "strengthWith", "(I)I"⟩, 24), (⟨"RiverJustifierModel", "strength", "()I"⟩, 24), (⟨"RiverJustifierModel", "ends", "(I)Z"⟩, 24), (⟨"RiverJustifierModel", "hasBelow", "(I)Z"⟩, 24), (⟨"RiverJustifierModel", "secondDemerits", "(I)I"⟩, 24), (⟨"RiverJustifierModel", "demeritsBefore", "(I)I"⟩, 24), (⟨"RiverJustifierModel", "endOf", "(I)I"⟩, 24), (⟨"RiverJustifierModel", "noWord", "(I)Z"⟩, 24), (⟨"RiverJustifierModel", "badnessOf", "(I)I"⟩, 24)]
theorem lw_r4 : ∀ q ∈ lw_privs_4, lw_okq q := List.forall_mem_cons.mpr ⟨lw_p48, List.forall_mem_cons.mpr ⟨lw_p49, List.forall_mem_cons.mpr ⟨lw_p50, List.forall_mem_cons.mpr ⟨lw_p51, List.forall_mem_cons.mpr ⟨lw_p52, List.forall_mem_cons.mpr ⟨lw_p53, List.forall_mem_cons.mpr ⟨lw_p54, List.forall_mem_cons.mpr ⟨lw_p55, List.forall_mem_cons.mpr ⟨lw_p56, List.forall_mem_cons.mpr ⟨lw_p57, fun _ h => absurd h List.not_mem_nil⟩⟩⟩⟩⟩⟩⟩⟩⟩⟩
def lw_privs : List (MethodName × Nat) := lw_privs_1 ++ (lw_privs_2 ++ (lw_privs_3 ++ (lw_privs_4)))
def lw_tbl : List Cond := k2_sels lw_privs ++ tables_1
theorem lw_privs_ok : ∀ q ∈ lw_privs, lw_okq q := by
  show ∀ q ∈ lw_privs_1 ++ (lw_privs_2 ++ (lw_privs_3 ++ (lw_privs_4))), lw_okq q
  exact List.forall_mem_append.mpr ⟨lw_r1, List.forall_mem_append.mpr ⟨lw_r2, List.forall_mem_append.mpr ⟨lw_r3, lw_r4⟩⟩⟩
end
section
/-! names: classes, fields, methods (printed by program) -/
def xtb : List Cond := lw_tbl.filter goodWord
theorem xt {w : Cond} (i : Nat) (h : tables_1[i]? = some w) (g : goodWord w = true) : w ∈ xtb := List.mem_filter.mpr ⟨List.mem_append_right _ (List.mem_of_getElem? h), g⟩
theorem xp {w : Cond} (i : Nat) (h : (k2_sels lw_privs)[i]? = some w) (g : goodWord w = true) : w ∈ xtb := List.mem_filter.mpr ⟨List.mem_append_left _ (List.mem_of_getElem? h), g⟩
theorem ab_good : ∀ w ∈ xtb, goodWord w = true := fun w h => (List.mem_filter.mp h).2
def RX0 : String := "RiverJustifier$BestWay"
def RX1 : String := "RiverJustifier$Layout"
def RX2 : String := "RiverJustifier$LineRules"
def RX3 : String := "RiverJustifier$Order"
def RX4 : String := "RiverJustifier$Paragraph"
def RX5 : String := "RiverJustifier$Rivers"
def RX6 : String := "RiverJustifier$Settings"
def RX7 : String := "RiverJustifier$Sign"
def RX8 : String := "RiverJustifier$Text"
def RX9 : String := "RiverJustifier"
def RX10 : String := "RiverJustifierModel"
def RJ0 : String := "java/lang/String"
def RJ1 : String := "java/lang/StringLatin1"
def RJ3 : String := "jdk/internal/util/Preconditions"
def RL : String := "RiverJustifierLaw"
def TX0 : u_T := fun k => match k with
  | 0 => ("RiverJustifier$BestWay", "paragraph", "LRiverJustifier$Paragraph;", true)
  | 1 => ("RiverJustifier$BestWay", "rules", "LRiverJustifier$LineRules;", true)
  | 2 => ("RiverJustifier$BestWay", "sums", "[I", true)
  | _ => ("RiverJustifier$BestWay", "lasts", "[I", true)
def tyX0 : Nat → FieldType := fun k => match k with
  | 0 => .object "RiverJustifier$Paragraph"
  | 1 => .object "RiverJustifier$LineRules"
  | 2 => .array .int
  | _ => .array .int
theorem nmX0 : ∀ a, a < 4 → ∀ b, b < 4 → a ≠ b → (TX0 a).2.1 ≠ (TX0 b).2.1 := by decide +kernel
theorem tyX0_ok : ∀ k, k < 4 → parseFieldDescriptor (TX0 k).2.2.1 = some (tyX0 k) := by decide +kernel
theorem inX0 : ∀ w ∈ u_ws RX0 TX0 4, w ∈ xtb := by
  intro w hw
  refine List.mem_filter.mpr ⟨List.mem_append_right _ ?_, ?_⟩
  · exact (by decide +kernel : ∀ w ∈ u_ws RX0 TX0 4, w ∈ tables_1) w hw
  · exact (by decide +kernel : ∀ w ∈ u_ws RX0 TX0 4, goodWord w = true) w hw
def TX1 : u_T := fun k => match k with
  | 0 => ("RiverJustifier$Layout", "paragraph", "LRiverJustifier$Paragraph;", true)
  | 1 => ("RiverJustifier$Layout", "settings", "LRiverJustifier$Settings;", true)
  | 2 => ("RiverJustifier$Layout", "rules", "LRiverJustifier$LineRules;", true)
  | 3 => ("RiverJustifier$Layout", "bestWay", "LRiverJustifier$BestWay;", true)
  | 4 => ("RiverJustifier$Layout", "lines", "I", false)
  | 5 => ("RiverJustifier$Layout", "demerits", "I", false)
  | 6 => ("RiverJustifier$Layout", "firstWords", "[I", true)
  | 7 => ("RiverJustifier$Layout", "lineOf", "[I", true)
  | 8 => ("RiverJustifier$Layout", "spaceLines", "[I", true)
  | 9 => ("RiverJustifier$Layout", "begins", "[I", true)
  | 10 => ("RiverJustifier$Layout", "spaceWidths", "[I", true)
  | _ => ("RiverJustifier$Layout", "rivers", "LRiverJustifier$Rivers;", true)
def tyX1 : Nat → FieldType := fun k => match k with
  | 0 => .object "RiverJustifier$Paragraph"
  | 1 => .object "RiverJustifier$Settings"
  | 2 => .object "RiverJustifier$LineRules"
  | 3 => .object "RiverJustifier$BestWay"
  | 4 => .int
  | 5 => .int
  | 6 => .array .int
  | 7 => .array .int
  | 8 => .array .int
  | 9 => .array .int
  | 10 => .array .int
  | _ => .object "RiverJustifier$Rivers"
theorem nmX1 : ∀ a, a < 12 → ∀ b, b < 12 → a ≠ b → (TX1 a).2.1 ≠ (TX1 b).2.1 := by decide +kernel
theorem tyX1_ok : ∀ k, k < 12 → parseFieldDescriptor (TX1 k).2.2.1 = some (tyX1 k) := by decide +kernel
theorem inX1 : ∀ w ∈ u_ws RX1 TX1 12, w ∈ xtb := by
  intro w hw
  refine List.mem_filter.mpr ⟨List.mem_append_right _ ?_, ?_⟩
  · exact (by decide +kernel : ∀ w ∈ u_ws RX1 TX1 12, w ∈ tables_1) w hw
  · exact (by decide +kernel : ∀ w ∈ u_ws RX1 TX1 12, goodWord w = true) w hw
def TX2 : u_T := fun k => match k with
  | 0 => ("RiverJustifier$LineRules", "paragraph", "LRiverJustifier$Paragraph;", true)
  | 1 => ("RiverJustifier$LineRules", "settings", "LRiverJustifier$Settings;", true)
  | 2 => ("RiverJustifier$LineRules", "wordSums", "[I", true)
  | 3 => ("RiverJustifier$LineRules", "naturalSums", "[I", true)
  | 4 => ("RiverJustifier$LineRules", "stretchSums", "[I", true)
  | 5 => ("RiverJustifier$LineRules", "shrinkSums", "[I", true)
  | 6 => ("RiverJustifier$LineRules", "leftHangs", "[I", true)
  | _ => ("RiverJustifier$LineRules", "rightHangs", "[I", true)
def tyX2 : Nat → FieldType := fun k => match k with
  | 0 => .object "RiverJustifier$Paragraph"
  | 1 => .object "RiverJustifier$Settings"
  | 2 => .array .int
  | 3 => .array .int
  | 4 => .array .int
  | 5 => .array .int
  | 6 => .array .int
  | _ => .array .int
theorem nmX2 : ∀ a, a < 8 → ∀ b, b < 8 → a ≠ b → (TX2 a).2.1 ≠ (TX2 b).2.1 := by decide +kernel
theorem tyX2_ok : ∀ k, k < 8 → parseFieldDescriptor (TX2 k).2.2.1 = some (tyX2 k) := by decide +kernel
theorem inX2 : ∀ w ∈ u_ws RX2 TX2 8, w ∈ xtb := by
  intro w hw
  refine List.mem_filter.mpr ⟨List.mem_append_right _ ?_, ?_⟩
  · exact (by decide +kernel : ∀ w ∈ u_ws RX2 TX2 8, w ∈ tables_1) w hw
  · exact (by decide +kernel : ∀ w ∈ u_ws RX2 TX2 8, goodWord w = true) w hw
def TX3 : u_T := fun k => match k with
  | 0 => ("RiverJustifier$Order", "numbers", "[I", true)
  | 1 => ("RiverJustifier$Order", "subject", "I", false)
  | _ => ("RiverJustifier$Order", "kind", "I", false)
def tyX3 : Nat → FieldType := fun k => match k with
  | 0 => .array .int
  | 1 => .int
  | _ => .int
theorem nmX3 : ∀ a, a < 3 → ∀ b, b < 3 → a ≠ b → (TX3 a).2.1 ≠ (TX3 b).2.1 := by decide +kernel
theorem tyX3_ok : ∀ k, k < 3 → parseFieldDescriptor (TX3 k).2.2.1 = some (tyX3 k) := by decide +kernel
theorem inX3 : ∀ w ∈ u_ws RX3 TX3 3, w ∈ xtb := by
  intro w hw
  refine List.mem_filter.mpr ⟨List.mem_append_right _ ?_, ?_⟩
  · exact (by decide +kernel : ∀ w ∈ u_ws RX3 TX3 3, w ∈ tables_1) w hw
  · exact (by decide +kernel : ∀ w ∈ u_ws RX3 TX3 3, goodWord w = true) w hw
def TX4 : u_T := fun k => match k with
  | 0 => ("RiverJustifier$Paragraph", "words", "I", false)
  | 1 => ("RiverJustifier$Paragraph", "widths", "[I", true)
  | 2 => ("RiverJustifier$Paragraph", "sizes", "[I", true)
  | 3 => ("RiverJustifier$Paragraph", "kinds", "[I", true)
  | 4 => ("RiverJustifier$Paragraph", "leftMarks", "[I", true)
  | _ => ("RiverJustifier$Paragraph", "rightMarks", "[I", true)
def tyX4 : Nat → FieldType := fun k => match k with
  | 0 => .int
  | 1 => .array .int
  | 2 => .array .int
  | 3 => .array .int
  | 4 => .array .int
  | _ => .array .int
theorem nmX4 : ∀ a, a < 6 → ∀ b, b < 6 → a ≠ b → (TX4 a).2.1 ≠ (TX4 b).2.1 := by decide +kernel
theorem tyX4_ok : ∀ k, k < 6 → parseFieldDescriptor (TX4 k).2.2.1 = some (tyX4 k) := by decide +kernel
theorem inX4 : ∀ w ∈ u_ws RX4 TX4 6, w ∈ xtb := by
  intro w hw
  refine List.mem_filter.mpr ⟨List.mem_append_right _ ?_, ?_⟩
  · exact (by decide +kernel : ∀ w ∈ u_ws RX4 TX4 6, w ∈ tables_1) w hw
  · exact (by decide +kernel : ∀ w ∈ u_ws RX4 TX4 6, goodWord w = true) w hw
def TX5 : u_T := fun k => match k with
  | 0 => ("RiverJustifier$Rivers", "amount", "I", false)
  | 1 => ("RiverJustifier$Rivers", "strength", "I", false)
  | 2 => ("RiverJustifier$Rivers", "greatestLength", "I", false)
  | 3 => ("RiverJustifier$Rivers", "lengths", "[I", true)
  | 4 => ("RiverJustifier$Rivers", "middles", "[I", true)
  | 5 => ("RiverJustifier$Rivers", "aboves", "[I", true)
  | 6 => ("RiverJustifier$Rivers", "goesOn", "[Z", true)
  | _ => ("RiverJustifier$Rivers", "ends", "[I", true)
def tyX5 : Nat → FieldType := fun k => match k with
  | 0 => .int
  | 1 => .int
  | 2 => .int
  | 3 => .array .int
  | 4 => .array .int
  | 5 => .array .int
  | 6 => .array .boolean
  | _ => .array .int
theorem nmX5 : ∀ a, a < 8 → ∀ b, b < 8 → a ≠ b → (TX5 a).2.1 ≠ (TX5 b).2.1 := by decide +kernel
theorem tyX5_ok : ∀ k, k < 8 → parseFieldDescriptor (TX5 k).2.2.1 = some (tyX5 k) := by decide +kernel
theorem inX5 : ∀ w ∈ u_ws RX5 TX5 8, w ∈ xtb := by
  intro w hw
  refine List.mem_filter.mpr ⟨List.mem_append_right _ ?_, ?_⟩
  · exact (by decide +kernel : ∀ w ∈ u_ws RX5 TX5 8, w ∈ tables_1) w hw
  · exact (by decide +kernel : ∀ w ∈ u_ws RX5 TX5 8, goodWord w = true) w hw
def TX6 : u_T := fun k => match k with
  | 0 => ("RiverJustifier$Settings", "measure", "I", false)
  | 1 => ("RiverJustifier$Settings", "hang", "I", false)
  | 2 => ("RiverJustifier$Settings", "tolerance", "I", false)
  | 3 => ("RiverJustifier$Settings", "least", "[I", true)
  | 4 => ("RiverJustifier$Settings", "natural", "[I", true)
  | _ => ("RiverJustifier$Settings", "greatest", "[I", true)
def tyX6 : Nat → FieldType := fun k => match k with
  | 0 => .int
  | 1 => .int
  | 2 => .int
  | 3 => .array .int
  | 4 => .array .int
  | _ => .array .int
theorem nmX6 : ∀ a, a < 6 → ∀ b, b < 6 → a ≠ b → (TX6 a).2.1 ≠ (TX6 b).2.1 := by decide +kernel
theorem tyX6_ok : ∀ k, k < 6 → parseFieldDescriptor (TX6 k).2.2.1 = some (tyX6 k) := by decide +kernel
theorem inX6 : ∀ w ∈ u_ws RX6 TX6 6, w ∈ xtb := by
  intro w hw
  refine List.mem_filter.mpr ⟨List.mem_append_right _ ?_, ?_⟩
  · exact (by decide +kernel : ∀ w ∈ u_ws RX6 TX6 6, w ∈ tables_1) w hw
  · exact (by decide +kernel : ∀ w ∈ u_ws RX6 TX6 6, goodWord w = true) w hw
def TX8 : u_T := fun k => match k with
  | 0 => ("RiverJustifier$Text", "signs", "[C", true)
  | _ => ("RiverJustifier$Text", "length", "I", false)
def tyX8 : Nat → FieldType := fun k => match k with
  | 0 => .array .char
  | _ => .int
theorem nmX8 : ∀ a, a < 2 → ∀ b, b < 2 → a ≠ b → (TX8 a).2.1 ≠ (TX8 b).2.1 := by decide +kernel
theorem tyX8_ok : ∀ k, k < 2 → parseFieldDescriptor (TX8 k).2.2.1 = some (tyX8 k) := by decide +kernel
theorem inX8 : ∀ w ∈ u_ws RX8 TX8 2, w ∈ xtb := by
  intro w hw
  refine List.mem_filter.mpr ⟨List.mem_append_right _ ?_, ?_⟩
  · exact (by decide +kernel : ∀ w ∈ u_ws RX8 TX8 2, w ∈ tables_1) w hw
  · exact (by decide +kernel : ∀ w ∈ u_ws RX8 TX8 2, goodWord w = true) w hw
def TX9 : u_T := fun k => match k with
  | 0 => ("RiverJustifier", "text", "LRiverJustifier$Text;", true)
  | 1 => ("RiverJustifier", "order", "LRiverJustifier$Order;", true)
  | 2 => ("RiverJustifier", "settings", "LRiverJustifier$Settings;", true)
  | 3 => ("RiverJustifier", "paragraph", "LRiverJustifier$Paragraph;", true)
  | 4 => ("RiverJustifier", "rules", "LRiverJustifier$LineRules;", true)
  | 5 => ("RiverJustifier", "bestWay", "LRiverJustifier$BestWay;", true)
  | 6 => ("RiverJustifier", "layout", "LRiverJustifier$Layout;", true)
  | _ => ("RiverJustifier", "trial", "LRiverJustifier$Layout;", true)
def tyX9 : Nat → FieldType := fun k => match k with
  | 0 => .object "RiverJustifier$Text"
  | 1 => .object "RiverJustifier$Order"
  | 2 => .object "RiverJustifier$Settings"
  | 3 => .object "RiverJustifier$Paragraph"
  | 4 => .object "RiverJustifier$LineRules"
  | 5 => .object "RiverJustifier$BestWay"
  | 6 => .object "RiverJustifier$Layout"
  | _ => .object "RiverJustifier$Layout"
theorem nmX9 : ∀ a, a < 8 → ∀ b, b < 8 → a ≠ b → (TX9 a).2.1 ≠ (TX9 b).2.1 := by decide +kernel
theorem tyX9_ok : ∀ k, k < 8 → parseFieldDescriptor (TX9 k).2.2.1 = some (tyX9 k) := by decide +kernel
theorem inX9 : ∀ w ∈ u_ws RX9 TX9 8, w ∈ xtb := by
  intro w hw
  refine List.mem_filter.mpr ⟨List.mem_append_right _ ?_, ?_⟩
  · exact (by decide +kernel : ∀ w ∈ u_ws RX9 TX9 8, w ∈ tables_1) w hw
  · exact (by decide +kernel : ∀ w ∈ u_ws RX9 TX9 8, goodWord w = true) w hw
def TX10 : u_T := fun k => match k with
  | 0 => ("RiverJustifierModel", "measure", "I", false)
  | 1 => ("RiverJustifierModel", "hang", "I", false)
  | 2 => ("RiverJustifierModel", "tolerance", "I", false)
  | 3 => ("RiverJustifierModel", "spaceOf", "[I", true)
  | 4 => ("RiverJustifierModel", "words", "I", false)
  | 5 => ("RiverJustifierModel", "wideOf", "[I", true)
  | 6 => ("RiverJustifierModel", "longOf", "[I", true)
  | 7 => ("RiverJustifierModel", "kindOf", "[I", true)
  | 8 => ("RiverJustifierModel", "leftOf", "[I", true)
  | 9 => ("RiverJustifierModel", "rightOf", "[I", true)
  | 10 => ("RiverJustifierModel", "typed", "I", false)
  | 11 => ("RiverJustifierModel", "text", "[C", true)
  | 12 => ("RiverJustifierModel", "pieceFrom", "I", false)
  | 13 => ("RiverJustifierModel", "pieceTo", "I", false)
  | 14 => ("RiverJustifierModel", "fault", "I", false)
  | 15 => ("RiverJustifierModel", "leastFrom", "[I", true)
  | 16 => ("RiverJustifierModel", "endFrom", "[I", true)
  | 17 => ("RiverJustifierModel", "lines", "I", false)
  | 18 => ("RiverJustifierModel", "firstOf", "[I", true)
  | 19 => ("RiverJustifierModel", "beginOf", "[I", true)
  | 20 => ("RiverJustifierModel", "spaceWide", "[I", true)
  | 21 => ("RiverJustifierModel", "spaceLong", "[I", true)
  | 22 => ("RiverJustifierModel", "lineOf", "[I", true)
  | _ => ("RiverJustifierModel", "keptFirst", "[I", true)
def tyX10 : Nat → FieldType := fun k => match k with
  | 0 => .int
  | 1 => .int
  | 2 => .int
  | 3 => .array .int
  | 4 => .int
  | 5 => .array .int
  | 6 => .array .int
  | 7 => .array .int
  | 8 => .array .int
  | 9 => .array .int
  | 10 => .int
  | 11 => .array .char
  | 12 => .int
  | 13 => .int
  | 14 => .int
  | 15 => .array .int
  | 16 => .array .int
  | 17 => .int
  | 18 => .array .int
  | 19 => .array .int
  | 20 => .array .int
  | 21 => .array .int
  | 22 => .array .int
  | _ => .array .int
theorem nmX10 : ∀ a, a < 24 → ∀ b, b < 24 → a ≠ b → (TX10 a).2.1 ≠ (TX10 b).2.1 := by decide +kernel
theorem tyX10_ok : ∀ k, k < 24 → parseFieldDescriptor (TX10 k).2.2.1 = some (tyX10 k) := by decide +kernel
theorem inX10 : ∀ w ∈ u_ws RX10 TX10 24, w ∈ xtb := by
  intro w hw
  refine List.mem_filter.mpr ⟨List.mem_append_right _ ?_, ?_⟩
  · exact (by decide +kernel : ∀ w ∈ u_ws RX10 TX10 24, w ∈ tables_1) w hw
  · exact (by decide +kernel : ∀ w ∈ u_ws RX10 TX10 24, goodWord w = true) w hw
abbrev xcl : List vw_C := [(RX0, TX0, 4), (RX1, TX1, 12), (RX2, TX2, 8), (RX3, TX3, 3), (RX4, TX4, 6), (RX5, TX5, 8), (RX6, TX6, 6), (RX8, TX8, 2), (RX9, TX9, 8), (RX10, TX10, 24)]
theorem xcl_ok {ci : Nat} {C : String} {T : u_T} {N : Nat} (h : xcl[ci]? = some (C, T, N)) : (∀ w ∈ u_ws C T N, w ∈ xtb) ∧ ∃ ty0 : Nat → FieldType, (∀ k, k < N → parseFieldDescriptor (T k).2.2.1 = some (ty0 k)) ∧ ∀ a, a < N → ∀ b, b < N → a ≠ b → (T a).2.1 ≠ (T b).2.1 := by
  match ci, h with
  | 0, h => cases h; exact ⟨inX0, tyX0, tyX0_ok, nmX0⟩
  | 1, h => cases h; exact ⟨inX1, tyX1, tyX1_ok, nmX1⟩
  | 2, h => cases h; exact ⟨inX2, tyX2, tyX2_ok, nmX2⟩
  | 3, h => cases h; exact ⟨inX3, tyX3, tyX3_ok, nmX3⟩
  | 4, h => cases h; exact ⟨inX4, tyX4, tyX4_ok, nmX4⟩
  | 5, h => cases h; exact ⟨inX5, tyX5, tyX5_ok, nmX5⟩
  | 6, h => cases h; exact ⟨inX6, tyX6, tyX6_ok, nmX6⟩
  | 7, h => cases h; exact ⟨inX8, tyX8, tyX8_ok, nmX8⟩
  | 8, h => cases h; exact ⟨inX9, tyX9, tyX9_ok, nmX9⟩
  | 9, h => cases h; exact ⟨inX10, tyX10, tyX10_ok, nmX10⟩
  | k + 10, h => simp [xcl] at h
def xsK : List (String × Nat × String) := [("RiverJustifier$Sign", 28, "fijlrt"), ("RiverJustifier$Sign", 30, "mw"), ("RiverJustifier$Sign", 32, "MW"), ("RiverJustifier$Sign", 20, ".,;:!'"), ("RiverJustifier$Sign", 26, "?-\"()"), ("RiverJustifier$Sign", 38, "'\"("), ("RiverJustifier$Sign", 34, ".!?"), ("RiverJustifier$Sign", 36, ",;:"), ("RiverJustifier$Sign", 40, ".,;:!?-'\""), ("RiverJustifier$Order", 79, "measure"), ("RiverJustifier$Order", 84, "hang"), ("RiverJustifier$Order", 85, "river"), ("RiverJustifier$Order", 87, "space"), ("RiverJustifier$Order", 89, "word"), ("RiverJustifier$Order", 91, "clause"), ("RiverJustifier$Order", 93, "sentence")]
def xsL : List Nat := [6, 2, 2, 6, 5, 3, 3, 3, 9, 7, 4, 5, 5, 4, 6, 8]
def xsB : List (List Int32) := [[102, 105, 106, 108, 114, 116], [109, 119], [77, 87], [46, 44, 59, 58, 33, 39], [63, 45, 34, 40, 41], [39, 34, 40], [46, 33, 63], [44, 59, 58], [46, 44, 59, 58, 33, 63, 45, 39, 34], [109, 101, 97, 115, 117, 114, 101], [104, 97, 110, 103], [114, 105, 118, 101, 114], [115, 112, 97, 99, 101], [119, 111, 114, 100], [99, 108, 97, 117, 115, 101], [115, 101, 110, 116, 101, 110, 99, 101]]
theorem xs_small : ∀ i, i < 16 → xsL.getD i 0 < 2147483648 := by decide +kernel
def xsN : List (String × Nat × MethodName × String) := [("RiverJustifier$LineRules", 52, ⟨"RiverJustifier", "at", "([II)I"⟩, "RiverJustifier"), ("RiverJustifier$BestWay", 36, ⟨"RiverJustifier", "at", "([II)I"⟩, "RiverJustifier"), ("RiverJustifier$Layout", 61, ⟨"RiverJustifier", "at", "([II)I"⟩, "RiverJustifier"), ("RiverJustifier$Rivers", 38, ⟨"RiverJustifier", "at", "([II)I"⟩, "RiverJustifier"), ("RiverJustifier$Order", 75, ⟨"RiverJustifier", "at", "([II)I"⟩, "RiverJustifier"), ("RiverJustifier$Settings", 29, ⟨"RiverJustifier", "isKind", "(I)Z"⟩, "RiverJustifier")]
theorem xw_mmax : Cond.static Lib.Math.max.name ∈ xtb ∧ Cond.initialized "java/lang/Math" ∈ xtb ∧ Cond.code Lib.Math.max.name Lib.Math.max.code 2 (some .int) ∈ xtb := ⟨xt 375 (by decide +kernel) (by decide +kernel), xt 14 (by decide +kernel) (by decide +kernel), xt 376 (by decide +kernel) (by decide +kernel)⟩
theorem xw_mmin : Cond.static Lib.Math.min.name ∈ xtb ∧ Cond.initialized "java/lang/Math" ∈ xtb ∧ Cond.code Lib.Math.min.name Lib.Math.min.code 2 (some .int) ∈ xtb := ⟨xt 378 (by decide +kernel) (by decide +kernel), xt 14 (by decide +kernel) (by decide +kernel), xt 379 (by decide +kernel) (by decide +kernel)⟩
theorem xw_mabs : Cond.static Lib.Math.abs.name ∈ xtb ∧ Cond.initialized "java/lang/Math" ∈ xtb ∧ Cond.code Lib.Math.abs.name Lib.Math.abs.code 1 (some .int) ∈ xtb := ⟨xt 505 (by decide +kernel) (by decide +kernel), xt 14 (by decide +kernel) (by decide +kernel), xt 506 (by decide +kernel) (by decide +kernel)⟩
theorem xw_arr : True ∧ Cond.arrayClass .int ∈ xtb ∧ Cond.arrayClass .char ∈ xtb ∧ Cond.arrayClass .boolean ∈ xtb := ⟨trivial, xt 70 (by decide +kernel) (by decide +kernel), xt 181 (by decide +kernel) (by decide +kernel), xt 239 (by decide +kernel) (by decide +kernel)⟩
theorem xw_obj : Cond.instanceMethod Lib.objectInit ∈ xtb ∧ Cond.code Lib.objectInit ⟨#[0xb1]⟩ 1 none ∈ xtb := ⟨xt 24 (by decide +kernel) (by decide +kernel), xt 25 (by decide +kernel) (by decide +kernel)⟩
abbrev cX0_init : ByteArray := prog_2_method_1_code
def yX0_init : MethodName := ⟨RX0, "<init>", "(LRiverJustifier$Paragraph;LRiverJustifier$LineRules;)V"⟩
abbrev cX0_exists : ByteArray := prog_2_method_2_code
def yX0_exists : MethodName := ⟨RX0, "exists", "()Z"⟩
abbrev cX0_find : ByteArray := prog_2_method_3_code
def yX0_find : MethodName := ⟨RX0, "find", "()V"⟩
abbrev cX0_sumWith : ByteArray := prog_2_method_4_code
def yX0_sumWith : MethodName := ⟨RX0, "sumWith", "(II)I"⟩
abbrev cX1_init : ByteArray := prog_3_method_1_code
def yX1_init : MethodName := ⟨RX1, "<init>", "(LRiverJustifier$Paragraph;LRiverJustifier$Settings;LRiverJustifier$LineRules;LRiverJustifier$BestWay;)V"⟩
abbrev cX1_hasLine : ByteArray := prog_3_method_2_code
def yX1_hasLine : MethodName := ⟨RX1, "hasLine", "(I)Z"⟩
abbrev cX1_firstWord : ByteArray := prog_3_method_3_code
def yX1_firstWord : MethodName := ⟨RX1, "firstWord", "(I)I"⟩
abbrev cX1_lastWord : ByteArray := prog_3_method_4_code
def yX1_lastWord : MethodName := ⟨RX1, "lastWord", "(I)I"⟩
abbrev cX1_endOf : ByteArray := prog_3_method_5_code
def yX1_endOf : MethodName := ⟨RX1, "endOf", "(I)I"⟩
abbrev cX1_demeritsBefore : ByteArray := prog_3_method_6_code
def yX1_demeritsBefore : MethodName := ⟨RX1, "demeritsBefore", "(I)I"⟩
abbrev cX1_linesWorseThan : ByteArray := prog_3_method_7_code
def yX1_linesWorseThan : MethodName := ⟨RX1, "linesWorseThan", "(I)I"⟩
abbrev cX1_secondLast : ByteArray := prog_3_method_8_code
def yX1_secondLast : MethodName := ⟨RX1, "secondLast", "(I)I"⟩
abbrev cX1_becomeBest : ByteArray := prog_3_method_9_code
def yX1_becomeBest : MethodName := ⟨RX1, "becomeBest", "()V"⟩
abbrev cX1_copyBreaks : ByteArray := prog_3_method_10_code
def yX1_copyBreaks : MethodName := ⟨RX1, "copyBreaks", "(LRiverJustifier$Layout;)V"⟩
abbrev cX1_endLineWith : ByteArray := prog_3_method_11_code
def yX1_endLineWith : MethodName := ⟨RX1, "endLineWith", "(II)V"⟩
abbrev cX1_goOnFrom : ByteArray := prog_3_method_12_code
def yX1_goOnFrom : MethodName := ⟨RX1, "goOnFrom", "(I)V"⟩
abbrev cX1_settle : ByteArray := prog_3_method_13_code
def yX1_settle : MethodName := ⟨RX1, "settle", "()V"⟩
abbrev cX1_shareOut : ByteArray := prog_3_method_14_code
def yX1_shareOut : MethodName := ⟨RX1, "shareOut", "(II)V"⟩
abbrev cX1_changeKind : ByteArray := prog_3_method_15_code
def yX1_changeKind : MethodName := ⟨RX1, "changeKind", "(IIIII)I"⟩
abbrev cX1_placeWords : ByteArray := prog_3_method_16_code
def yX1_placeWords : MethodName := ⟨RX1, "placeWords", "(III)V"⟩
abbrev cX2_init : ByteArray := prog_4_method_1_code
def yX2_init : MethodName := ⟨RX2, "<init>", "(LRiverJustifier$Paragraph;LRiverJustifier$Settings;)V"⟩
abbrev cX2_prepare : ByteArray := prog_4_method_2_code
def yX2_prepare : MethodName := ⟨RX2, "prepare", "()V"⟩
abbrev cX2_isEnd : ByteArray := prog_4_method_3_code
def yX2_isEnd : MethodName := ⟨RX2, "isEnd", "(I)Z"⟩
abbrev cX2_naturalWidth : ByteArray := prog_4_method_4_code
def yX2_naturalWidth : MethodName := ⟨RX2, "naturalWidth", "(II)I"⟩
abbrev cX2_badness : ByteArray := prog_4_method_5_code
def yX2_badness : MethodName := ⟨RX2, "badness", "(II)I"⟩
abbrev cX2_demerits : ByteArray := prog_4_method_6_code
def yX2_demerits : MethodName := ⟨RX2, "demerits", "(II)I"⟩
abbrev cX3_init : ByteArray := prog_5_method_1_code
def yX3_init : MethodName := ⟨RX3, "<init>", "()V"⟩
abbrev cX3_parse : ByteArray := prog_5_method_2_code
def yX3_parse : MethodName := ⟨RX3, "parse", "(LRiverJustifier$Text;)I"⟩
abbrev cX3_applyTo : ByteArray := prog_5_method_3_code
def yX3_applyTo : MethodName := ⟨RX3, "applyTo", "(LRiverJustifier$Settings;)V"⟩
abbrev cX3_wantedPieces : ByteArray := prog_5_method_4_code
def yX3_wantedPieces : MethodName := ⟨RX3, "wantedPieces", "()I"⟩
abbrev cX3_takePiece : ByteArray := prog_5_method_5_code
def yX3_takePiece : MethodName := ⟨RX3, "takePiece", "(LRiverJustifier$Text;III)Z"⟩
abbrev cX3_takeNumber : ByteArray := prog_5_method_6_code
def yX3_takeNumber : MethodName := ⟨RX3, "takeNumber", "(II)Z"⟩
abbrev cX3_leastNumber : ByteArray := prog_5_method_7_code
def yX3_leastNumber : MethodName := ⟨RX3, "leastNumber", "(I)I"⟩
abbrev cX3_greatestNumber : ByteArray := prog_5_method_8_code
def yX3_greatestNumber : MethodName := ⟨RX3, "greatestNumber", "()I"⟩
abbrev cX3_subjectAt : ByteArray := prog_5_method_9_code
def yX3_subjectAt : MethodName := ⟨RX3, "subjectAt", "(LRiverJustifier$Text;II)I"⟩
abbrev cX3_kindAt : ByteArray := prog_5_method_10_code
def yX3_kindAt : MethodName := ⟨RX3, "kindAt", "(LRiverJustifier$Text;II)I"⟩
abbrev cX4_init : ByteArray := prog_6_method_1_code
def yX4_init : MethodName := ⟨RX4, "<init>", "()V"⟩
abbrev cX4_hasWord : ByteArray := prog_6_method_2_code
def yX4_hasWord : MethodName := ⟨RX4, "hasWord", "(I)Z"⟩
abbrev cX4_take : ByteArray := prog_6_method_3_code
def yX4_take : MethodName := ⟨RX4, "take", "(LRiverJustifier$Text;)V"⟩
abbrev cX4_openWord : ByteArray := prog_6_method_4_code
def yX4_openWord : MethodName := ⟨RX4, "openWord", "(C)V"⟩
abbrev cX4_lengthenWord : ByteArray := prog_6_method_5_code
def yX4_lengthenWord : MethodName := ⟨RX4, "lengthenWord", "(C)V"⟩
abbrev cX5_init : ByteArray := prog_7_method_1_code
def yX5_init : MethodName := ⟨RX5, "<init>", "()V"⟩
abbrev cX5_spaceOf : ByteArray := prog_7_method_2_code
def yX5_spaceOf : MethodName := ⟨RX5, "spaceOf", "(II)I"⟩
abbrev cX5_find : ByteArray := prog_7_method_3_code
def yX5_find : MethodName := ⟨RX5, "find", "(LRiverJustifier$Layout;II)V"⟩
abbrev cX5_spaceAbove : ByteArray := prog_7_method_4_code
def yX5_spaceAbove : MethodName := ⟨RX5, "spaceAbove", "(LRiverJustifier$Layout;II)I"⟩
abbrev cX5_collectEnds : ByteArray := prog_7_method_5_code
def yX5_collectEnds : MethodName := ⟨RX5, "collectEnds", "(LRiverJustifier$Layout;I)V"⟩
abbrev cX6_init : ByteArray := prog_8_method_1_code
def yX6_init : MethodName := ⟨RX6, "<init>", "()V"⟩
abbrev cX6_putWidths : ByteArray := prog_8_method_2_code
def yX6_putWidths : MethodName := ⟨RX6, "putWidths", "(IIII)V"⟩
abbrev cX7_widthOf : ByteArray := prog_9_method_2_code
def yX7_widthOf : MethodName := ⟨RX7, "widthOf", "(C)I"⟩
abbrev cX7_smallLetterWidth : ByteArray := prog_9_method_3_code
def yX7_smallLetterWidth : MethodName := ⟨RX7, "smallLetterWidth", "(C)I"⟩
abbrev cX7_capitalWidth : ByteArray := prog_9_method_4_code
def yX7_capitalWidth : MethodName := ⟨RX7, "capitalWidth", "(C)I"⟩
abbrev cX7_kindBehind : ByteArray := prog_9_method_5_code
def yX7_kindBehind : MethodName := ⟨RX7, "kindBehind", "(C)I"⟩
abbrev cX7_hangsLeft : ByteArray := prog_9_method_6_code
def yX7_hangsLeft : MethodName := ⟨RX7, "hangsLeft", "(C)Z"⟩
abbrev cX7_hangsRight : ByteArray := prog_9_method_7_code
def yX7_hangsRight : MethodName := ⟨RX7, "hangsRight", "(C)Z"⟩
abbrev cX7_isDigit : ByteArray := prog_9_method_8_code
def yX7_isDigit : MethodName := ⟨RX7, "isDigit", "(C)Z"⟩
abbrev cX7_isOneOf : ByteArray := prog_9_method_9_code
def yX7_isOneOf : MethodName := ⟨RX7, "isOneOf", "(CLjava/lang/String;)Z"⟩
abbrev cX8_init : ByteArray := prog_10_method_1_code
def yX8_init : MethodName := ⟨RX8, "<init>", "()V"⟩
abbrev cX8_append : ByteArray := prog_10_method_2_code
def yX8_append : MethodName := ⟨RX8, "append", "(C)I"⟩
abbrev cX8_empty : ByteArray := prog_10_method_3_code
def yX8_empty : MethodName := ⟨RX8, "empty", "()I"⟩
abbrev cX8_paragraphFault : ByteArray := prog_10_method_4_code
def yX8_paragraphFault : MethodName := ⟨RX8, "paragraphFault", "()I"⟩
abbrev cX8_endOfPiece : ByteArray := prog_10_method_5_code
def yX8_endOfPiece : MethodName := ⟨RX8, "endOfPiece", "(I)I"⟩
abbrev cX8_isName : ByteArray := prog_10_method_6_code
def yX8_isName : MethodName := ⟨RX8, "isName", "(IILjava/lang/String;)Z"⟩
abbrev cX8_numberAt : ByteArray := prog_10_method_7_code
def yX8_numberAt : MethodName := ⟨RX8, "numberAt", "(II)I"⟩
abbrev cX9_init : ByteArray := prog_1_method_1_code
def yX9_init : MethodName := ⟨RX9, "<init>", "()V"⟩
abbrev cX9_type : ByteArray := prog_1_method_2_code
def yX9_type : MethodName := ⟨RX9, "type", "(C)I"⟩
abbrev cX9_clearText : ByteArray := prog_1_method_3_code
def yX9_clearText : MethodName := ⟨RX9, "clearText", "()I"⟩
abbrev cX9_readParagraph : ByteArray := prog_1_method_4_code
def yX9_readParagraph : MethodName := ⟨RX9, "readParagraph", "()I"⟩
abbrev cX9_command : ByteArray := prog_1_method_5_code
def yX9_command : MethodName := ⟨RX9, "command", "()I"⟩
abbrev cX9_setMeasure : ByteArray := prog_1_method_6_code
def yX9_setMeasure : MethodName := ⟨RX9, "setMeasure", "(I)I"⟩
abbrev cX9_setHang : ByteArray := prog_1_method_7_code
def yX9_setHang : MethodName := ⟨RX9, "setHang", "(I)I"⟩
abbrev cX9_setTolerance : ByteArray := prog_1_method_8_code
def yX9_setTolerance : MethodName := ⟨RX9, "setTolerance", "(I)I"⟩
abbrev cX9_setSpace : ByteArray := prog_1_method_9_code
def yX9_setSpace : MethodName := ⟨RX9, "setSpace", "(IIII)I"⟩
abbrev cX9_layBest : ByteArray := prog_1_method_10_code
def yX9_layBest : MethodName := ⟨RX9, "layBest", "()I"⟩
abbrev cX9_takeSecond : ByteArray := prog_1_method_11_code
def yX9_takeSecond : MethodName := ⟨RX9, "takeSecond", "(I)I"⟩
abbrev cX9_breakRivers : ByteArray := prog_1_method_12_code
def yX9_breakRivers : MethodName := ⟨RX9, "breakRivers", "()I"⟩
abbrev cX9_count : ByteArray := prog_1_method_13_code
def yX9_count : MethodName := ⟨RX9, "count", "(I)I"⟩
abbrev cX9_spaceWidth : ByteArray := prog_1_method_14_code
def yX9_spaceWidth : MethodName := ⟨RX9, "spaceWidth", "(II)I"⟩
abbrev cX9_word : ByteArray := prog_1_method_15_code
def yX9_word : MethodName := ⟨RX9, "word", "(II)I"⟩
abbrev cX9_line : ByteArray := prog_1_method_16_code
def yX9_line : MethodName := ⟨RX9, "line", "(II)I"⟩
abbrev cX9_space : ByteArray := prog_1_method_17_code
def yX9_space : MethodName := ⟨RX9, "space", "(III)I"⟩
abbrev cX9_begin : ByteArray := prog_1_method_18_code
def yX9_begin : MethodName := ⟨RX9, "begin", "(I)I"⟩
abbrev cX9_second : ByteArray := prog_1_method_19_code
def yX9_second : MethodName := ⟨RX9, "second", "(II)I"⟩
abbrev cX9_worst : ByteArray := prog_1_method_20_code
def yX9_worst : MethodName := ⟨RX9, "worst", "(I)I"⟩
abbrev cX9_river : ByteArray := prog_1_method_21_code
def yX9_river : MethodName := ⟨RX9, "river", "(II)I"⟩
abbrev cX9_at : ByteArray := prog_1_method_22_code
def yX9_at : MethodName := ⟨RX9, "at", "([II)I"⟩
abbrev cX9_isKind : ByteArray := prog_1_method_23_code
def yX9_isKind : MethodName := ⟨RX9, "isKind", "(I)Z"⟩
abbrev cX9_restoreBest : ByteArray := prog_1_method_24_code
def yX9_restoreBest : MethodName := ⟨RX9, "restoreBest", "()I"⟩
abbrev cX9_calmingLine : ByteArray := prog_1_method_25_code
def yX9_calmingLine : MethodName := ⟨RX9, "calmingLine", "()I"⟩
abbrev cX10_init : ByteArray := prog_12_method_1_code
def yX10_init : MethodName := ⟨RX10, "<init>", "()V"⟩
abbrev cX10_in : ByteArray := prog_12_method_2_code
def yX10_in : MethodName := ⟨RX10, "in", "(III)Z"⟩
abbrev cX10_widthOf : ByteArray := prog_12_method_3_code
def yX10_widthOf : MethodName := ⟨RX10, "widthOf", "(C)I"⟩
abbrev cX10_isSentence : ByteArray := prog_12_method_4_code
def yX10_isSentence : MethodName := ⟨RX10, "isSentence", "(C)Z"⟩
abbrev cX10_isClause : ByteArray := prog_12_method_5_code
def yX10_isClause : MethodName := ⟨RX10, "isClause", "(C)Z"⟩
abbrev cX10_isMark : ByteArray := prog_12_method_6_code
def yX10_isMark : MethodName := ⟨RX10, "isMark", "(C)Z"⟩
abbrev cX10_isAllowed : ByteArray := prog_12_method_7_code
def yX10_isAllowed : MethodName := ⟨RX10, "isAllowed", "(C)Z"⟩
abbrev cX10_type : ByteArray := prog_12_method_8_code
def yX10_type : MethodName := ⟨RX10, "type", "(C)I"⟩
abbrev cX10_clearText : ByteArray := prog_12_method_9_code
def yX10_clearText : MethodName := ⟨RX10, "clearText", "()I"⟩
abbrev cX10_addWord : ByteArray := prog_12_method_10_code
def yX10_addWord : MethodName := ⟨RX10, "addWord", "(II)V"⟩
abbrev cX10_readParagraph : ByteArray := prog_12_method_11_code
def yX10_readParagraph : MethodName := ⟨RX10, "readParagraph", "()I"⟩
abbrev cX10_nextPiece : ByteArray := prog_12_method_12_code
def yX10_nextPiece : MethodName := ⟨RX10, "nextPiece", "(Z)V"⟩
abbrev cX10_isPiece : ByteArray := prog_12_method_13_code
def yX10_isPiece : MethodName := ⟨RX10, "isPiece", "(CCCC)Z"⟩
abbrev cX10_endsWith : ByteArray := prog_12_method_14_code
def yX10_endsWith : MethodName := ⟨RX10, "endsWith", "(CCC)Z"⟩
abbrev cX10_isLong : ByteArray := prog_12_method_15_code
def yX10_isLong : MethodName := ⟨RX10, "isLong", "(I)Z"⟩
abbrev cX10_number : ByteArray := prog_12_method_16_code
def yX10_number : MethodName := ⟨RX10, "number", "(II)I"⟩
abbrev cX10_kind : ByteArray := prog_12_method_17_code
def yX10_kind : MethodName := ⟨RX10, "kind", "()I"⟩
abbrev cX10_command : ByteArray := prog_12_method_18_code
def yX10_command : MethodName := ⟨RX10, "command", "()I"⟩
abbrev cX10_setMeasure : ByteArray := prog_12_method_19_code
def yX10_setMeasure : MethodName := ⟨RX10, "setMeasure", "(I)I"⟩
abbrev cX10_setHang : ByteArray := prog_12_method_20_code
def yX10_setHang : MethodName := ⟨RX10, "setHang", "(I)I"⟩
abbrev cX10_setTolerance : ByteArray := prog_12_method_21_code
def yX10_setTolerance : MethodName := ⟨RX10, "setTolerance", "(I)I"⟩
abbrev cX10_setSpace : ByteArray := prog_12_method_22_code
def yX10_setSpace : MethodName := ⟨RX10, "setSpace", "(IIII)I"⟩
abbrev cX10_hangLeft : ByteArray := prog_12_method_23_code
def yX10_hangLeft : MethodName := ⟨RX10, "hangLeft", "(I)I"⟩
abbrev cX10_hangRight : ByteArray := prog_12_method_24_code
def yX10_hangRight : MethodName := ⟨RX10, "hangRight", "(I)I"⟩
abbrev cX10_spaces : ByteArray := prog_12_method_25_code
def yX10_spaces : MethodName := ⟨RX10, "spaces", "(III)I"⟩
abbrev cX10_natural : ByteArray := prog_12_method_26_code
def yX10_natural : MethodName := ⟨RX10, "natural", "(II)I"⟩
abbrev cX10_difference : ByteArray := prog_12_method_27_code
def yX10_difference : MethodName := ⟨RX10, "difference", "(II)I"⟩
abbrev cX10_isLast : ByteArray := prog_12_method_28_code
def yX10_isLast : MethodName := ⟨RX10, "isLast", "(I)Z"⟩
abbrev cX10_isPossible : ByteArray := prog_12_method_29_code
def yX10_isPossible : MethodName := ⟨RX10, "isPossible", "(II)Z"⟩
abbrev cX10_badness : ByteArray := prog_12_method_30_code
def yX10_badness : MethodName := ⟨RX10, "badness", "(II)I"⟩
abbrev cX10_demerits : ByteArray := prog_12_method_31_code
def yX10_demerits : MethodName := ⟨RX10, "demerits", "(II)I"⟩
abbrev cX10_findWays : ByteArray := prog_12_method_32_code
def yX10_findWays : MethodName := ⟨RX10, "findWays", "()V"⟩
abbrev cX10_goOn : ByteArray := prog_12_method_33_code
def yX10_goOn : MethodName := ⟨RX10, "goOn", "(II)V"⟩
abbrev cX10_hasWay : ByteArray := prog_12_method_34_code
def yX10_hasWay : MethodName := ⟨RX10, "hasWay", "()Z"⟩
abbrev cX10_layAnew : ByteArray := prog_12_method_35_code
def yX10_layAnew : MethodName := ⟨RX10, "layAnew", "()V"⟩
abbrev cX10_layBest : ByteArray := prog_12_method_36_code
def yX10_layBest : MethodName := ⟨RX10, "layBest", "()I"⟩
abbrev cX10_lastOf : ByteArray := prog_12_method_37_code
def yX10_lastOf : MethodName := ⟨RX10, "lastOf", "(I)I"⟩
abbrev cX10_demeritsBefore : ByteArray := prog_12_method_38_code
def yX10_demeritsBefore : MethodName := ⟨RX10, "demeritsBefore", "(I)I"⟩
abbrev cX10_secondOf : ByteArray := prog_12_method_39_code
def yX10_secondOf : MethodName := ⟨RX10, "secondOf", "(I)I"⟩
abbrev cX10_secondDemerits : ByteArray := prog_12_method_40_code
def yX10_secondDemerits : MethodName := ⟨RX10, "secondDemerits", "(I)I"⟩
abbrev cX10_noLine : ByteArray := prog_12_method_41_code
def yX10_noLine : MethodName := ⟨RX10, "noLine", "(I)Z"⟩
abbrev cX10_takesSecond : ByteArray := prog_12_method_42_code
def yX10_takesSecond : MethodName := ⟨RX10, "takesSecond", "(I)V"⟩
abbrev cX10_takeSecond : ByteArray := prog_12_method_43_code
def yX10_takeSecond : MethodName := ⟨RX10, "takeSecond", "(I)I"⟩
abbrev cX10_share : ByteArray := prog_12_method_44_code
def yX10_share : MethodName := ⟨RX10, "share", "(IIIII)I"⟩
abbrev cX10_layLine : ByteArray := prog_12_method_45_code
def yX10_layLine : MethodName := ⟨RX10, "layLine", "(I)V"⟩
abbrev cX10_spaceBegin : ByteArray := prog_12_method_46_code
def yX10_spaceBegin : MethodName := ⟨RX10, "spaceBegin", "(I)I"⟩
abbrev cX10_middle : ByteArray := prog_12_method_47_code
def yX10_middle : MethodName := ⟨RX10, "middle", "(I)I"⟩
abbrev cX10_hasSpace : ByteArray := prog_12_method_48_code
def yX10_hasSpace : MethodName := ⟨RX10, "hasSpace", "(I)Z"⟩
abbrev cX10_areNear : ByteArray := prog_12_method_49_code
def yX10_areNear : MethodName := ⟨RX10, "areNear", "(II)Z"⟩
abbrev cX10_above : ByteArray := prog_12_method_50_code
def yX10_above : MethodName := ⟨RX10, "above", "(I)I"⟩
abbrev cX10_hasBelow : ByteArray := prog_12_method_51_code
def yX10_hasBelow : MethodName := ⟨RX10, "hasBelow", "(I)Z"⟩
abbrev cX10_layOut : ByteArray := prog_12_method_52_code
def yX10_layOut : MethodName := ⟨RX10, "layOut", "()V"⟩
abbrev cX10_ends : ByteArray := prog_12_method_53_code
def yX10_ends : MethodName := ⟨RX10, "ends", "(I)Z"⟩
abbrev cX10_endOf : ByteArray := prog_12_method_54_code
def yX10_endOf : MethodName := ⟨RX10, "endOf", "(I)I"⟩
abbrev cX10_strength : ByteArray := prog_12_method_55_code
def yX10_strength : MethodName := ⟨RX10, "strength", "()I"⟩
abbrev cX10_strengthWith : ByteArray := prog_12_method_56_code
def yX10_strengthWith : MethodName := ⟨RX10, "strengthWith", "(I)I"⟩
abbrev cX10_breaker : ByteArray := prog_12_method_57_code
def yX10_breaker : MethodName := ⟨RX10, "breaker", "()I"⟩
abbrev cX10_breakRivers : ByteArray := prog_12_method_58_code
def yX10_breakRivers : MethodName := ⟨RX10, "breakRivers", "()I"⟩
abbrev cX10_count : ByteArray := prog_12_method_59_code
def yX10_count : MethodName := ⟨RX10, "count", "(I)I"⟩
abbrev cX10_spaceWidth : ByteArray := prog_12_method_60_code
def yX10_spaceWidth : MethodName := ⟨RX10, "spaceWidth", "(II)I"⟩
abbrev cX10_noWord : ByteArray := prog_12_method_61_code
def yX10_noWord : MethodName := ⟨RX10, "noWord", "(I)Z"⟩
abbrev cX10_word : ByteArray := prog_12_method_62_code
def yX10_word : MethodName := ⟨RX10, "word", "(II)I"⟩
abbrev cX10_line : ByteArray := prog_12_method_63_code
def yX10_line : MethodName := ⟨RX10, "line", "(II)I"⟩
abbrev cX10_space : ByteArray := prog_12_method_64_code
def yX10_space : MethodName := ⟨RX10, "space", "(III)I"⟩
abbrev cX10_begin : ByteArray := prog_12_method_65_code
def yX10_begin : MethodName := ⟨RX10, "begin", "(I)I"⟩
abbrev cX10_second : ByteArray := prog_12_method_66_code
def yX10_second : MethodName := ⟨RX10, "second", "(II)I"⟩
abbrev cX10_badnessOf : ByteArray := prog_12_method_67_code
def yX10_badnessOf : MethodName := ⟨RX10, "badnessOf", "(I)I"⟩
abbrev cX10_worst : ByteArray := prog_12_method_68_code
def yX10_worst : MethodName := ⟨RX10, "worst", "(I)I"⟩
abbrev cX10_river : ByteArray := prog_12_method_69_code
def yX10_river : MethodName := ⟨RX10, "river", "(II)I"⟩
abbrev cJ0_length_8abf5 : ByteArray := prog_15_method_54_code
def yJ0_length_8abf5 : MethodName := ⟨RJ0, "length", "()I"⟩
abbrev cJ0_charAt_5068e : ByteArray := prog_15_method_56_code
def yJ0_charAt_5068e : MethodName := ⟨RJ0, "charAt", "(I)C"⟩
abbrev cJ0_indexOf_0f7a4 : ByteArray := prog_15_method_79_code
def yJ0_indexOf_0f7a4 : MethodName := ⟨RJ0, "indexOf", "(I)I"⟩
abbrev cJ0_indexOf_7cf53 : ByteArray := prog_15_method_80_code
def yJ0_indexOf_7cf53 : MethodName := ⟨RJ0, "indexOf", "(II)I"⟩
abbrev cJ0_coder_7d493 : ByteArray := prog_15_method_152_code
def yJ0_coder_7d493 : MethodName := ⟨RJ0, "coder", "()B"⟩
abbrev cJ0_isLatin1_aae02 : ByteArray := prog_15_method_154_code
def yJ0_isLatin1_aae02 : MethodName := ⟨RJ0, "isLatin1", "()Z"⟩
abbrev cJ0_checkIndex_df160 : ByteArray := prog_15_method_155_code
def yJ0_checkIndex_df160 : MethodName := ⟨RJ0, "checkIndex", "(II)V"⟩
abbrev cJ0_checkBoundsBeginEnd_23922 : ByteArray := prog_15_method_158_code
def yJ0_checkBoundsBeginEnd_23922 : MethodName := ⟨RJ0, "checkBoundsBeginEnd", "(III)V"⟩
abbrev cJ1_charAt_3b067 : ByteArray := prog_16_method_2_code
def yJ1_charAt_3b067 : MethodName := ⟨RJ1, "charAt", "([BI)C"⟩
abbrev cJ1_canEncode_9a6ad : ByteArray := prog_16_method_4_code
def yJ1_canEncode_9a6ad : MethodName := ⟨RJ1, "canEncode", "(I)Z"⟩
abbrev cJ1_indexOf_4cfef : ByteArray := prog_16_method_22_code
def yJ1_indexOf_4cfef : MethodName := ⟨RJ1, "indexOf", "([BIII)I"⟩
abbrev cJ1_indexOfChar_4cfef : ByteArray := prog_16_method_23_code
def yJ1_indexOfChar_4cfef : MethodName := ⟨RJ1, "indexOfChar", "([BIII)I"⟩
abbrev cJ3_checkIndex_8e157 : ByteArray := prog_18_method_11_code
def yJ3_checkIndex_8e157 : MethodName := ⟨RJ3, "checkIndex", "(IILjava/util/function/BiFunction;)I"⟩
abbrev cJ3_checkFromToIndex_8c36e : ByteArray := prog_18_method_12_code
def yJ3_checkFromToIndex_8c36e : MethodName := ⟨RJ3, "checkFromToIndex", "(IIILjava/util/function/BiFunction;)I"⟩
abbrev cL_law : ByteArray := code
end
section
/-! THE ENGINE: a small machine over whole numbers (ints as Int, cells by their places), sound for the kit's W; a method is walked in it -/
abbrev ab_V : Type := Int ⊕ Option Nat
abbrev ab_E : Type := (Nat × Nat × (Int → Int)) ⊕ (Nat × List ab_V)
abbrev ab_L : Type := List (Option ab_V)
def ab_i (z : Int) : Int32 := Int32.ofInt z
def ab_r (z : Int) : Prop := -2147483648 ≤ z ∧ z ≤ 2147483647
def ab_v (A : Nat → Nat) (v : ab_V) : Value := match v with
  | .inl z => .int (ab_i z)
  | .inr none => .null
  | .inr (some k) => .ref (A k)
def ab_e (A : Nat → Nat) (cA : Nat → ClassId) (e : ab_E) : va_E := match e with
  | .inl (t, n, f) => .inl (cA t, n, .inl (fun j => ab_i (f (j : Int))))
  | .inr (ci, fs) => .inr (ci, fs.map (ab_v A))
def ab_w (A : Nat → Nat) (cA : Nat → ClassId) : Nat → List ab_E → va_W
  | _, [] => []
  | k, e :: r => (A k, ab_e A cA e) :: ab_w A cA (k + 1) r
def ab_l (A : Nat → Nat) : Nat → ab_L → List (Nat × Value)
  | _, [] => []
  | k, none :: r => ab_l A (k + 1) r
  | k, some v :: r => (k, ab_v A v) :: ab_l A (k + 1) r
/-- an int array's function with one place changed -/
def ab_u (f : Int → Int) (k v : Int) : Int → Int := fun j => if j = k then v else f j
theorem ab_toInt {z : Int} (h : ab_r z) : (ab_i z).toInt = z := Int32.toInt_ofInt_of_le (by have := h.1; omega) (by have := h.2; omega)
theorem ab_of (x : Int32) : ab_i x.toInt = x := Int32.ofInt_toInt x
theorem ab_rng (x : Int32) : ab_r x.toInt := by
  have h1 := Int32.toInt_lt x
  have h2 := Int32.le_toInt x
  exact ⟨by omega, by omega⟩
theorem ab_lt {x y : Int} (hx : ab_r x) (hy : ab_r y) : ab_i x < ab_i y ↔ x < y := by rw [Int32.lt_iff_toInt_lt, ab_toInt hx, ab_toInt hy]
theorem ab_le {x y : Int} (hx : ab_r x) (hy : ab_r y) : ab_i x ≤ ab_i y ↔ x ≤ y := by rw [Int32.le_iff_toInt_le, ab_toInt hx, ab_toInt hy]
theorem ab_eq {x y : Int} (hx : ab_r x) (hy : ab_r y) : ab_i x = ab_i y ↔ x = y := by
  refine ⟨fun h => ?_, fun h => by rw [h]⟩
  have := congrArg Int32.toInt h
  rwa [ab_toInt hx, ab_toInt hy] at this
theorem ab_add (x y : Int) : ab_i x + ab_i y = ab_i (x + y) := (Int32.ofInt_add x y).symm
theorem ab_sub (x y : Int) : ab_i x - ab_i y = ab_i (x - y) := (Int32.ofInt_sub x y).symm
theorem ab_mul (x y : Int) : ab_i x * ab_i y = ab_i (x * y) := (Int32.ofInt_mul x y).symm
theorem ab_neg (x : Int) : - ab_i x = ab_i (-x) := (Int32.ofInt_neg x).symm
theorem ab_div {x y : Int} (hx : ab_r x) (hy : ab_r y) : ab_i x / ab_i y = ab_i (x.tdiv y) := by
  have m1 : Int32.minValue.toInt = -2147483648 := by decide
  have m2 : Int32.maxValue.toInt = 2147483647 := by decide
  exact (Int32.ofInt_tdiv (by rw [m1]; exact hx.1) (by rw [m2]; exact hx.2) (by rw [m1]; exact hy.1) (by rw [m2]; exact hy.2)).symm
theorem ab_0 : ab_i 0 = 0 := by decide
theorem ab_r0 : ab_r 0 := by unfold ab_r; omega
theorem ab_clamp {z : Int} (h : ab_r z) : (ab_i z).toNatClampNeg = z.toNat := by
  show (ab_i z).toInt.toNat = z.toNat
  rw [ab_toInt h]
theorem ab_vin {z : Int} {n : Nat} (hn : n < 2147483648) (h0 : 0 ≤ z) (h1 : z < n) : vp_in (ab_i z) n := by
  have hr : ab_r z := ⟨by omega, by omega⟩
  refine vp_in_iff.mpr ?_
  rw [ab_toInt hr]
  exact ⟨h0, h1⟩
theorem ab_cat (A : Nat → Nat) (v : ab_V) : (ab_v A v).category = 1 := by
  rcases v with z | (_ | k) <;> rfl
theorem ab_w_get (A : Nat → Nat) (cA : Nat → ClassId) : ∀ (h : List ab_E) (k j : Nat), (ab_w A cA k h)[j]? = (h[j]?).map (fun e => (A (k + j), ab_e A cA e))
  | [], k, j => by simp [ab_w]
  | e :: r, k, 0 => by simp [ab_w]
  | e :: r, k, j + 1 => by
    rw [ab_w, List.getElem?_cons_succ, List.getElem?_cons_succ, ab_w_get A cA r (k + 1) j, show k + 1 + j = k + (j + 1) by omega]
theorem ab_w_at {A : Nat → Nat} {cA : Nat → ClassId} {h : List ab_E} {j : Nat} {e : ab_E} (he : h[j]? = some e) : (ab_w A cA 0 h)[j]? = some (A j, ab_e A cA e) := by
  rw [ab_w_get, he, Nat.zero_add]
  rfl
theorem ab_w_set (A : Nat → Nat) (cA : Nat → ClassId) (e : ab_E) : ∀ (h : List ab_E) (k j : Nat), (ab_w A cA k h).set j (A (k + j), ab_e A cA e) = ab_w A cA k (h.set j e)
  | [], k, j => by simp [ab_w]
  | x :: r, k, 0 => by simp [ab_w]
  | x :: r, k, j + 1 => by
    rw [ab_w, List.set_cons_succ, List.set_cons_succ, ab_w, show k + (j + 1) = k + 1 + j by omega, ab_w_set A cA e r (k + 1) j]
theorem ab_w_put (A : Nat → Nat) (cA : Nat → ClassId) (e : ab_E) (h : List ab_E) (j : Nat) : (ab_w A cA 0 h).set j (A j, ab_e A cA e) = ab_w A cA 0 (h.set j e) := by
  have := ab_w_set A cA e h 0 j
  rwa [Nat.zero_add] at this
theorem ab_w_app (A : Nat → Nat) (cA : Nat → ClassId) (e : ab_E) : ∀ (h : List ab_E) (k : Nat), ab_w A cA k (h ++ [e]) = ab_w A cA k h ++ [(A (k + h.length), ab_e A cA e)]
  | [], k => rfl
  | x :: r, k => by
    rw [List.cons_append, ab_w, ab_w, ab_w_app A cA e r (k + 1), List.cons_append, List.length_cons, show k + 1 + r.length = k + (r.length + 1) by omega]
theorem ab_l_mem (A : Nat → Nat) : ∀ (L : ab_L) (k : Nat) (q : Nat × Value), q ∈ ab_l A k L ↔ ∃ (i : Nat) (v : ab_V), L[i]? = some (some v) ∧ q = (k + i, ab_v A v)
  | [], k, q => by simp [ab_l]
  | none :: r, k, q => by
    rw [ab_l, ab_l_mem A r (k + 1) q]
    constructor
    · rintro ⟨i, v, h1, h2⟩
      exact ⟨i + 1, v, by rw [List.getElem?_cons_succ]; exact h1, by rw [h2]; congr 1; omega⟩
    · rintro ⟨i, v, h1, h2⟩
      cases i with
      | zero => simp at h1
      | succ i => exact ⟨i, v, by rwa [List.getElem?_cons_succ] at h1, by rw [h2]; congr 1; omega⟩
  | some w :: r, k, q => by
    rw [ab_l, List.mem_cons, ab_l_mem A r (k + 1) q]
    constructor
    · rintro (h | ⟨i, v, h1, h2⟩)
      · exact ⟨0, w, rfl, by rw [h]; rfl⟩
      · exact ⟨i + 1, v, by rw [List.getElem?_cons_succ]; exact h1, by rw [h2]; congr 1; omega⟩
    · rintro ⟨i, v, h1, h2⟩
      cases i with
      | zero => simp at h1; exact Or.inl (by rw [h2, h1]; rfl)
      | succ i => exact Or.inr ⟨i, v, by rwa [List.getElem?_cons_succ] at h1, by rw [h2]; congr 1; omega⟩
theorem ab_lmono {ls : Array Slot} {n : Nat} {l l' : List (Nat × Value)} (h : lv_has ls n l) (hm : ∀ q ∈ l', q ∈ l) : lv_has ls n l' := ⟨h.1, h.2.1, fun q hq => h.2.2 q (hm q hq)⟩
theorem ab_load {A : Nat → Nat} {ls : Array Slot} {n i : Nat} {L : ab_L} {v : ab_V} (h : lv_has ls n (ab_l A 0 L)) (hi : L[i]? = some (some v)) : ls[i]? = some (.val (ab_v A v)) :=
  h.2.2 (i, ab_v A v) ((ab_l_mem A L 0 _).mpr ⟨i, v, hi, by rw [Nat.zero_add]⟩)
theorem ab_store {A : Nat → Nat} {ls : Array Slot} {n i : Nat} {L : ab_L} {v : ab_V} (h : lv_has ls n ((i, ab_v A v) :: (ab_l A 0 L).filter (fun q => !(q.1 == i) && !(q.1 + 1 == i && q.2.category == 2)))) : lv_has ls n (ab_l A 0 (L.set i (some v))) := by
  refine ab_lmono h fun q hq => ?_
  obtain ⟨j, w, h1, h2⟩ := (ab_l_mem A _ 0 q).mp hq
  rw [Nat.zero_add] at h2
  by_cases hj : j = i
  · subst hj
    have hl : j < L.length := by
      have := (List.getElem?_eq_some_iff.mp h1).1
      rwa [List.length_set] at this
    rw [List.getElem?_set_self hl] at h1
    cases h1
    rw [h2]
    exact List.mem_cons_self
  · rw [List.getElem?_set_ne (Ne.symm hj)] at h1
    refine List.mem_cons_of_mem _ (List.mem_filter.mpr ⟨(ab_l_mem A L 0 q).mpr ⟨j, w, h1, by rw [Nat.zero_add]; exact h2⟩, ?_⟩)
    rw [h2]
    have c1 := ab_cat A w
    simp [hj, c1]
/-- locals that are forgotten -/
theorem ab_lsub {A : Nat → Nat} {ls : Array Slot} {n : Nat} {L L' : ab_L} (h : lv_has ls n (ab_l A 0 L)) (hs : ∀ (i : Nat) (v : ab_V), L'[i]? = some (some v) → L[i]? = some (some v)) : lv_has ls n (ab_l A 0 L') :=
  ab_lmono h fun q hq => by
    obtain ⟨i, v, h1, h2⟩ := (ab_l_mem A L' 0 q).mp hq
    exact (ab_l_mem A L 0 q).mpr ⟨i, v, hs i v h1, h2⟩
/-- fewer: by places -/
def ab_less : ab_L → ab_L → Prop
  | [], [] => True
  | none :: r, _ :: r' => ab_less r r'
  | some v :: r, w :: r' => w = some v ∧ ab_less r r'
  | _, _ => False
theorem ab_less_at : ∀ (L' L : ab_L), ab_less L' L → L'.length = L.length ∧ ∀ (i : Nat) (v : ab_V), L'[i]? = some (some v) → L[i]? = some (some v)
  | [], [], _ => ⟨rfl, fun _ _ h => by simp at h⟩
  | none :: r, w :: r', h => by
    obtain ⟨h1, h2⟩ := ab_less_at r r' h
    refine ⟨by simp [h1], fun i v hi => ?_⟩
    cases i with
    | zero => simp at hi
    | succ i => rw [List.getElem?_cons_succ] at hi ⊢; exact h2 i v hi
  | some x :: r, w :: r', h => by
    obtain ⟨h1, h2⟩ := ab_less_at r r' h.2
    refine ⟨by simp [h1], fun i v hi => ?_⟩
    cases i with
    | zero => simp at hi; simp [h.1, hi]
    | succ i => rw [List.getElem?_cons_succ] at hi ⊢; exact h2 i v hi
  | [], _ :: _, h => h.elim
  | none :: _, [], h => h.elim
  | some _ :: _, [], h => h.elim
/-- a value, a world whose places lie under n (or are constants, from 1000 on) -/
def ab_ok (n : Nat) (v : ab_V) : Bool := match v with
  | .inr (some k) => decide (k < n) || decide (1000 ≤ k)
  | _ => true
def ab_eok (n : Nat) (e : ab_E) : Bool := match e with
  | .inr (_, fs) => fs.all (ab_ok n)
  | _ => true
def ab_lok (n : Nat) (L : ab_L) : Bool := L.all (fun x => match x with | some v => ab_ok n v | none => true)
theorem ab_v_ext {A A' : Nat → Nat} {n : Nat} (h : ∀ k, k < n ∨ 1000 ≤ k → A' k = A k) {v : ab_V} (hv : ab_ok n v = true) : ab_v A' v = ab_v A v := by
  rcases v with z | (_ | k)
  · rfl
  · rfl
  · simp only [ab_ok, Bool.or_eq_true, decide_eq_true_eq] at hv
    show Value.ref (A' k) = Value.ref (A k)
    rw [h k hv]
theorem ab_vs_ext {A A' : Nat → Nat} {n : Nat} (h : ∀ k, k < n ∨ 1000 ≤ k → A' k = A k) {st : List ab_V} (hv : st.all (ab_ok n) = true) : st.map (ab_v A') = st.map (ab_v A) :=
  List.map_congr_left fun v hm => ab_v_ext h (List.all_eq_true.mp hv v hm)
theorem ab_e_ext {A A' : Nat → Nat} {n : Nat} {cA : Nat → ClassId} (h : ∀ k, k < n ∨ 1000 ≤ k → A' k = A k) {e : ab_E} (he : ab_eok n e = true) : ab_e A' cA e = ab_e A cA e := by
  rcases e with ⟨t, m, f⟩ | ⟨ci, fs⟩
  · rfl
  · show Sum.inr (ci, fs.map (ab_v A')) = Sum.inr (ci, fs.map (ab_v A))
    rw [ab_vs_ext h he]
theorem ab_w_ext {A A' : Nat → Nat} {n : Nat} {cA : Nat → ClassId} (h : ∀ k, k < n ∨ 1000 ≤ k → A' k = A k) : ∀ (hp : List ab_E) (k : Nat), hp.all (ab_eok n) = true → k + hp.length ≤ n → ab_w A' cA k hp = ab_w A cA k hp
  | [], _, _, _ => rfl
  | e :: r, k, he, hk => by
    rw [List.all_cons, Bool.and_eq_true] at he
    rw [List.length_cons] at hk
    rw [ab_w, ab_w, ab_e_ext h he.1, h k (Or.inl (by omega)), ab_w_ext h r (k + 1) he.2 (by omega)]
theorem ab_l_ext {A A' : Nat → Nat} {n : Nat} (h : ∀ k, k < n ∨ 1000 ≤ k → A' k = A k) : ∀ (L : ab_L) (k : Nat), ab_lok n L = true → ab_l A' k L = ab_l A k L
  | [], _, _ => rfl
  | none :: r, k, he => by
    rw [ab_l, ab_l]
    exact ab_l_ext h r (k + 1) (by simpa [ab_lok] using he)
  | some v :: r, k, he => by
    have h1 : ab_ok n v = true ∧ ab_lok n r = true := by simpa [ab_lok] using he
    rw [ab_l, ab_l, ab_v_ext h h1.1, ab_l_ext h r (k + 1) h1.2]
def ab_fit (d : Option FieldType) (v : ab_V) : Prop := match d, v with
  | some .int, .inl _ => True
  | some (.object _), .inr _ => True
  | some (.array _), .inr _ => True
  | _, _ => False
theorem ab_fit_ok (A : Nat → Nat) {d : Option FieldType} {v : ab_V} (h : ab_fit d v) : ∃ ty, d = some ty ∧ narrow ty (ab_v A v) = ab_v A v ∧ fits ty (ab_v A v) = true := by
  cases d with
  | none => exact h.elim
  | some ty =>
    refine ⟨ty, rfl, ?_⟩
    rcases v with z | (_ | k) <;> cases ty <;> first | exact h.elim | exact ⟨rfl, rfl⟩
theorem ab_toN {z : Int} (h0 : 0 ≤ z) (h : z < 2147483648) : ab_i z = nI z.toNat := by
  show Int32.ofInt z = Int32.ofNat z.toNat
  rw [← Int32.ofInt_eq_ofNat, Int.toNat_of_nonneg h0]
theorem ab_nar_char {z : Int} (h : 0 ≤ z ∧ z < 65536) : vp_nar .char (ab_i z) = ab_i z := by
  rw [ab_toN h.1 (by omega)]
  have := (pk_charN (q := z.toNat) (by omega)).1
  show (match narrow .char (.int (nI z.toNat)) with | .int y => y | _ => 0) = _
  rw [this]
theorem ab_nrc {z : Int} (h : 0 ≤ z ∧ z < 65536) : narrow .char (.int (ab_i z)) = .int (ab_i z) := by
  rw [ab_toN h.1 (by omega)]
  exact (pk_charN (q := z.toNat) (by omega)).1
theorem ab_nar_boolean {z : Int} (h : z = 0 ∨ z = 1) : vp_nar .boolean (ab_i z) = ab_i z := by
  rcases h with rfl | rfl <;> decide +kernel
theorem ab_nrz {z : Int} (h : z = 0 ∨ z = 1) : narrow .boolean (.int (ab_i z)) = .int (ab_i z) := by
  rcases h with rfl | rfl <;> decide +kernel
theorem ab_b8 {z : Int} (h : -128 ≤ z ∧ z < 128) : (ab_i z).toInt8.toInt32 = ab_i z := by
  have k : ∀ n : Nat, n < 256 → (ab_i ((n : Int) - 128)).toInt8.toInt32 = ab_i ((n : Int) - 128) := by decide +kernel
  have := k (z + 128).toNat (by omega)
  rwa [show (((z + 128).toNat : Nat) : Int) - 128 = z by omega] at this
theorem ab_nrb {z : Int} (h : -128 ≤ z ∧ z < 128) : narrow .byte (.int (ab_i z)) = .int (ab_i z) := by
  have k : ∀ n : Nat, n < 256 → narrow .byte (.int (ab_i ((n : Int) - 128))) = .int (ab_i ((n : Int) - 128)) := by decide +kernel
  have := k (z + 128).toNat (by omega)
  rwa [show (((z + 128).toNat : Nat) : Int) - 128 = z by omega] at this
theorem ab_c16 (z : Int) : ((ab_i z).toUInt32 % 65536).toInt32 = ab_i (z % 65536) := by
  rw [pk_char, ab_toN (z := z % 65536) (by omega) (by omega)]
  congr 1
  have h1 : (ab_i z).toBitVec.toNat = (z % 4294967296).toNat := by
    show (BitVec.ofInt 32 z).toNat = _
    rw [BitVec.toNat_ofInt]
    rfl
  rw [h1]
  omega
theorem ab_sum (A : Nat → Nat) (st : List ab_V) : ((st.map (ab_v A)).map fun v => v.category).sum = st.length := by
  induction st with
  | nil => rfl
  | cons v r ih => rw [List.map_cons, List.map_cons, List.sum_cons, ih, ab_cat, List.length_cons]; omega
theorem ab_mmax {x y : Int} (hx : ab_r x) (hy : ab_r y) : (if ab_i x < ab_i y then ab_i y else ab_i x) = ab_i (max x y) := by
  by_cases h : x < y
  · rw [if_pos ((ab_lt hx hy).mpr h), show max x y = y by omega]
  · rw [if_neg (fun z => h ((ab_lt hx hy).mp z)), show max x y = x by omega]
theorem ab_mmin {x y : Int} (hx : ab_r x) (hy : ab_r y) : (if ab_i y < ab_i x then ab_i y else ab_i x) = ab_i (min x y) := by
  by_cases h : y < x
  · rw [if_pos ((ab_lt hy hx).mpr h), show min x y = y by omega]
  · rw [if_neg (fun z => h ((ab_lt hy hx).mp z)), show min x y = x by omega]
theorem ab_mabs {x : Int} (hx : ab_r x) : (if 0 ≤ ab_i x then ab_i x else 0 - ab_i x) = ab_i (if 0 ≤ x then x else -x) := by
  by_cases h : 0 ≤ x
  · rw [if_pos (by rw [← ab_0]; exact (ab_le ab_r0 hx).mpr h), if_pos h]
  · rw [if_neg (fun z => h ((ab_le ab_r0 hx).mp (by rw [ab_0]; exact z))), if_neg h, ← ab_neg]
    exact Int32.zero_sub _
theorem ab_sl_len (A : Nat → Nat) (as : List ab_V) : (lg_sl (as.map (ab_v A))).length = as.length := by
  induction as with
  | nil => rfl
  | cons v r ih =>
    unfold lg_sl at ih ⊢
    rw [List.map_cons, List.flatMap_cons, if_neg (by rw [ab_cat]; decide), List.length_append, ih, List.length_cons, List.length_cons, List.length_nil]
    omega
theorem ab_args (A : Nat → Nat) : ∀ (as : List ab_V) (k i : Nat) (v : ab_V), as[i]? = some v → (k + i, ab_v A v) ∈ lv_args k (as.map (ab_v A))
  | [], _, _, _, h => by simp at h
  | w :: r, k, 0, v, h => by
    simp at h
    subst h
    rw [List.map_cons, lv_args]
    exact List.mem_cons_self
  | w :: r, k, i + 1, v, h => by
    rw [List.getElem?_cons_succ] at h
    rw [List.map_cons, lv_args, if_neg (by rw [ab_cat]; decide)]
    have := ab_args A r (k + 1) i v h
    rw [show k + (i + 1) = k + 1 + i by omega]
    exact List.mem_cons_of_mem _ this
def ab_ty (cA : Nat → ClassId) : List (ClassId × FieldType) := [(cA 0, .int), (cA 1, .char), (cA 2, .boolean)]
def ab_X (A : Nat → Nat) (Af : Nat → Prop) (U : State) (H : Heap) : Prop :=
  vk_S 16 xsL xsB (fun i => A (1000 + i)) (fun i => A (2000 + i)) Af U H ∧ va_Z "java/lang/String" "COMPACT_STRINGS" "Z" (.int 1) Af U H ∧
  (va_Z "jdk/internal/util/Preconditions" "SIOOBE_FORMATTER" "Ljava/util/function/BiFunction;" .null Af U H ∨ va_Z "jdk/internal/util/Preconditions" "SIOOBE_FORMATTER" "Ljava/util/function/BiFunction;" (.ref (A 3001)) Af U H) ∧
  (∀ (i : Nat) (e : String × Nat × String), xsK[i]? = some e → vk_R e.1 e.2.1 e.2.2 (A (1000 + i)) U) ∧ ∀ q ∈ xsN, va_Nw (.methodLinkNest q.1 q.2.1 q.2.2.1 q.2.2.2) U
theorem ab_X.same {A : Nat → Nat} {Af : Nat → Prop} {u U : State} {H : Heap} (hv : U.vm = u.vm) (hvm : u.vm.Alike U.vm) (h : ab_X A Af u H) : ab_X A Af U H :=
  ⟨h.1.moved hvm, h.2.1.moved hvm, h.2.2.1.imp (va_Z.moved hvm) (va_Z.moved hvm), fun i e he => (h.2.2.2.1 i e he).same hv, fun q hq => va_tabs rfl hv.symm (h.2.2.2.2 q hq)⟩
theorem ab_X.narrow {A : Nat → Nat} {Af B : Nat → Prop} {U : State} {H : Heap} (hB : ∀ q, B q → Af q) (h : ab_X A Af U H) : ab_X A B U H :=
  ⟨h.1.narrow hB, h.2.1.narrow hB, h.2.2.1.imp (fun z => z.narrow hB) (fun z => z.narrow hB), h.2.2.2⟩
theorem ab_X.warm {A : Nat → Nat} {Af : Nat → Prop} {s U : State} {H H1 : Heap} (hW : s.WarmedH U.vm) (hq : ∀ a : Nat, a < H.size → ¬ Af a → H1[a]? = H[a]?) (h : ab_X A Af s H) : ab_X A Af U H1 :=
  ⟨(h.1.moved hW.alike).kept hq, (h.2.1.moved hW.alike).kept hq, h.2.2.1.imp (fun z => (z.moved hW.alike).kept hq) (fun z => (z.moved hW.alike).kept hq), fun i e he => (h.2.2.2.1 i e he).warm hW, fun q hq => (h.2.2.2.2 q hq).warmM hW⟩
def ab_Ag (al : Bool) (A0 : Nat → Nat) (n0 : Nat) (A : Nat → Nat) : Prop := if al = true then ∀ k, k < n0 ∨ 1000 ≤ k → A k = A0 k else A = A0
def ab_Pc (D : va_G) (cA : Nat → ClassId) (A : Nat → Nat) (sz : Nat) (as : List ab_V) (h : List ab_E) : Array Value → State → Prop :=
  va_Pc (as.map (ab_v A)) (fun U => U.heap.size = sz ∧ va_P D xcl (ab_w A cA 0 h) U.heap ∧ va_K D xcl (ab_ty cA) U ∧ va_D (fun _ => True) (ab_w A cA 0 h) ∧ ab_X A (va_A (ab_w A cA 0 h) sz) U U.heap)
def ab_Qc (post : Option ab_V → List ab_E → Prop) (D : va_G) (cA : Nat → ClassId) (Ag : (Nat → Nat) → Prop) (Af : Nat → Prop) : Array Value → State → Outcome → State → Prop := fun _ st oc t =>
  (∃ (r : Option ab_V) (u : List ab_E) (A' : Nat → Nat), oc = .returned (r.map (ab_v A')) ∧ post r u ∧ Ag A' ∧ va_P D xcl (ab_w A' cA 0 u) t.heap ∧ va_K D xcl (ab_ty cA) t ∧ va_D Af (ab_w A' cA 0 u)) ∧ va_F Af st t
/-- a method's contract: from these arguments and this heap it returns with an answer and a heap of 'post' -/
def ab_Mt (y : MethodName) (cc : ByteArray) (nL : Nat) (ret : Option FieldType) (rm : Room) (al : Bool) (mc ms : Nat) (as : List ab_V) (h : List ab_E) (post : Option ab_V → List ab_E → Prop) : Prop :=
  ∀ (l : Launch) (D : va_G) (cA : Nat → ClassId) (A : Nat → Nat) (sz : Nat), Met l y (.code y cc nL ret :: xtb) rm (ab_Pc D cA A sz as h) (ab_Qc post D cA (ab_Ag al A h.length) (va_A (ab_w A cA 0 h) sz)) mc ms (va_A (ab_w A cA 0 h) sz)
def ab_rt (ret : Option FieldType) (r : Option ab_V) : Prop := match ret, r with
  | none, none => True
  | some .int, some (.inl _) => True
  | some .boolean, some (.inl z) => z = 0 ∨ z = 1
  | some .char, some (.inl z) => 0 ≤ z ∧ z < 65536
  | some .byte, some (.inl z) => -128 ≤ z ∧ z < 128
  | _, _ => False
def ab_ri (r : Option ab_V) : Instr := match r with
  | none => .return_
  | some _ => .ireturn
abbrev ab_J : Type := Nat → ab_L → List ab_V → List ab_E → Nat → Nat → Prop
/-- the judgement -/
def ab_W (p : Program) (l : Launch) (e : Env) (R : Room) (s : State) (m : MethodId) (args : Array Value) (below : List Frame) (meth : Method) (c : Code) (D : va_G) (cA : Nat → ClassId) (nL : Nat) (Ag : (Nat → Nat) → Prop) (Af : Nat → Prop) (Q : State → Prop) : ab_J := fun pc L st h kc ks =>
  ∀ (A : Nat → Nat) (H : Heap) (locs : List Loc) (ls : Array Slot), Ag A → L.length = nL → va_P D xcl (ab_w A cA 0 h) H → va_D Af (ab_w A cA 0 h) → va_S Af s.heap H locs → lv_has ls nL (ab_l A 0 L) → W p l e R s m args below meth c H locs kc ks Q (F0 m pc ls (st.map (ab_v A)))
/-- V is the judgement of a method (bytes cc, of class own) in some state of the machine -/
def ab_Cl (cc : ByteArray) (own : String) (nL : Nat) (R : Room) (al : Bool) (n0 : Nat) (ini : Bool) (sc : Option (Nat × (Int → Int))) (ret : Option FieldType) (post : Option ab_V → List ab_E → Prop) (mc ms : Nat) (V : ab_J) : Prop :=
  ∃ (p : Program) (l : Launch) (e : Env) (s : State) (m : MethodId) (args : Array Value) (below : List Frame) (meth : Method) (c : Code) (D : va_G) (cA : Nat → ClassId) (A0 : Nat → Nat) (Af : Nat → Prop) (Q : State → Prop),
    (p.tables.exec = Jvm.exec ∧ c.code = cc ∧ c.maxLocals = nL ∧ s.vm.findClass own = some m.cls ∧ (∀ w ∈ xtb, w.before args s = true) ∧ va_K D xcl (ab_ty cA) s ∧ (∀ q, s.heap.size ≤ q → Af q) ∧ (∀ A, ab_Ag al A0 n0 A → ab_X A Af s s.heap) ∧ (ini = true → meth.name = "<init>") ∧
      (∀ (L : Nat) (f : Int → Int), sc = some (L, f) → ∀ A, ab_Ag al A0 n0 A → va_X (A 3000) L (fun j => ab_i (f (j : Int))) s s.heap ∧ A 3000 < s.heap.size ∧ ¬ Af (A 3000)) ∧
      (∀ (A : Nat → Nat) (H : Heap) (locs : List Loc) (ls : Array Slot) (pc : Nat) (r : Option ab_V) (u : List ab_E), ab_Ag al A0 n0 A → va_P D xcl (ab_w A cA 0 u) H → va_D Af (ab_w A cA 0 u) → va_S Af s.heap H locs → post r u → ab_rt ret r → decode cc pc = .ok (ab_ri r, 1) → W p l e R s m args below meth c H locs mc ms Q (F0 m pc ls (r.toList.map (ab_v A))))) ∧
    V = ab_W p l e R s m args below meth c D cA nL (ab_Ag al A0 n0) Af Q
section ABR
variable {cc : ByteArray} {own : String} {nL : Nat} {R : Room} {al : Bool} {n0 : Nat} {ini : Bool} {sc : Option (Nat × (Int → Int))} {ret : Option FieldType} {post : Option ab_V → List ab_E → Prop} {mc ms : Nat} {V : ab_J} {pc : Nat} {L : ab_L} {st : List ab_V} {h : List ab_E} {kc ks : Nat}
theorem rb_iconst (hV : ab_Cl cc own nL R al n0 ini sc ret post mc ms V) {n : Int} (hd : decode cc pc = .ok (.iconst n, 1)) (k : V (pc + 1) L (.inl n :: st) h kc ks) : V pc L st h kc ks := by
  obtain ⟨p, l, e, s, m, args, below, meth, c, D, cA, A0, Af, Q, ⟨hx, hb, hml, hown, hts, hK, hAf, hX, hini, hsc, hret⟩, rfl⟩ := hV
  intro A H locs ls hag hL hP hD hS hl
  exact lv_iconst hx hb hd rfl (k A H locs ls hag hL hP hD hS hl)
theorem rb_bipush (hV : ab_Cl cc own nL R al n0 ini sc ret post mc ms V) {n : Int} (hd : decode cc pc = .ok (.bipush n, 2)) (hn : (Int8.ofInt n).toInt32 = ab_i n) (k : V (pc + 2) L (.inl n :: st) h kc ks) : V pc L st h kc ks := by
  obtain ⟨p, l, e, s, m, args, below, meth, c, D, cA, A0, Af, Q, ⟨hx, hb, hml, hown, hts, hK, hAf, hX, hini, hsc, hret⟩, rfl⟩ := hV
  intro A H locs ls hag hL hP hD hS hl
  exact lv_bipush hx hb hd hn (k A H locs ls hag hL hP hD hS hl)
theorem rb_sipush (hV : ab_Cl cc own nL R al n0 ini sc ret post mc ms V) {n : Int} (hd : decode cc pc = .ok (.sipush n, 3)) (hn : (Int16.ofInt n).toInt32 = ab_i n) (k : V (pc + 3) L (.inl n :: st) h kc ks) : V pc L st h kc ks := by
  obtain ⟨p, l, e, s, m, args, below, meth, c, D, cA, A0, Af, Q, ⟨hx, hb, hml, hown, hts, hK, hAf, hX, hini, hsc, hret⟩, rfl⟩ := hV
  intro A H locs ls hag hL hP hD hS hl
  exact lv_sipush hx hb hd hn (k A H locs ls hag hL hP hD hS hl)
theorem rb_iload_n (hV : ab_Cl cc own nL R al n0 ini sc ret post mc ms V) {j : Fin 4} {i : Nat} {z : Int} (hd : decode cc pc = .ok (.iload_n j, 1)) (hj : (j : Nat) = i) (hi : L[i]? = some (some (.inl z))) (k : V (pc + 1) L (.inl z :: st) h kc ks) : V pc L st h kc ks := by
  obtain ⟨p, l, e, s, m, args, below, meth, c, D, cA, A0, Af, Q, ⟨hx, hb, hml, hown, hts, hK, hAf, hX, hini, hsc, hret⟩, rfl⟩ := hV
  intro A H locs ls hag hL hP hD hS hl
  exact lv_iload_n hx hb hd hj (ab_load hl hi) (k A H locs ls hag hL hP hD hS hl)
theorem rb_iload (hV : ab_Cl cc own nL R al n0 ini sc ret post mc ms V) {i : Nat} {z : Int} (hd : decode cc pc = .ok (.iload i, 2)) (hi : L[i]? = some (some (.inl z))) (k : V (pc + 2) L (.inl z :: st) h kc ks) : V pc L st h kc ks := by
  obtain ⟨p, l, e, s, m, args, below, meth, c, D, cA, A0, Af, Q, ⟨hx, hb, hml, hown, hts, hK, hAf, hX, hini, hsc, hret⟩, rfl⟩ := hV
  intro A H locs ls hag hL hP hD hS hl
  exact lv_iload hx hb hd (ab_load hl hi) (k A H locs ls hag hL hP hD hS hl)
theorem rb_aload_n (hV : ab_Cl cc own nL R al n0 ini sc ret post mc ms V) {j : Fin 4} {i : Nat} {z : Nat} (hd : decode cc pc = .ok (.aload_n j, 1)) (hj : (j : Nat) = i) (hi : L[i]? = some (some (.inr (some z)))) (k : V (pc + 1) L (.inr (some z) :: st) h kc ks) : V pc L st h kc ks := by
  obtain ⟨p, l, e, s, m, args, below, meth, c, D, cA, A0, Af, Q, ⟨hx, hb, hml, hown, hts, hK, hAf, hX, hini, hsc, hret⟩, rfl⟩ := hV
  intro A H locs ls hag hL hP hD hS hl
  exact lv_aload_n hx hb hd hj (ab_load hl hi) (k A H locs ls hag hL hP hD hS hl)
theorem rb_aload (hV : ab_Cl cc own nL R al n0 ini sc ret post mc ms V) {i : Nat} {z : Nat} (hd : decode cc pc = .ok (.aload i, 2)) (hi : L[i]? = some (some (.inr (some z)))) (k : V (pc + 2) L (.inr (some z) :: st) h kc ks) : V pc L st h kc ks := by
  obtain ⟨p, l, e, s, m, args, below, meth, c, D, cA, A0, Af, Q, ⟨hx, hb, hml, hown, hts, hK, hAf, hX, hini, hsc, hret⟩, rfl⟩ := hV
  intro A H locs ls hag hL hP hD hS hl
  exact lv_aload hx hb hd (ab_load hl hi) (k A H locs ls hag hL hP hD hS hl)
theorem rb_istore_n (hV : ab_Cl cc own nL R al n0 ini sc ret post mc ms V) {j : Fin 4} {i : Nat} {z : Int} {L2 : ab_L} (hd : decode cc pc = .ok (.istore_n j, 1)) (hj : (j : Nat) = i) (hi : i < L.length) (hL2 : L.set i (some (.inl z)) = L2) (k : V (pc + 1) L2 st h kc ks) : V pc L (.inl z :: st) h kc ks := by
  obtain ⟨p, l, e, s, m, args, below, meth, c, D, cA, A0, Af, Q, ⟨hx, hb, hml, hown, hts, hK, hAf, hX, hini, hsc, hret⟩, rfl⟩ := hV
  intro A H locs ls hag hL hP hD hS hl
  subst hL2
  refine lv_istore_n hx hb hd hj hl (by omega) rfl (fun ls' hl' => ?_)
  exact k A H locs ls' hag (by rw [List.length_set]; exact hL) hP hD hS (ab_store (v := .inl z) hl')
theorem rb_istore (hV : ab_Cl cc own nL R al n0 ini sc ret post mc ms V) {i : Nat} {z : Int} {L2 : ab_L} (hd : decode cc pc = .ok (.istore i, 2)) (hi : i < L.length) (hL2 : L.set i (some (.inl z)) = L2) (k : V (pc + 2) L2 st h kc ks) : V pc L (.inl z :: st) h kc ks := by
  obtain ⟨p, l, e, s, m, args, below, meth, c, D, cA, A0, Af, Q, ⟨hx, hb, hml, hown, hts, hK, hAf, hX, hini, hsc, hret⟩, rfl⟩ := hV
  intro A H locs ls hag hL hP hD hS hl
  subst hL2
  refine lv_istore hx hb hd hl (by omega) rfl (fun ls' hl' => ?_)
  exact k A H locs ls' hag (by rw [List.length_set]; exact hL) hP hD hS (ab_store (v := .inl z) hl')
theorem rb_astore_n (hV : ab_Cl cc own nL R al n0 ini sc ret post mc ms V) {j : Fin 4} {i : Nat} {z : Nat} {L2 : ab_L} (hd : decode cc pc = .ok (.astore_n j, 1)) (hj : (j : Nat) = i) (hi : i < L.length) (hL2 : L.set i (some (.inr (some z))) = L2) (k : V (pc + 1) L2 st h kc ks) : V pc L (.inr (some z) :: st) h kc ks := by
  obtain ⟨p, l, e, s, m, args, below, meth, c, D, cA, A0, Af, Q, ⟨hx, hb, hml, hown, hts, hK, hAf, hX, hini, hsc, hret⟩, rfl⟩ := hV
  intro A H locs ls hag hL hP hD hS hl
  subst hL2
  refine lv_astore_n hx hb hd hj hl (by omega) rfl (fun ls' hl' => ?_)
  exact k A H locs ls' hag (by rw [List.length_set]; exact hL) hP hD hS (ab_store (v := .inr (some z)) hl')
theorem rb_astore (hV : ab_Cl cc own nL R al n0 ini sc ret post mc ms V) {i : Nat} {z : Nat} {L2 : ab_L} (hd : decode cc pc = .ok (.astore i, 2)) (hi : i < L.length) (hL2 : L.set i (some (.inr (some z))) = L2) (k : V (pc + 2) L2 st h kc ks) : V pc L (.inr (some z) :: st) h kc ks := by
  obtain ⟨p, l, e, s, m, args, below, meth, c, D, cA, A0, Af, Q, ⟨hx, hb, hml, hown, hts, hK, hAf, hX, hini, hsc, hret⟩, rfl⟩ := hV
  intro A H locs ls hag hL hP hD hS hl
  subst hL2
  refine lv_astore hx hb hd hl (by omega) rfl (fun ls' hl' => ?_)
  exact k A H locs ls' hag (by rw [List.length_set]; exact hL) hP hD hS (ab_store (v := .inr (some z)) hl')
theorem rb_iinc (hV : ab_Cl cc own nL R al n0 ini sc ret post mc ms V) {i : Nat} {n z z2 : Int} {L2 : ab_L} (hd : decode cc pc = .ok (.iinc i n, 3)) (hi : L[i]? = some (some (.inl z))) (hz : z + n = z2) (hL2 : L.set i (some (.inl z2)) = L2) (k : V (pc + 3) L2 st h kc ks) : V pc L st h kc ks := by
  obtain ⟨p, l, e, s, m, args, below, meth, c, D, cA, A0, Af, Q, ⟨hx, hb, hml, hown, hts, hK, hAf, hX, hini, hsc, hret⟩, rfl⟩ := hV
  intro A H locs ls hag hL hP hD hS hl
  subst hL2
  have hm : (i, ab_v A (.inl z)) ∈ ab_l A 0 L := (ab_l_mem A L 0 _).mpr ⟨i, .inl z, hi, by rw [Nat.zero_add]⟩
  obtain ⟨q, hq⟩ := List.getElem?_of_mem hm
  have hi2 : i < nL := by rw [← hL]; exact (List.getElem?_eq_some_iff.mp hi).1
  refine lv_iinc (v := ab_i z2) hx hb hd hl hq (by rw [← hz]; exact ab_add z n) hi2 rfl (fun ls' hl' => ?_)
  exact k A H locs ls' hag (by rw [List.length_set]; exact hL) hP hD hS (ab_store (v := .inl z2) hl')
theorem rb_iadd (hV : ab_Cl cc own nL R al n0 ini sc ret post mc ms V) {x y : Int} (hd : decode cc pc = .ok (.iadd, 1)) (k : V (pc + 1) L (.inl (x + y) :: st) h kc ks) : V pc L (.inl y :: .inl x :: st) h kc ks := by
  obtain ⟨p, l, e, s, m, args, below, meth, c, D, cA, A0, Af, Q, ⟨hx, hb, hml, hown, hts, hK, hAf, hX, hini, hsc, hret⟩, rfl⟩ := hV
  intro A H locs ls hag hL hP hD hS hl
  have k1 := k A H locs ls hag hL hP hD hS hl
  refine lv_iadd hx hb hd ?_
  rw [ab_add]
  exact k1
theorem rb_isub (hV : ab_Cl cc own nL R al n0 ini sc ret post mc ms V) {x y : Int} (hd : decode cc pc = .ok (.isub, 1)) (k : V (pc + 1) L (.inl (x - y) :: st) h kc ks) : V pc L (.inl y :: .inl x :: st) h kc ks := by
  obtain ⟨p, l, e, s, m, args, below, meth, c, D, cA, A0, Af, Q, ⟨hx, hb, hml, hown, hts, hK, hAf, hX, hini, hsc, hret⟩, rfl⟩ := hV
  intro A H locs ls hag hL hP hD hS hl
  have k1 := k A H locs ls hag hL hP hD hS hl
  refine lv_isub hx hb hd ?_
  rw [ab_sub]
  exact k1
theorem rb_imul (hV : ab_Cl cc own nL R al n0 ini sc ret post mc ms V) {x y : Int} (hd : decode cc pc = .ok (.imul, 1)) (k : V (pc + 1) L (.inl (x * y) :: st) h kc ks) : V pc L (.inl y :: .inl x :: st) h kc ks := by
  obtain ⟨p, l, e, s, m, args, below, meth, c, D, cA, A0, Af, Q, ⟨hx, hb, hml, hown, hts, hK, hAf, hX, hini, hsc, hret⟩, rfl⟩ := hV
  intro A H locs ls hag hL hP hD hS hl
  have k1 := k A H locs ls hag hL hP hD hS hl
  refine lv_imul hx hb hd ?_
  rw [ab_mul]
  exact k1
theorem rb_idiv (hV : ab_Cl cc own nL R al n0 ini sc ret post mc ms V) {x y : Int} (hd : decode cc pc = .ok (.idiv, 1)) (hr : ab_r x ∧ ab_r y) (hy : y ≠ 0) (k : V (pc + 1) L (.inl (x.tdiv y) :: st) h kc ks) : V pc L (.inl y :: .inl x :: st) h kc ks := by
  obtain ⟨p, l, e, s, m, args, below, meth, c, D, cA, A0, Af, Q, ⟨hx, hb, hml, hown, hts, hK, hAf, hX, hini, hsc, hret⟩, rfl⟩ := hV
  intro A H locs ls hag hL hP hD hS hl
  have k1 := k A H locs ls hag hL hP hD hS hl
  refine lv_idiv hx hb hd (fun z => hy ((ab_eq hr.2 ab_r0).mp (by rw [z, ab_0]))) ?_
  rw [ab_div hr.1 hr.2]
  exact k1
theorem rb_ineg (hV : ab_Cl cc own nL R al n0 ini sc ret post mc ms V) {x : Int} (hd : decode cc pc = .ok (.ineg, 1)) (k : V (pc + 1) L (.inl (-x) :: st) h kc ks) : V pc L (.inl x :: st) h kc ks := by
  obtain ⟨p, l, e, s, m, args, below, meth, c, D, cA, A0, Af, Q, ⟨hx, hb, hml, hown, hts, hK, hAf, hX, hini, hsc, hret⟩, rfl⟩ := hV
  intro A H locs ls hag hL hP hD hS hl
  have k1 := k A H locs ls hag hL hP hD hS hl
  refine lv_ineg hx hb hd ?_
  rw [ab_neg]
  exact k1
theorem rb_pop (hV : ab_Cl cc own nL R al n0 ini sc ret post mc ms V) {v : ab_V} (hd : decode cc pc = .ok (.pop, 1)) (k : V (pc + 1) L st h kc ks) : V pc L (v :: st) h kc ks := by
  obtain ⟨p, l, e, s, m, args, below, meth, c, D, cA, A0, Af, Q, ⟨hx, hb, hml, hown, hts, hK, hAf, hX, hini, hsc, hret⟩, rfl⟩ := hV
  intro A H locs ls hag hL hP hD hS hl
  exact lv_pop hx hb hd (ab_cat A v) (k A H locs ls hag hL hP hD hS hl)
theorem rb_dup (hV : ab_Cl cc own nL R al n0 ini sc ret post mc ms V) {v : ab_V} (hd : decode cc pc = .ok (.dup, 1)) (k : V (pc + 1) L (v :: v :: st) h kc ks) : V pc L (v :: st) h kc ks := by
  obtain ⟨p, l, e, s, m, args, below, meth, c, D, cA, A0, Af, Q, ⟨hx, hb, hml, hown, hts, hK, hAf, hX, hini, hsc, hret⟩, rfl⟩ := hV
  intro A H locs ls hag hL hP hD hS hl
  exact lv_dup hx hb hd (ab_cat A v) (k A H locs ls hag hL hP hD hS hl)
theorem rb_dup2 (hV : ab_Cl cc own nL R al n0 ini sc ret post mc ms V) {v w : ab_V} (hd : decode cc pc = .ok (.dup2, 1)) (k : V (pc + 1) L (v :: w :: v :: w :: st) h kc ks) : V pc L (v :: w :: st) h kc ks := by
  obtain ⟨p, l, e, s, m, args, below, meth, c, D, cA, A0, Af, Q, ⟨hx, hb, hml, hown, hts, hK, hAf, hX, hini, hsc, hret⟩, rfl⟩ := hV
  intro A H locs ls hag hL hP hD hS hl
  exact lv_dup2_11 hx hb hd (ab_cat A v) (ab_cat A w) (k A H locs ls hag hL hP hD hS hl)
theorem rb_goto (hV : ab_Cl cc own nL R al n0 ini sc ret post mc ms V) {off : Int} {tgt : Nat} (hd : decode cc pc = .ok (.goto off, 3)) (ht : (pc : Int) + off = (tgt : Int)) (k : V tgt L st h kc ks) : V pc L st h kc ks := by
  obtain ⟨p, l, e, s, m, args, below, meth, c, D, cA, A0, Af, Q, ⟨hx, hb, hml, hown, hts, hK, hAf, hX, hini, hsc, hret⟩, rfl⟩ := hV
  intro A H locs ls hag hL hP hD hS hl
  exact lv_goto hx hb hd ht (k A H locs ls hag hL hP hD hS hl)
theorem rb_icmp_eq (hV : ab_Cl cc own nL R al n0 ini sc ret post mc ms V) {x y : Int} {off : Int} {tgt : Nat} (hd : decode cc pc = .ok (.if_icmp .eq off, 3)) (ht : (pc : Int) + off = (tgt : Int)) (hr : ab_r x ∧ ab_r y) (kt : x = y → V tgt L st h kc ks) (kf : ¬ x = y → V (pc + 3) L st h kc ks) : V pc L (.inl y :: .inl x :: st) h kc ks := by
  obtain ⟨p, l, e, s, m, args, below, meth, c, D, cA, A0, Af, Q, ⟨hx, hb, hml, hown, hts, hK, hAf, hX, hini, hsc, hret⟩, rfl⟩ := hV
  intro A H locs ls hag hL hP hD hS hl
  exact lv_icmp_eq hx hb hd ht (fun z => kt ((ab_eq hr.1 hr.2).mp z) A H locs ls hag hL hP hD hS hl) (fun z => kf (fun q => z ((ab_eq hr.1 hr.2).mpr q)) A H locs ls hag hL hP hD hS hl)
theorem rb_icmp_ne (hV : ab_Cl cc own nL R al n0 ini sc ret post mc ms V) {x y : Int} {off : Int} {tgt : Nat} (hd : decode cc pc = .ok (.if_icmp .ne off, 3)) (ht : (pc : Int) + off = (tgt : Int)) (hr : ab_r x ∧ ab_r y) (kt : ¬ x = y → V tgt L st h kc ks) (kf : x = y → V (pc + 3) L st h kc ks) : V pc L (.inl y :: .inl x :: st) h kc ks := by
  obtain ⟨p, l, e, s, m, args, below, meth, c, D, cA, A0, Af, Q, ⟨hx, hb, hml, hown, hts, hK, hAf, hX, hini, hsc, hret⟩, rfl⟩ := hV
  intro A H locs ls hag hL hP hD hS hl
  exact lv_icmp_ne hx hb hd ht (fun z => kt (fun q => z ((ab_eq hr.1 hr.2).mpr q)) A H locs ls hag hL hP hD hS hl) (fun z => kf ((ab_eq hr.1 hr.2).mp z) A H locs ls hag hL hP hD hS hl)
theorem rb_icmp_lt (hV : ab_Cl cc own nL R al n0 ini sc ret post mc ms V) {x y : Int} {off : Int} {tgt : Nat} (hd : decode cc pc = .ok (.if_icmp .lt off, 3)) (ht : (pc : Int) + off = (tgt : Int)) (hr : ab_r x ∧ ab_r y) (kt : x < y → V tgt L st h kc ks) (kf : ¬ x < y → V (pc + 3) L st h kc ks) : V pc L (.inl y :: .inl x :: st) h kc ks := by
  obtain ⟨p, l, e, s, m, args, below, meth, c, D, cA, A0, Af, Q, ⟨hx, hb, hml, hown, hts, hK, hAf, hX, hini, hsc, hret⟩, rfl⟩ := hV
  intro A H locs ls hag hL hP hD hS hl
  exact lv_icmp_lt hx hb hd ht (fun z => kt ((ab_lt hr.1 hr.2).mp z) A H locs ls hag hL hP hD hS hl) (fun z => kf (fun q => z ((ab_lt hr.1 hr.2).mpr q)) A H locs ls hag hL hP hD hS hl)
theorem rb_icmp_ge (hV : ab_Cl cc own nL R al n0 ini sc ret post mc ms V) {x y : Int} {off : Int} {tgt : Nat} (hd : decode cc pc = .ok (.if_icmp .ge off, 3)) (ht : (pc : Int) + off = (tgt : Int)) (hr : ab_r x ∧ ab_r y) (kt : y ≤ x → V tgt L st h kc ks) (kf : ¬ y ≤ x → V (pc + 3) L st h kc ks) : V pc L (.inl y :: .inl x :: st) h kc ks := by
  obtain ⟨p, l, e, s, m, args, below, meth, c, D, cA, A0, Af, Q, ⟨hx, hb, hml, hown, hts, hK, hAf, hX, hini, hsc, hret⟩, rfl⟩ := hV
  intro A H locs ls hag hL hP hD hS hl
  exact lv_icmp_ge hx hb hd ht (fun z => kt ((ab_le hr.2 hr.1).mp z) A H locs ls hag hL hP hD hS hl) (fun z => kf (fun q => z ((ab_le hr.2 hr.1).mpr q)) A H locs ls hag hL hP hD hS hl)
theorem rb_icmp_gt (hV : ab_Cl cc own nL R al n0 ini sc ret post mc ms V) {x y : Int} {off : Int} {tgt : Nat} (hd : decode cc pc = .ok (.if_icmp .gt off, 3)) (ht : (pc : Int) + off = (tgt : Int)) (hr : ab_r x ∧ ab_r y) (kt : y < x → V tgt L st h kc ks) (kf : ¬ y < x → V (pc + 3) L st h kc ks) : V pc L (.inl y :: .inl x :: st) h kc ks := by
  obtain ⟨p, l, e, s, m, args, below, meth, c, D, cA, A0, Af, Q, ⟨hx, hb, hml, hown, hts, hK, hAf, hX, hini, hsc, hret⟩, rfl⟩ := hV
  intro A H locs ls hag hL hP hD hS hl
  exact lv_icmp_gt hx hb hd ht (fun z => kt ((ab_lt hr.2 hr.1).mp z) A H locs ls hag hL hP hD hS hl) (fun z => kf (fun q => z ((ab_lt hr.2 hr.1).mpr q)) A H locs ls hag hL hP hD hS hl)
theorem rb_icmp_le (hV : ab_Cl cc own nL R al n0 ini sc ret post mc ms V) {x y : Int} {off : Int} {tgt : Nat} (hd : decode cc pc = .ok (.if_icmp .le off, 3)) (ht : (pc : Int) + off = (tgt : Int)) (hr : ab_r x ∧ ab_r y) (kt : x ≤ y → V tgt L st h kc ks) (kf : ¬ x ≤ y → V (pc + 3) L st h kc ks) : V pc L (.inl y :: .inl x :: st) h kc ks := by
  obtain ⟨p, l, e, s, m, args, below, meth, c, D, cA, A0, Af, Q, ⟨hx, hb, hml, hown, hts, hK, hAf, hX, hini, hsc, hret⟩, rfl⟩ := hV
  intro A H locs ls hag hL hP hD hS hl
  exact lv_icmp_le hx hb hd ht (fun z => kt ((ab_le hr.1 hr.2).mp z) A H locs ls hag hL hP hD hS hl) (fun z => kf (fun q => z ((ab_le hr.1 hr.2).mpr q)) A H locs ls hag hL hP hD hS hl)
theorem rb_if_eq (hV : ab_Cl cc own nL R al n0 ini sc ret post mc ms V) {x : Int} {off : Int} {tgt : Nat} (hd : decode cc pc = .ok (.ifCond .eq off, 3)) (ht : (pc : Int) + off = (tgt : Int)) (hr : ab_r x) (kt : x = 0 → V tgt L st h kc ks) (kf : ¬ x = 0 → V (pc + 3) L st h kc ks) : V pc L (.inl x :: st) h kc ks := by
  obtain ⟨p, l, e, s, m, args, below, meth, c, D, cA, A0, Af, Q, ⟨hx, hb, hml, hown, hts, hK, hAf, hX, hini, hsc, hret⟩, rfl⟩ := hV
  intro A H locs ls hag hL hP hD hS hl
  exact lv_if_eq hx hb hd ht (fun z => kt ((ab_eq hr ab_r0).mp z) A H locs ls hag hL hP hD hS hl) (fun z => kf (fun q => z ((ab_eq hr ab_r0).mpr q)) A H locs ls hag hL hP hD hS hl)
theorem rb_if_ne (hV : ab_Cl cc own nL R al n0 ini sc ret post mc ms V) {x : Int} {off : Int} {tgt : Nat} (hd : decode cc pc = .ok (.ifCond .ne off, 3)) (ht : (pc : Int) + off = (tgt : Int)) (hr : ab_r x) (kt : ¬ x = 0 → V tgt L st h kc ks) (kf : x = 0 → V (pc + 3) L st h kc ks) : V pc L (.inl x :: st) h kc ks := by
  obtain ⟨p, l, e, s, m, args, below, meth, c, D, cA, A0, Af, Q, ⟨hx, hb, hml, hown, hts, hK, hAf, hX, hini, hsc, hret⟩, rfl⟩ := hV
  intro A H locs ls hag hL hP hD hS hl
  exact lv_if_ne hx hb hd ht (fun z => kt (fun q => z ((ab_eq hr ab_r0).mpr q)) A H locs ls hag hL hP hD hS hl) (fun z => kf ((ab_eq hr ab_r0).mp z) A H locs ls hag hL hP hD hS hl)
theorem rb_if_lt (hV : ab_Cl cc own nL R al n0 ini sc ret post mc ms V) {x : Int} {off : Int} {tgt : Nat} (hd : decode cc pc = .ok (.ifCond .lt off, 3)) (ht : (pc : Int) + off = (tgt : Int)) (hr : ab_r x) (kt : x < 0 → V tgt L st h kc ks) (kf : ¬ x < 0 → V (pc + 3) L st h kc ks) : V pc L (.inl x :: st) h kc ks := by
  obtain ⟨p, l, e, s, m, args, below, meth, c, D, cA, A0, Af, Q, ⟨hx, hb, hml, hown, hts, hK, hAf, hX, hini, hsc, hret⟩, rfl⟩ := hV
  intro A H locs ls hag hL hP hD hS hl
  exact lv_if_lt hx hb hd ht (fun z => kt ((ab_lt hr ab_r0).mp z) A H locs ls hag hL hP hD hS hl) (fun z => kf (fun q => z ((ab_lt hr ab_r0).mpr q)) A H locs ls hag hL hP hD hS hl)
theorem rb_if_ge (hV : ab_Cl cc own nL R al n0 ini sc ret post mc ms V) {x : Int} {off : Int} {tgt : Nat} (hd : decode cc pc = .ok (.ifCond .ge off, 3)) (ht : (pc : Int) + off = (tgt : Int)) (hr : ab_r x) (kt : 0 ≤ x → V tgt L st h kc ks) (kf : ¬ 0 ≤ x → V (pc + 3) L st h kc ks) : V pc L (.inl x :: st) h kc ks := by
  obtain ⟨p, l, e, s, m, args, below, meth, c, D, cA, A0, Af, Q, ⟨hx, hb, hml, hown, hts, hK, hAf, hX, hini, hsc, hret⟩, rfl⟩ := hV
  intro A H locs ls hag hL hP hD hS hl
  exact lv_if_ge hx hb hd ht (fun z => kt ((ab_le ab_r0 hr).mp z) A H locs ls hag hL hP hD hS hl) (fun z => kf (fun q => z ((ab_le ab_r0 hr).mpr q)) A H locs ls hag hL hP hD hS hl)
theorem rb_if_gt (hV : ab_Cl cc own nL R al n0 ini sc ret post mc ms V) {x : Int} {off : Int} {tgt : Nat} (hd : decode cc pc = .ok (.ifCond .gt off, 3)) (ht : (pc : Int) + off = (tgt : Int)) (hr : ab_r x) (kt : 0 < x → V tgt L st h kc ks) (kf : ¬ 0 < x → V (pc + 3) L st h kc ks) : V pc L (.inl x :: st) h kc ks := by
  obtain ⟨p, l, e, s, m, args, below, meth, c, D, cA, A0, Af, Q, ⟨hx, hb, hml, hown, hts, hK, hAf, hX, hini, hsc, hret⟩, rfl⟩ := hV
  intro A H locs ls hag hL hP hD hS hl
  exact lv_if_gt hx hb hd ht (fun z => kt ((ab_lt ab_r0 hr).mp z) A H locs ls hag hL hP hD hS hl) (fun z => kf (fun q => z ((ab_lt ab_r0 hr).mpr q)) A H locs ls hag hL hP hD hS hl)
theorem rb_if_le (hV : ab_Cl cc own nL R al n0 ini sc ret post mc ms V) {x : Int} {off : Int} {tgt : Nat} (hd : decode cc pc = .ok (.ifCond .le off, 3)) (ht : (pc : Int) + off = (tgt : Int)) (hr : ab_r x) (kt : x ≤ 0 → V tgt L st h kc ks) (kf : ¬ x ≤ 0 → V (pc + 3) L st h kc ks) : V pc L (.inl x :: st) h kc ks := by
  obtain ⟨p, l, e, s, m, args, below, meth, c, D, cA, A0, Af, Q, ⟨hx, hb, hml, hown, hts, hK, hAf, hX, hini, hsc, hret⟩, rfl⟩ := hV
  intro A H locs ls hag hL hP hD hS hl
  exact lv_if_le hx hb hd ht (fun z => kt ((ab_le hr ab_r0).mp z) A H locs ls hag hL hP hD hS hl) (fun z => kf (fun q => z ((ab_le hr ab_r0).mpr q)) A H locs ls hag hL hP hD hS hl)
theorem rb_tabIn (hV : ab_Cl cc own nL R al n0 ini sc ret post mc ms V) {dflt lo hi : Int} {offs : Array Int} {len : Nat} {x : Int} {off : Int} {tgt : Nat} (hd : decode cc pc = .ok (.tableswitch dflt lo hi offs, len)) (hr : ab_r x) (h1 : lo ≤ x) (h2 : x ≤ hi) (ho : offs[(x - lo).toNat]? = some off) (ht : (pc : Int) + off = (tgt : Int)) (k : V tgt L st h kc ks) : V pc L (.inl x :: st) h kc ks := by
  obtain ⟨p, l, e, s, m, args, below, meth, c, D, cA, A0, Af, Q, ⟨hx, hb, hml, hown, hts, hK, hAf, hX, hini, hsc, hret⟩, rfl⟩ := hV
  intro A H locs ls hag hL hP hD hS hl
  have hz := ab_toInt hr
  exact lv_tableIn hx hb hd (by rw [hz]; omega) (by rw [hz]; omega) (by rw [hz]; exact ho) ht (k A H locs ls hag hL hP hD hS hl)
theorem rb_tabOut (hV : ab_Cl cc own nL R al n0 ini sc ret post mc ms V) {dflt lo hi : Int} {offs : Array Int} {len : Nat} {x : Int} {tgt : Nat} (hd : decode cc pc = .ok (.tableswitch dflt lo hi offs, len)) (hr : ab_r x) (h1 : x < lo ∨ hi < x) (ht : (pc : Int) + dflt = (tgt : Int)) (k : V tgt L st h kc ks) : V pc L (.inl x :: st) h kc ks := by
  obtain ⟨p, l, e, s, m, args, below, meth, c, D, cA, A0, Af, Q, ⟨hx, hb, hml, hown, hts, hK, hAf, hX, hini, hsc, hret⟩, rfl⟩ := hV
  intro A H locs ls hag hL hP hD hS hl
  have hz := ab_toInt hr
  exact lv_tableOut hx hb hd (by rw [hz]; exact h1) ht (k A H locs ls hag hL hP hD hS hl)
/-- a field's place in its class's table, by the constant pool's entry -/
def ab_F (own : String) (idx ci k : Nat) : Prop := ∃ (C : String) (T : u_T) (N : Nat), xcl[ci]? = some (C, T, N) ∧ k < N ∧ Cond.fieldLink own idx (T k).1 (T k).2.1 (T k).2.2.1 ∈ xtb
theorem rb_get (hV : ab_Cl cc own nL R al n0 ini sc ret post mc ms V) {idx ci j q : Nat} {fs : List ab_V} {v : ab_V} (hd : decode cc pc = .ok (.getfield idx, 3)) (hf : ab_F own idx ci j) (hq : h[q]? = some (.inr (ci, fs))) (hv : fs[j]? = some v) (k : V (pc + 3) L (v :: st) h kc ks) : V pc L (.inr (some q) :: st) h kc ks := by
  obtain ⟨p, l, e, s, m, args, below, meth, c, D, cA, A0, Af, Q, ⟨hx, hb, hml, hown, hts, hK, hAf, hX, hini, hsc, hret⟩, rfl⟩ := hV
  intro A H locs ls hag hL hP hD hS hl
  obtain ⟨C, T, N, h1, h2, h3⟩ := hf
  refine va_get (C := C) (T := T) (N := N) (ci := ci) hx hb hts (xcl_ok h1).1 hown hK hP q (ab_w_at hq) h1 j h2 (hts _ h3) (fun _ z => z) (v := ab_v A v) ?_ hd (k A H locs ls hag hL hP hD hS hl)
  rw [List.getElem?_map, hv]
  rfl
theorem rb_put (hV : ab_Cl cc own nL R al n0 ini sc ret post mc ms V) {idx ci j q : Nat} {fs : List ab_V} {v : ab_V} {h2 : List ab_E} {C : String} {T : u_T} {N : Nat} (hd : decode cc pc = .ok (.putfield idx, 3)) (hc : xcl[ci]? = some (C, T, N)) (hj : j < N) (hlk : Cond.fieldLink own idx (T j).1 (T j).2.1 (T j).2.2.1 ∈ xtb) (hfin : (T j).2.2.2 = false) (hq : h[q]? = some (.inr (ci, fs))) (hl2 : j < fs.length) (hty : ab_fit (parseFieldDescriptor (T j).2.2.1) v) (hh : h.set q (.inr (ci, fs.set j v)) = h2) (k : V (pc + 3) L st h2 kc ks) : V pc L (v :: .inr (some q) :: st) h kc ks := by
  obtain ⟨p, l, e, s, m, args, below, meth, c, D, cA, A0, Af, Q, ⟨hx, hb, hml, hown, hts, hK, hAf, hX, hini, hsc, hret⟩, rfl⟩ := hV
  intro A H locs ls hag hL hP hD hS hl
  subst hh
  obtain ⟨ty, t1, t2, t3⟩ := ab_fit_ok A hty
  obtain ⟨ty0, hn1, hn2⟩ := (xcl_ok hc).2
  refine va_put (C := C) (T := T) (N := N) (ci := ci) hx hb hts (xcl_ok hc).1 ty0 hn1 hn2 hown hK hP hD hS q (ab_w_at hq) hc j hj (hts _ hlk) (fun _ z => z) hfin (ty := ty) (v := ab_v A v) t1 t2 t3 (by rw [List.length_map]; exact hl2) hd (fun H1 locs1 P1 D1 S1 => ?_)
  have e1 : (ab_w A cA 0 h).set q (A q, .inr (ci, (fs.map (ab_v A)).set j (ab_v A v))) = ab_w A cA 0 (h.set q (.inr (ci, fs.set j v))) := by
    rw [← ab_w_put, ← List.map_set]
    rfl
  rw [e1] at P1 D1
  exact k A H1 locs1 ls hag hL P1 D1 S1 hl
theorem rb_putF (hV : ab_Cl cc own nL R al n0 ini sc ret post mc ms V) {idx ci j q : Nat} {fs : List ab_V} {v : ab_V} {h2 : List ab_E} {C : String} {T : u_T} {N : Nat} (hd : decode cc pc = .ok (.putfield idx, 3)) (hc : xcl[ci]? = some (C, T, N)) (hj : j < N) (hlk : Cond.fieldLink own idx (T j).1 (T j).2.1 (T j).2.2.1 ∈ xtb) (hfin : (T j).2.2.2 = true) (hi : ini = true) (hdc : (T j).1 = own) (hq : h[q]? = some (.inr (ci, fs))) (hl2 : j < fs.length) (hty : ab_fit (parseFieldDescriptor (T j).2.2.1) v) (hh : h.set q (.inr (ci, fs.set j v)) = h2) (k : V (pc + 3) L st h2 kc ks) : V pc L (v :: .inr (some q) :: st) h kc ks := by
  obtain ⟨p, l, e, s, m, args, below, meth, c, D, cA, A0, Af, Q, ⟨hx, hb, hml, hown, hts, hK, hAf, hX, hini, hsc, hret⟩, rfl⟩ := hV
  intro A H locs ls hag hL hP hD hS hl
  subst hh
  obtain ⟨ty, t1, t2, t3⟩ := ab_fit_ok A hty
  obtain ⟨ty0, hn1, hn2⟩ := (xcl_ok hc).2
  refine va_putF (C := C) (T := T) (N := N) (ci := ci) hx hb hts (xcl_ok hc).1 ty0 hn1 hn2 hown hK hP hD hS q (ab_w_at hq) hc j hj (hts _ hlk) (fun _ z => z) hfin (hini hi) hdc (ty := ty) (v := ab_v A v) t1 t2 t3 (by rw [List.length_map]; exact hl2) hd (fun H1 locs1 P1 D1 S1 => ?_)
  have e1 : (ab_w A cA 0 h).set q (A q, .inr (ci, (fs.map (ab_v A)).set j (ab_v A v))) = ab_w A cA 0 (h.set q (.inr (ci, fs.set j v))) := by
    rw [← ab_w_put, ← List.map_set]
    rfl
  rw [e1] at P1 D1
  exact k A H1 locs1 ls hag hL P1 D1 S1 hl
theorem ab_upd (f : Int → Int) (z v : Int) (hz : 0 ≤ z) : (fun j : Nat => ab_i (ab_u f z v (j : Int))) = upd (fun j : Nat => ab_i (f (j : Int))) z.toNat (ab_i v) := by
  funext j
  unfold ab_u upd
  by_cases hj : j = z.toNat
  · rw [if_pos hj, if_pos (show (j : Int) = z by omega)]
  · rw [if_neg hj, if_neg (show ¬ (j : Int) = z by omega)]
theorem rb_iald (hV : ab_Cl cc own nL R al n0 ini sc ret post mc ms V) {q n : Nat} {f : Int → Int} {z : Int} (hd : decode cc pc = .ok (.iaload, 1)) (hq : h[q]? = some (.inl (0, n, f))) (hn : n < 2147483648) (hz : 0 ≤ z ∧ z < n) (k : V (pc + 1) L (.inl (f z) :: st) h kc ks) : V pc L (.inl z :: .inr (some q) :: st) h kc ks := by
  obtain ⟨p, l, e, s, m, args, below, meth, c, D, cA, A0, Af, Q, ⟨hx, hb, hml, hown, hts, hK, hAf, hX, hini, hsc, hret⟩, rfl⟩ := hV
  intro A H locs ls hag hL hP hD hS hl
  have k1 := k A H locs ls hag hL hP hD hS hl
  have hr : ab_r z := ⟨by omega, by omega⟩
  refine va_iald hx hb hK hP q 0 (ab_w_at hq) rfl (ab_vin hn hz.1 hz.2) hd ?_
  rw [ab_clamp hr, show ((z.toNat : Nat) : Int) = z by omega]
  exact k1
theorem rb_cald (hV : ab_Cl cc own nL R al n0 ini sc ret post mc ms V) {q n : Nat} {f : Int → Int} {z : Int} (hd : decode cc pc = .ok (.caload, 1)) (hq : h[q]? = some (.inl (1, n, f))) (hn : n < 2147483648) (hz : 0 ≤ z ∧ z < n) (k : V (pc + 1) L (.inl (f z) :: st) h kc ks) : V pc L (.inl z :: .inr (some q) :: st) h kc ks := by
  obtain ⟨p, l, e, s, m, args, below, meth, c, D, cA, A0, Af, Q, ⟨hx, hb, hml, hown, hts, hK, hAf, hX, hini, hsc, hret⟩, rfl⟩ := hV
  intro A H locs ls hag hL hP hD hS hl
  have k1 := k A H locs ls hag hL hP hD hS hl
  have hr : ab_r z := ⟨by omega, by omega⟩
  refine va_cald hx hb hK hP q 1 (ab_w_at hq) rfl (ab_vin hn hz.1 hz.2) hd ?_
  rw [ab_clamp hr, show ((z.toNat : Nat) : Int) = z by omega]
  exact k1
theorem rb_zald (hV : ab_Cl cc own nL R al n0 ini sc ret post mc ms V) {q n : Nat} {f : Int → Int} {z : Int} (hd : decode cc pc = .ok (.baload, 1)) (hq : h[q]? = some (.inl (2, n, f))) (hn : n < 2147483648) (hz : 0 ≤ z ∧ z < n) (k : V (pc + 1) L (.inl (f z) :: st) h kc ks) : V pc L (.inl z :: .inr (some q) :: st) h kc ks := by
  obtain ⟨p, l, e, s, m, args, below, meth, c, D, cA, A0, Af, Q, ⟨hx, hb, hml, hown, hts, hK, hAf, hX, hini, hsc, hret⟩, rfl⟩ := hV
  intro A H locs ls hag hL hP hD hS hl
  have k1 := k A H locs ls hag hL hP hD hS hl
  have hr : ab_r z := ⟨by omega, by omega⟩
  refine va_zald hx hb hK hP q 2 (ab_w_at hq) rfl (ab_vin hn hz.1 hz.2) hd ?_
  rw [ab_clamp hr, show ((z.toNat : Nat) : Int) = z by omega]
  exact k1
theorem rb_iast (hV : ab_Cl cc own nL R al n0 ini sc ret post mc ms V) {q n : Nat} {f f2 : Int → Int} {z v : Int} {h2 : List ab_E} (hd : decode cc pc = .ok (.iastore, 1)) (hq : h[q]? = some (.inl (0, n, f))) (hn : n < 2147483648) (hz : 0 ≤ z ∧ z < n) (hf : ab_u f z v = f2) (hh : h.set q (.inl (0, n, f2)) = h2) (k : V (pc + 1) L st h2 kc ks) : V pc L (.inl v :: .inl z :: .inr (some q) :: st) h kc ks := by
  obtain ⟨p, l, e, s, m, args, below, meth, c, D, cA, A0, Af, Q, ⟨hx, hb, hml, hown, hts, hK, hAf, hX, hini, hsc, hret⟩, rfl⟩ := hV
  intro A H locs ls hag hL hP hD hS hl
  subst hh
  subst hf
  have hr : ab_r z := ⟨by omega, by omega⟩
  refine va_iast hx hb hK hP hD hS q 0 (ab_w_at hq) rfl (ab_vin hn hz.1 hz.2) hd (fun H1 locs1 P1 D1 S1 => ?_)
  rw [ab_clamp hr, ← ab_upd f z v hz.1] at P1 D1
  have e1 : (ab_w A cA 0 h).set q (A q, .inl (cA 0, n, .inl (fun j : Nat => ab_i (ab_u f z v (j : Int))))) = ab_w A cA 0 (h.set q (.inl (0, n, ab_u f z v))) := by
    rw [← ab_w_put]
    rfl
  have P2 := e1 ▸ P1
  have D2 := e1 ▸ D1
  exact k A H1 locs1 ls hag hL P2 D2 S1 hl
theorem rb_cast (hV : ab_Cl cc own nL R al n0 ini sc ret post mc ms V) {q n : Nat} {f f2 : Int → Int} {z v : Int} {h2 : List ab_E} (hd : decode cc pc = .ok (.castore, 1)) (hq : h[q]? = some (.inl (1, n, f))) (hn : n < 2147483648) (hz : 0 ≤ z ∧ z < n) (hc : 0 ≤ v ∧ v < 65536) (hf : ab_u f z v = f2) (hh : h.set q (.inl (1, n, f2)) = h2) (k : V (pc + 1) L st h2 kc ks) : V pc L (.inl v :: .inl z :: .inr (some q) :: st) h kc ks := by
  obtain ⟨p, l, e, s, m, args, below, meth, c, D, cA, A0, Af, Q, ⟨hx, hb, hml, hown, hts, hK, hAf, hX, hini, hsc, hret⟩, rfl⟩ := hV
  intro A H locs ls hag hL hP hD hS hl
  subst hh
  subst hf
  have hr : ab_r z := ⟨by omega, by omega⟩
  refine va_cast hx hb hK hP hD hS q 1 (ab_w_at hq) rfl (ab_vin hn hz.1 hz.2) hd (fun H1 locs1 P1 D1 S1 => ?_)
  rw [ab_nar_char hc] at P1 D1
  rw [ab_clamp hr, ← ab_upd f z v hz.1] at P1 D1
  have e1 : (ab_w A cA 0 h).set q (A q, .inl (cA 1, n, .inl (fun j : Nat => ab_i (ab_u f z v (j : Int))))) = ab_w A cA 0 (h.set q (.inl (1, n, ab_u f z v))) := by
    rw [← ab_w_put]
    rfl
  have P2 := e1 ▸ P1
  have D2 := e1 ▸ D1
  exact k A H1 locs1 ls hag hL P2 D2 S1 hl
theorem rb_zast (hV : ab_Cl cc own nL R al n0 ini sc ret post mc ms V) {q n : Nat} {f f2 : Int → Int} {z v : Int} {h2 : List ab_E} (hd : decode cc pc = .ok (.bastore, 1)) (hq : h[q]? = some (.inl (2, n, f))) (hn : n < 2147483648) (hz : 0 ≤ z ∧ z < n) (hc : v = 0 ∨ v = 1) (hf : ab_u f z v = f2) (hh : h.set q (.inl (2, n, f2)) = h2) (k : V (pc + 1) L st h2 kc ks) : V pc L (.inl v :: .inl z :: .inr (some q) :: st) h kc ks := by
  obtain ⟨p, l, e, s, m, args, below, meth, c, D, cA, A0, Af, Q, ⟨hx, hb, hml, hown, hts, hK, hAf, hX, hini, hsc, hret⟩, rfl⟩ := hV
  intro A H locs ls hag hL hP hD hS hl
  subst hh
  subst hf
  have hr : ab_r z := ⟨by omega, by omega⟩
  refine va_zast hx hb hK hP hD hS q 2 (ab_w_at hq) rfl (ab_vin hn hz.1 hz.2) hd (fun H1 locs1 P1 D1 S1 => ?_)
  rw [ab_nar_boolean hc] at P1 D1
  rw [ab_clamp hr, ← ab_upd f z v hz.1] at P1 D1
  have e1 : (ab_w A cA 0 h).set q (A q, .inl (cA 2, n, .inl (fun j : Nat => ab_i (ab_u f z v (j : Int))))) = ab_w A cA 0 (h.set q (.inl (2, n, ab_u f z v))) := by
    rw [← ab_w_put]
    rfl
  have P2 := e1 ▸ P1
  have D2 := e1 ▸ D1
  exact k A H1 locs1 ls hag hL P2 D2 S1 hl
theorem rb_alen (hV : ab_Cl cc own nL R al n0 ini sc ret post mc ms V) {q t n : Nat} {f : Int → Int} (hd : decode cc pc = .ok (.arraylength, 1)) (hq : h[q]? = some (.inl (t, n, f))) (ht : t < 3) (k : V (pc + 1) L (.inl (n : Int) :: st) h kc ks) : V pc L (.inr (some q) :: st) h kc ks := by
  obtain ⟨p, l, e, s, m, args, below, meth, c, D, cA, A0, Af, Q, ⟨hx, hb, hml, hown, hts, hK, hAf, hX, hini, hsc, hret⟩, rfl⟩ := hV
  intro A H locs ls hag hL hP hD hS hl
  have k1 := k A H locs ls hag hL hP hD hS hl
  obtain ⟨ty, hty⟩ : ∃ ty, (ab_ty cA)[t]? = some (cA t, ty) := by
    match t, ht with
    | 0, _ => exact ⟨_, rfl⟩
    | 1, _ => exact ⟨_, rfl⟩
    | 2, _ => exact ⟨_, rfl⟩
  exact va_alen hx hb hK hP q t (ab_w_at hq) hty (v := ab_i (n : Int)) rfl hd k1
theorem rb_sld (hV : ab_Cl cc own nL R al n0 ini sc ret post mc ms V) {n : Nat} {f : Int → Int} {z : Int} (hd : decode cc pc = .ok (.iaload, 1)) (hs : sc = some (n, f)) (hn : n < 2147483648) (hz : 0 ≤ z ∧ z < n) (k : V (pc + 1) L (.inl (f z) :: st) h kc ks) : V pc L (.inl z :: .inr (some 3000) :: st) h kc ks := by
  obtain ⟨p, l, e, s, m, args, below, meth, c, D, cA, A0, Af, Q, ⟨hx, hb, hml, hown, hts, hK, hAf, hX, hini, hsc, hret⟩, rfl⟩ := hV
  intro A H locs ls hag hL hP hD hS hl
  have k1 := k A H locs ls hag hL hP hD hS hl
  have hr : ab_r z := ⟨by omega, by omega⟩
  obtain ⟨s1, s2, s3⟩ := hsc n f hs A hag
  refine va_sld hx hb s1 s2 s3 hS (ab_vin hn hz.1 hz.2) hd ?_
  rw [ab_clamp hr, show ((z.toNat : Nat) : Int) = z by omega]
  exact k1
theorem rb_slen (hV : ab_Cl cc own nL R al n0 ini sc ret post mc ms V) {n : Nat} {f : Int → Int} (hd : decode cc pc = .ok (.arraylength, 1)) (hs : sc = some (n, f)) (k : V (pc + 1) L (.inl (n : Int) :: st) h kc ks) : V pc L (.inr (some 3000) :: st) h kc ks := by
  obtain ⟨p, l, e, s, m, args, below, meth, c, D, cA, A0, Af, Q, ⟨hx, hb, hml, hown, hts, hK, hAf, hX, hini, hsc, hret⟩, rfl⟩ := hV
  intro A H locs ls hag hL hP hD hS hl
  obtain ⟨s1, s2, s3⟩ := hsc n f hs A hag
  exact va_slen hx hb s1 s2 s3 hS hd (k A H locs ls hag hL hP hD hS hl)
theorem rb_i2c (hV : ab_Cl cc own nL R al n0 ini sc ret post mc ms V) {x : Int} (hd : decode cc pc = .ok (.i2c, 1)) (k : V (pc + 1) L (.inl (x % 65536) :: st) h kc ks) : V pc L (.inl x :: st) h kc ks := by
  obtain ⟨p, l, e, s, m, args, below, meth, c, D, cA, A0, Af, Q, ⟨hx, hb, hml, hown, hts, hK, hAf, hX, hini, hsc, hret⟩, rfl⟩ := hV
  intro A H locs ls hag hL hP hD hS hl
  exact lv_i2c (v := ab_i (x % 65536)) hx hb hd (ab_c16 x) (k A H locs ls hag hL hP hD hS hl)
theorem rb_i2b (hV : ab_Cl cc own nL R al n0 ini sc ret post mc ms V) {x : Int} (hd : decode cc pc = .ok (.i2b, 1)) (hr : -128 ≤ x ∧ x < 128) (k : V (pc + 1) L (.inl x :: st) h kc ks) : V pc L (.inl x :: st) h kc ks := by
  obtain ⟨p, l, e, s, m, args, below, meth, c, D, cA, A0, Af, Q, ⟨hx, hb, hml, hown, hts, hK, hAf, hX, hini, hsc, hret⟩, rfl⟩ := hV
  intro A H locs ls hag hL hP hD hS hl
  exact lv_i2b (v := ab_i x) hx hb hd (ab_b8 hr) (k A H locs ls hag hL hP hD hS hl)
theorem rb_iand (hV : ab_Cl cc own nL R al n0 ini sc ret post mc ms V) {x y z : Int} (hd : decode cc pc = .ok (.iand, 1)) (hz : ab_i x &&& ab_i y = ab_i z) (k : V (pc + 1) L (.inl z :: st) h kc ks) : V pc L (.inl y :: .inl x :: st) h kc ks := by
  obtain ⟨p, l, e, s, m, args, below, meth, c, D, cA, A0, Af, Q, ⟨hx, hb, hml, hown, hts, hK, hAf, hX, hini, hsc, hret⟩, rfl⟩ := hV
  intro A H locs ls hag hL hP hD hS hl
  have k1 := k A H locs ls hag hL hP hD hS hl
  refine lv_iand hx hb hd ?_
  rw [hz]
  exact k1
theorem rb_ishr0 (hV : ab_Cl cc own nL R al n0 ini sc ret post mc ms V) {x : Int} (hd : decode cc pc = .ok (.ishr, 1)) (k : V (pc + 1) L (.inl x :: st) h kc ks) : V pc L (.inl 0 :: .inl x :: st) h kc ks := by
  obtain ⟨p, l, e, s, m, args, below, meth, c, D, cA, A0, Af, Q, ⟨hx, hb, hml, hown, hts, hK, hAf, hX, hini, hsc, hret⟩, rfl⟩ := hV
  intro A H locs ls hag hL hP hD hS hl
  have k1 := k A H locs ls hag hL hP hD hS hl
  refine lv_ishr hx hb hd ?_
  rw [show ab_i x >>> (ab_i 0 &&& 31) = ab_i x from sb_shr0 (ab_i x)]
  exact k1
theorem rb_mmax (hV : ab_Cl cc own nL R al n0 ini sc ret post mc ms V) {idx : Nat} {x y : Int} (hd : decode cc pc = .ok (.invokestatic idx, 3)) (hlk : Cond.methodLink own idx Lib.Math.max.name ∈ xtb) (hr : ab_r x ∧ ab_r y) (hf : 1 ≤ R.frames) (hlo : st.length + 13 ≤ R.locals) (hcs : kc ≤ R.cells ∧ ks ≤ R.slots) (k : V (pc + 3) L (.inl (max x y) :: st) h kc ks) : V pc L (.inl y :: .inl x :: st) h kc ks := by
  obtain ⟨p, l, e, s, m, args, below, meth, c, D, cA, A0, Af, Q, ⟨hx, hb, hml, hown, hts, hK, hAf, hX, hini, hsc, hret⟩, rfl⟩ := hV
  intro A H locs ls hag hL hP hD hS hl
  have k1 := k A H locs ls hag hL hP hD hS hl
  refine va_mmax hx hb (by rw [hml]; exact hl.1.symm) hown (hts _ hlk) (hts _ xw_mmax.1) (hts _ xw_mmax.2.1) (hts _ xw_mmax.2.2) hf (by rw [ab_sum]; exact hlo) hcs.1 hcs.2 hd ?_
  have e1 : (if ab_i x < ab_i y then ab_i y else ab_i x) = ab_i (max x y) := ab_mmax hr.1 hr.2
  rw [e1]
  exact k1
theorem rb_mmin (hV : ab_Cl cc own nL R al n0 ini sc ret post mc ms V) {idx : Nat} {x y : Int} (hd : decode cc pc = .ok (.invokestatic idx, 3)) (hlk : Cond.methodLink own idx Lib.Math.min.name ∈ xtb) (hr : ab_r x ∧ ab_r y) (hf : 1 ≤ R.frames) (hlo : st.length + 13 ≤ R.locals) (hcs : kc ≤ R.cells ∧ ks ≤ R.slots) (k : V (pc + 3) L (.inl (min x y) :: st) h kc ks) : V pc L (.inl y :: .inl x :: st) h kc ks := by
  obtain ⟨p, l, e, s, m, args, below, meth, c, D, cA, A0, Af, Q, ⟨hx, hb, hml, hown, hts, hK, hAf, hX, hini, hsc, hret⟩, rfl⟩ := hV
  intro A H locs ls hag hL hP hD hS hl
  have k1 := k A H locs ls hag hL hP hD hS hl
  refine va_mmin hx hb (by rw [hml]; exact hl.1.symm) hown (hts _ hlk) (hts _ xw_mmin.1) (hts _ xw_mmin.2.1) (hts _ xw_mmin.2.2) hf (by rw [ab_sum]; exact hlo) hcs.1 hcs.2 hd ?_
  have e1 : (if ab_i y < ab_i x then ab_i y else ab_i x) = ab_i (min x y) := ab_mmin hr.1 hr.2
  rw [e1]
  exact k1
theorem rb_mabs (hV : ab_Cl cc own nL R al n0 ini sc ret post mc ms V) {idx : Nat} {x : Int} (hd : decode cc pc = .ok (.invokestatic idx, 3)) (hlk : Cond.methodLink own idx Lib.Math.abs.name ∈ xtb) (hr : ab_r x) (hf : 1 ≤ R.frames) (hlo : st.length + 13 ≤ R.locals) (hcs : kc ≤ R.cells ∧ ks ≤ R.slots) (k : V (pc + 3) L (.inl (if 0 ≤ x then x else -x) :: st) h kc ks) : V pc L (.inl x :: st) h kc ks := by
  obtain ⟨p, l, e, s, m, args, below, meth, c, D, cA, A0, Af, Q, ⟨hx, hb, hml, hown, hts, hK, hAf, hX, hini, hsc, hret⟩, rfl⟩ := hV
  intro A H locs ls hag hL hP hD hS hl
  have k1 := k A H locs ls hag hL hP hD hS hl
  refine va_mabs hx hb (by rw [hml]; exact hl.1.symm) hown (hts _ hlk) (hts _ xw_mabs.1) (hts _ xw_mabs.2.1) (hts _ xw_mabs.2.2) hf (by rw [ab_sum]; exact hlo) hcs.1 hcs.2 hd ?_
  have e1 : (if 0 ≤ ab_i x then ab_i x else 0 - ab_i x) = ab_i (if 0 ≤ x then x else -x) := ab_mabs hr
  rw [e1]
  exact k1
theorem rb_ldcS (hV : ab_Cl cc own nL R al n0 ini sc ret post mc ms V) {idx i : Nat} {tx : String} (hd : decode cc pc = .ok (.ldc idx, 2)) (hi : xsK[i]? = some (own, idx, tx)) (k : V (pc + 2) L (.inr (some (1000 + i)) :: st) h kc ks) : V pc L st h kc ks := by
  obtain ⟨p, l, e, s, m, args, below, meth, c, D, cA, A0, Af, Q, ⟨hx, hb, hml, hown, hts, hK, hAf, hX, hini, hsc, hret⟩, rfl⟩ := hV
  intro A H locs ls hag hL hP hD hS hl
  exact va_ldcS hx hb hown ((hX A hag).2.2.2.1 i _ hi) hd (k A H locs ls hag hL hP hD hS hl)
theorem rb_getSv (hV : ab_Cl cc own nL R al n0 ini sc ret post mc ms V) {idx i : Nat} (hd : decode cc pc = .ok (.getfield idx, 3)) (hi : i < 16) (hlk : Cond.fieldLink own idx "java/lang/String" "value" "[B" ∈ xtb) (k : V (pc + 3) L (.inr (some (2000 + i)) :: st) h kc ks) : V pc L (.inr (some (1000 + i)) :: st) h kc ks := by
  obtain ⟨p, l, e, s, m, args, below, meth, c, D, cA, A0, Af, Q, ⟨hx, hb, hml, hown, hts, hK, hAf, hX, hini, hsc, hret⟩, rfl⟩ := hV
  intro A H locs ls hag hL hP hD hS hl
  exact vk_getf hx hb ((hX A hag).1.1 i hi).2.2.1 hS hown (hts _ hlk) (fun _ z => z) hd (k A H locs ls hag hL hP hD hS hl)
theorem rb_getSc (hV : ab_Cl cc own nL R al n0 ini sc ret post mc ms V) {idx i : Nat} (hd : decode cc pc = .ok (.getfield idx, 3)) (hi : i < 16) (hlk : Cond.fieldLink own idx "java/lang/String" "coder" "B" ∈ xtb) (k : V (pc + 3) L (.inl 0 :: st) h kc ks) : V pc L (.inr (some (1000 + i)) :: st) h kc ks := by
  obtain ⟨p, l, e, s, m, args, below, meth, c, D, cA, A0, Af, Q, ⟨hx, hb, hml, hown, hts, hK, hAf, hX, hini, hsc, hret⟩, rfl⟩ := hV
  intro A H locs ls hag hL hP hD hS hl
  exact vk_getf hx hb ((hX A hag).1.1 i hi).2.1 hS hown (hts _ hlk) (fun _ z => z) hd (k A H locs ls hag hL hP hD hS hl)
theorem rb_getCS (hV : ab_Cl cc own nL R al n0 ini sc ret post mc ms V) {idx : Nat} (hd : decode cc pc = .ok (.getstatic idx, 3)) (hlk : Cond.fieldLink own idx "java/lang/String" "COMPACT_STRINGS" "Z" ∈ xtb) (k : V (pc + 3) L (.inl 1 :: st) h kc ks) : V pc L st h kc ks := by
  obtain ⟨p, l, e, s, m, args, below, meth, c, D, cA, A0, Af, Q, ⟨hx, hb, hml, hown, hts, hK, hAf, hX, hini, hsc, hret⟩, rfl⟩ := hV
  intro A H locs ls hag hL hP hD hS hl
  exact va_gets hx hb (hX A hag).2.1 hS hown (hts _ hlk) (fun _ z => z) hd (k A H locs ls hag hL hP hD hS hl)
theorem rb_getSF (hV : ab_Cl cc own nL R al n0 ini sc ret post mc ms V) {idx : Nat} (hd : decode cc pc = .ok (.getstatic idx, 3)) (hlk : Cond.fieldLink own idx "jdk/internal/util/Preconditions" "SIOOBE_FORMATTER" "Ljava/util/function/BiFunction;" ∈ xtb) (k : ∀ v : ab_V, V (pc + 3) L (v :: st) h kc ks) : V pc L st h kc ks := by
  obtain ⟨p, l, e, s, m, args, below, meth, c, D, cA, A0, Af, Q, ⟨hx, hb, hml, hown, hts, hK, hAf, hX, hini, hsc, hret⟩, rfl⟩ := hV
  intro A H locs ls hag hL hP hD hS hl
  rcases (hX A hag).2.2.1 with z | z
  · exact va_gets hx hb z hS hown (hts _ hlk) (fun _ z => z) hd (k (.inr none) A H locs ls hag hL hP hD hS hl)
  · exact va_gets hx hb z hS hown (hts _ hlk) (fun _ z => z) hd (k (.inr (some 3001)) A H locs ls hag hL hP hD hS hl)
theorem rb_lenS (hV : ab_Cl cc own nL R al n0 ini sc ret post mc ms V) {i : Nat} (hd : decode cc pc = .ok (.arraylength, 1)) (hi : i < 16) (k : V (pc + 1) L (.inl ((xsL.getD i 0 : Nat) : Int) :: st) h kc ks) : V pc L (.inr (some (2000 + i)) :: st) h kc ks := by
  obtain ⟨p, l, e, s, m, args, below, meth, c, D, cA, A0, Af, Q, ⟨hx, hb, hml, hown, hts, hK, hAf, hX, hini, hsc, hret⟩, rfl⟩ := hV
  intro A H locs ls hag hL hP hD hS hl
  exact va_tlen hx hb ((hX A hag).1.1 i hi).2.2.2 hS (v := ab_i ((xsL.getD i 0 : Nat) : Int)) rfl hd (k A H locs ls hag hL hP hD hS hl)
theorem rb_baldS (hV : ab_Cl cc own nL R al n0 ini sc ret post mc ms V) {i : Nat} {z : Int} (hd : decode cc pc = .ok (.baload, 1)) (hi : i < 16) (hz : 0 ≤ z ∧ z < (xsL.getD i 0 : Nat)) (k : V (pc + 1) L (.inl ((xsB.getD i []).getD z.toNat 0).toInt :: st) h kc ks) : V pc L (.inl z :: .inr (some (2000 + i)) :: st) h kc ks := by
  obtain ⟨p, l, e, s, m, args, below, meth, c, D, cA, A0, Af, Q, ⟨hx, hb, hml, hown, hts, hK, hAf, hX, hini, hsc, hret⟩, rfl⟩ := hV
  intro A H locs ls hag hL hP hD hS hl
  have k1 := k A H locs ls hag hL hP hD hS hl
  have hlt : xsL.getD i 0 < 2147483648 := xs_small i hi
  have hr : ab_r z := ⟨by omega, by omega⟩
  refine va_tb hx hb ((hX A hag).1.1 i hi).2.2.2 hS (ab_vin hlt hz.1 hz.2) (v := .int (ab_i ((xsB.getD i []).getD z.toNat 0).toInt)) ?_ hd k1
  rw [ab_clamp hr, ab_of]
theorem ab_Ag_new {A0 : Nat → Nat} {A : Nat → Nat} {n q : Nat} (hn : n0 ≤ n) (hn2 : n < 1000) (h : ab_Ag true A0 n0 A) : ab_Ag true A0 n0 (fun k => if k = n then q else A k) := by
  unfold ab_Ag at h ⊢
  rw [if_pos rfl] at h ⊢
  intro k hk
  dsimp only
  rw [if_neg (by omega)]
  exact h k hk
theorem rb_new (hV : ab_Cl cc own nL R al n0 ini sc ret post mc ms V) {idx ci : Nat} {C : String} {T : u_T} {N : Nat} {ty : Nat → FieldType} {fs : List ab_V} {h2 : List ab_E} {n kc2 ks2 : Nat} (hd : decode cc pc = .ok (.new idx, 3)) (hal : al = true) (hc : xcl[ci]? = some (C, T, N)) (hty : ∀ k, k < N → parseFieldDescriptor (T k).2.2.1 = some (ty k)) (hlk : Cond.classLink own idx C ∈ xtb ∧ Cond.instantiable C N ∈ xtb ∧ Cond.initialized C ∈ xtb) (hfs : ∀ j, j < N → defaultValue (ty j) = vp_V (fs.map (ab_v (fun _ => 0))) j) (hf0 : fs.all (ab_ok 0) = true ∧ fs.all (fun v => match v with | .inr (some _) => false | _ => true) = true) (hn : h.length = n) (hn0 : n0 ≤ n ∧ n < 1000) (hok : h.all (ab_eok n) = true ∧ ab_lok n L = true ∧ st.all (ab_ok n) = true) (hh : h ++ [.inr (ci, fs)] = h2) (hkc : kc + 1 = kc2 ∧ kc2 ≤ R.cells) (hks : ks + N = ks2 ∧ ks2 ≤ R.slots) (k : V (pc + 3) L (.inr (some n) :: st) h2 kc2 ks2) : V pc L st h kc ks := by
  obtain ⟨p, l, e, s, m, args, below, meth, c, D, cA, A0, Af, Q, ⟨hx, hb, hml, hown, hts, hK, hAf, hX, hini, hsc, hret⟩, rfl⟩ := hV
  intro A H locs ls hag hL hP hD hS hl
  subst hh
  subst hal
  obtain ⟨hc1, hc2⟩ := hkc
  obtain ⟨hs1, hs2⟩ := hks
  subst hc1
  subst hs1
  have hfsA : ∀ B : Nat → Nat, fs.map (ab_v B) = fs.map (ab_v (fun _ => 0)) := fun B => List.map_congr_left fun v hm => by
    have := List.all_eq_true.mp hf0.2 v hm
    rcases v with z | (_ | z)
    · rfl
    · rfl
    · cases this
  refine va_new (C := C) (T := T) (N := N) (ci := ci) (fs := fs.map (ab_v (fun _ => 0))) hx hb hts (xcl_ok hc).1 ty hty hown (hts _ hlk.1) (hts _ hlk.2.1) (hts _ hlk.2.2) hK hP hD hS hAf hc hfs hc2 hs2 hd (fun q H1 P1 D1 S1 => ?_)
  have hA' : ∀ k, k < n ∨ 1000 ≤ k → (fun k => if k = n then q else A k) k = A k := fun k hk => by
    dsimp only
    rw [if_neg (by omega)]
  have e1 : ab_w (fun k => if k = n then q else A k) cA 0 (h ++ [.inr (ci, fs)]) = ab_w A cA 0 h ++ [(q, .inr (ci, fs.map (ab_v (fun _ => 0))))] := by
    rw [ab_w_app, ab_w_ext hA' h 0 hok.1 (by omega), Nat.zero_add, hn, if_pos rfl]
    show _ ++ [(q, ab_e _ cA (.inr (ci, fs)))] = _
    rw [show ab_e (fun k => if k = n then q else A k) cA (.inr (ci, fs)) = .inr (ci, fs.map (ab_v (fun k => if k = n then q else A k))) from rfl, hfsA]
  have e2 := ab_vs_ext hA' hok.2.2
  have k1 := k (fun k => if k = n then q else A k) H1 locs ls (ab_Ag_new hn0.1 hn0.2 hag) hL (by rw [e1]; exact P1) (by rw [e1]; exact D1) S1 (by rw [ab_l_ext hA' L 0 hok.2.1]; exact hl)
  rw [List.map_cons, e2, show ab_v (fun k => if k = n then q else A k) (.inr (some n)) = .ref q from congrArg Value.ref (if_pos rfl)] at k1
  exact k1
theorem rb_newI (hV : ab_Cl cc own nL R al n0 ini sc ret post mc ms V) {z : Int} {N : Nat} {h2 : List ab_E} {n kc2 ks2 : Nat} (hd : decode cc pc = .ok (.newarray .int, 2)) (hal : al = true) (hz : z = (N : Int)) (hN : N ≤ 1000) (hn : h.length = n) (hn0 : n0 ≤ n ∧ n < 1000) (hok : h.all (ab_eok n) = true ∧ ab_lok n L = true ∧ st.all (ab_ok n) = true) (hh : h ++ [.inl (0, N, fun _ => 0)] = h2) (hkc : kc + 1 = kc2 ∧ kc2 ≤ R.cells) (hks : ks + N = ks2 ∧ ks2 ≤ R.slots) (k : V (pc + 2) L (.inr (some n) :: st) h2 kc2 ks2) : V pc L (.inl z :: st) h kc ks := by
  obtain ⟨p, l, e, s, m, args, below, meth, c, D, cA, A0, Af, Q, ⟨hx, hb, hml, hown, hts, hK, hAf, hX, hini, hsc, hret⟩, rfl⟩ := hV
  intro A H locs ls hag hL hP hD hS hl
  subst hh
  subst hal
  subst hz
  obtain ⟨hc1, hc2⟩ := hkc
  obtain ⟨hs1, hs2⟩ := hks
  subst hc1
  subst hs1
  have hr : ab_r (N : Int) := ⟨by omega, by omega⟩
  refine va_newa (atype := .int) (ty := .int) (N' := N) (a0 := (N, .inl (fun _ => ab_i 0))) hx hb (hts _ xw_arr.2.1) rfl hK hP hD hS hAf (fun cA => by rw [vp_cell_i]; rfl) (fun z => ?_) (by rw [ab_clamp hr]; omega) (by show N * 4 ≤ _; omega) hc2 hs2 hd (fun q cA' H1 K1 P1 D1 S1 => ?_)
  · have := (ab_lt hr ab_r0).mp (by rw [ab_0]; exact z)
    omega
  have hcA : cA' = cA 0 := by
    have a1 := (K1.2 3 (cA', .int) rfl).2
    have a2 := (hK.2 0 (cA 0, .int) rfl).2
    exact Option.some.inj (a1.symm.trans a2)
  subst hcA
  have hA' : ∀ k, k < n ∨ 1000 ≤ k → (fun k => if k = n then q else A k) k = A k := fun k hk => by
    dsimp only
    rw [if_neg (by omega)]
  have e1 : ab_w (fun k => if k = n then q else A k) cA 0 (h ++ [.inl (0, N, fun _ => 0)]) = ab_w A cA 0 h ++ [(q, .inl (cA 0, N, .inl (fun _ => ab_i 0)))] := by
    rw [ab_w_app, ab_w_ext hA' h 0 hok.1 (by omega), Nat.zero_add, hn, if_pos rfl]
    rfl
  have e2 := ab_vs_ext hA' hok.2.2
  have k1 := k (fun k => if k = n then q else A k) H1 locs ls (ab_Ag_new hn0.1 hn0.2 hag) hL (by rw [e1]; exact P1) (by rw [e1]; exact D1) S1 (by rw [ab_l_ext hA' L 0 hok.2.1]; exact hl)
  rw [List.map_cons, e2, show ab_v (fun k => if k = n then q else A k) (.inr (some n)) = .ref q from congrArg Value.ref (if_pos rfl)] at k1
  exact k1
theorem rb_newC (hV : ab_Cl cc own nL R al n0 ini sc ret post mc ms V) {z : Int} {N : Nat} {h2 : List ab_E} {n kc2 ks2 : Nat} (hd : decode cc pc = .ok (.newarray .char, 2)) (hal : al = true) (hz : z = (N : Int)) (hN : N ≤ 1000) (hn : h.length = n) (hn0 : n0 ≤ n ∧ n < 1000) (hok : h.all (ab_eok n) = true ∧ ab_lok n L = true ∧ st.all (ab_ok n) = true) (hh : h ++ [.inl (1, N, fun _ => 0)] = h2) (hkc : kc + 1 = kc2 ∧ kc2 ≤ R.cells) (hks : ks + N = ks2 ∧ ks2 ≤ R.slots) (k : V (pc + 2) L (.inr (some n) :: st) h2 kc2 ks2) : V pc L (.inl z :: st) h kc ks := by
  obtain ⟨p, l, e, s, m, args, below, meth, c, D, cA, A0, Af, Q, ⟨hx, hb, hml, hown, hts, hK, hAf, hX, hini, hsc, hret⟩, rfl⟩ := hV
  intro A H locs ls hag hL hP hD hS hl
  subst hh
  subst hal
  subst hz
  obtain ⟨hc1, hc2⟩ := hkc
  obtain ⟨hs1, hs2⟩ := hks
  subst hc1
  subst hs1
  have hr : ab_r (N : Int) := ⟨by omega, by omega⟩
  refine va_newa (atype := .char) (ty := .char) (N' := N) (a0 := (N, .inl (fun _ => ab_i 0))) hx hb (hts _ xw_arr.2.2.1) rfl hK hP hD hS hAf (fun cA => by rw [vp_cell_i]; rfl) (fun z => ?_) (by rw [ab_clamp hr]; omega) (by show N * 2 ≤ _; omega) hc2 hs2 hd (fun q cA' H1 K1 P1 D1 S1 => ?_)
  · have := (ab_lt hr ab_r0).mp (by rw [ab_0]; exact z)
    omega
  have hcA : cA' = cA 1 := by
    have a1 := (K1.2 3 (cA', .char) rfl).2
    have a2 := (hK.2 1 (cA 1, .char) rfl).2
    exact Option.some.inj (a1.symm.trans a2)
  subst hcA
  have hA' : ∀ k, k < n ∨ 1000 ≤ k → (fun k => if k = n then q else A k) k = A k := fun k hk => by
    dsimp only
    rw [if_neg (by omega)]
  have e1 : ab_w (fun k => if k = n then q else A k) cA 0 (h ++ [.inl (1, N, fun _ => 0)]) = ab_w A cA 0 h ++ [(q, .inl (cA 1, N, .inl (fun _ => ab_i 0)))] := by
    rw [ab_w_app, ab_w_ext hA' h 0 hok.1 (by omega), Nat.zero_add, hn, if_pos rfl]
    rfl
  have e2 := ab_vs_ext hA' hok.2.2
  have k1 := k (fun k => if k = n then q else A k) H1 locs ls (ab_Ag_new hn0.1 hn0.2 hag) hL (by rw [e1]; exact P1) (by rw [e1]; exact D1) S1 (by rw [ab_l_ext hA' L 0 hok.2.1]; exact hl)
  rw [List.map_cons, e2, show ab_v (fun k => if k = n then q else A k) (.inr (some n)) = .ref q from congrArg Value.ref (if_pos rfl)] at k1
  exact k1
theorem rb_newZ (hV : ab_Cl cc own nL R al n0 ini sc ret post mc ms V) {z : Int} {N : Nat} {h2 : List ab_E} {n kc2 ks2 : Nat} (hd : decode cc pc = .ok (.newarray .boolean, 2)) (hal : al = true) (hz : z = (N : Int)) (hN : N ≤ 1000) (hn : h.length = n) (hn0 : n0 ≤ n ∧ n < 1000) (hok : h.all (ab_eok n) = true ∧ ab_lok n L = true ∧ st.all (ab_ok n) = true) (hh : h ++ [.inl (2, N, fun _ => 0)] = h2) (hkc : kc + 1 = kc2 ∧ kc2 ≤ R.cells) (hks : ks + N = ks2 ∧ ks2 ≤ R.slots) (k : V (pc + 2) L (.inr (some n) :: st) h2 kc2 ks2) : V pc L (.inl z :: st) h kc ks := by
  obtain ⟨p, l, e, s, m, args, below, meth, c, D, cA, A0, Af, Q, ⟨hx, hb, hml, hown, hts, hK, hAf, hX, hini, hsc, hret⟩, rfl⟩ := hV
  intro A H locs ls hag hL hP hD hS hl
  subst hh
  subst hal
  subst hz
  obtain ⟨hc1, hc2⟩ := hkc
  obtain ⟨hs1, hs2⟩ := hks
  subst hc1
  subst hs1
  have hr : ab_r (N : Int) := ⟨by omega, by omega⟩
  refine va_newa (atype := .boolean) (ty := .boolean) (N' := N) (a0 := (N, .inl (fun _ => ab_i 0))) hx hb (hts _ xw_arr.2.2.2) rfl hK hP hD hS hAf (fun cA => by rw [vp_cell_i]; rfl) (fun z => ?_) (by rw [ab_clamp hr]; omega) (by show N * 1 ≤ _; omega) hc2 hs2 hd (fun q cA' H1 K1 P1 D1 S1 => ?_)
  · have := (ab_lt hr ab_r0).mp (by rw [ab_0]; exact z)
    omega
  have hcA : cA' = cA 2 := by
    have a1 := (K1.2 3 (cA', .boolean) rfl).2
    have a2 := (hK.2 2 (cA 2, .boolean) rfl).2
    exact Option.some.inj (a1.symm.trans a2)
  subst hcA
  have hA' : ∀ k, k < n ∨ 1000 ≤ k → (fun k => if k = n then q else A k) k = A k := fun k hk => by
    dsimp only
    rw [if_neg (by omega)]
  have e1 : ab_w (fun k => if k = n then q else A k) cA 0 (h ++ [.inl (2, N, fun _ => 0)]) = ab_w A cA 0 h ++ [(q, .inl (cA 2, N, .inl (fun _ => ab_i 0)))] := by
    rw [ab_w_app, ab_w_ext hA' h 0 hok.1 (by omega), Nat.zero_add, hn, if_pos rfl]
    rfl
  have e2 := ab_vs_ext hA' hok.2.2
  have k1 := k (fun k => if k = n then q else A k) H1 locs ls (ab_Ag_new hn0.1 hn0.2 hag) hL (by rw [e1]; exact P1) (by rw [e1]; exact D1) S1 (by rw [ab_l_ext hA' L 0 hok.2.1]; exact hl)
  rw [List.map_cons, e2, show ab_v (fun k => if k = n then q else A k) (.inr (some n)) = .ref q from congrArg Value.ref (if_pos rfl)] at k1
  exact k1
theorem rb_objInit (hV : ab_Cl cc own nL R al n0 ini sc ret post mc ms V) {idx q : Nat} (hd : decode cc pc = .ok (.invokespecial idx, 3)) (hlk : Cond.methodLink own idx Lib.objectInit ∈ xtb) (hf : 1 ≤ R.frames) (hlo : st.length + 12 ≤ R.locals) (k : V (pc + 3) L st h kc ks) : V pc L (.inr (some q) :: st) h kc ks := by
  obtain ⟨p, l, e, s, m, args, below, meth, c, D, cA, A0, Af, Q, ⟨hx, hb, hml, hown, hts, hK, hAf, hX, hini, hsc, hret⟩, rfl⟩ := hV
  intro A H locs ls hag hL hP hD hS hl
  refine W.objInit hx hb hown (hts _ hlk) (hts _ xw_obj.1) (hts _ xw_obj.2) rfl (by rw [hml]; exact hl.1) rfl hd hf (by show 2 * 0 + _ + 12 ≤ _; rw [ab_sum]; omega) ?_
  exact W.eq (g2 := F0 m (pc + 3) ls (st.map (ab_v A))) rfl (k A H locs ls hag hL hP hD hS hl)
theorem rb_ret (hV : ab_Cl cc own nL R al n0 ini sc ret post mc ms V) {r : Option ab_V} (hd : decode cc pc = .ok (ab_ri r, 1)) (hst : st = r.toList) (hk : kc ≤ mc ∧ ks ≤ ms) (hrt : ab_rt ret r) (hp : post r h) : V pc L st h kc ks := by
  obtain ⟨p, l, e, s, m, args, below, meth, c, D, cA, A0, Af, Q, ⟨hx, hb, hml, hown, hts, hK, hAf, hX, hini, hsc, hret⟩, rfl⟩ := hV
  intro A H locs ls hag hL hP hD hS hl
  subst hst
  exact W.widen hk.1 hk.2 (hret A H locs ls pc r h hag hP hD hS hp hrt hd)
theorem rb_weak (hV : ab_Cl cc own nL R al n0 ini sc ret post mc ms V) {L2 : ab_L} (hw : ab_less L2 L) (k : V pc L2 st h kc ks) : V pc L st h kc ks := by
  obtain ⟨p, l, e, s, m, args, below, meth, c, D, cA, A0, Af, Q, ⟨hx, hb, hml, hown, hts, hK, hAf, hX, hini, hsc, hret⟩, rfl⟩ := hV
  intro A H locs ls hag hL hP hD hS hl
  obtain ⟨w1, w2⟩ := ab_less_at L2 L hw
  exact k A H locs ls hag (by rw [w1]; exact hL) hP hD hS (ab_lsub hl w2)
theorem rb_widen (hV : ab_Cl cc own nL R al n0 ini sc ret post mc ms V) {kc2 ks2 : Nat} (hw : kc ≤ kc2 ∧ ks ≤ ks2) (k : V pc L st h kc2 ks2) : V pc L st h kc ks := by
  obtain ⟨p, l, e, s, m, args, below, meth, c, D, cA, A0, Af, Q, ⟨hx, hb, hml, hown, hts, hK, hAf, hX, hini, hsc, hret⟩, rfl⟩ := hV
  intro A H locs ls hag hL hP hD hS hl
  exact W.widen hw.1 hw.2 (k A H locs ls hag hL hP hD hS hl)
end ABR
section ABM
/-- a contract out of a walk in the engine -/
theorem ab_mk {y : MethodName} {cc : ByteArray} {nL : Nat} {ret : Option FieldType} {rm : Room} {al : Bool} {mc ms : Nat} {as : List ab_V} {h : List ab_E} {post : Option ab_V → List ab_E → Prop} (own : String) (ini : Bool)
    (hown : y.cls = own) (hy : plainName y.cls = true) (hin : ini = true → y.name = "<init>") (hlen : as.length ≤ nL)
    (body : ∀ V : ab_J, ab_Cl cc own nL rm al h.length ini none ret post mc ms V → V 0 (as.map some ++ List.replicate (nL - as.length) none) [] h 0 0) : ab_Mt y cc nL ret rm al mc ms as h post := by
  intro l D cA A0 sz
  refine Met.ofW (cc := cc) (maxL := nL) (ret := ret) hy rfl ?_
  intro p e s m args below meth c s₁ B hml hv
  obtain ⟨rfl, hsz, hP, hK, hD0, hX⟩ := hv
  have hx := B.exec
  have hb := B.bytes
  have hr := B.returns
  have hts0 := atoms_spec (ws := .code y cc nL ret :: xtb) B.pre
  have hts : ∀ w ∈ xtb, w.before (as.map (ab_v A0)).toArray s = true := fun w hw => hts0 w (List.mem_cons_of_mem _ hw)
  have hown' : s.vm.findClass own = some m.cls := by rw [← hown]; exact findClass_of_methodNamed B.named
  have hlocks := B.notSynchronized
  subst hsz
  have hD := hD0.self (sz := s.heap.size)
  have hS : va_S (va_A (ab_w A0 cA 0 h) s.heap.size) s.heap s.heap [] := va_S.rf
  have hAg0 : ab_Ag al A0 h.length A0 := by
    unfold ab_Ag
    split
    · exact fun _ _ => rfl
    · rfl
  have hXA : ∀ A, ab_Ag al A0 h.length A → ab_X A (va_A (ab_w A0 cA 0 h) s.heap.size) s s.heap := by
    intro A hA
    have hA' : ∀ k, 1000 ≤ k → A k = A0 k := by
      unfold ab_Ag at hA
      split at hA
      · exact fun k hk => hA k (Or.inr hk)
      · exact fun k _ => by rw [hA]
    have e1 : (fun i => A (1000 + i)) = fun i => A0 (1000 + i) := funext fun i => hA' _ (by omega)
    have e2 : (fun i => A (2000 + i)) = fun i => A0 (2000 + i) := funext fun i => hA' _ (by omega)
    have e3 : A 3001 = A0 3001 := hA' _ (by omega)
    unfold ab_X at hX ⊢
    rw [e1, e2, e3]
    exact ⟨hX.1, hX.2.1, hX.2.2.1, fun i q hq => by rw [hA' (1000 + i) (by omega)]; exact hX.2.2.2.1 i q hq, hX.2.2.2.2⟩
  have C : ab_Cl cc own nL rm al h.length ini none ret post mc ms (ab_W p l e rm s m (as.map (ab_v A0)).toArray below meth c D cA nL (ab_Ag al A0 h.length) (va_A (ab_w A0 cA 0 h) s.heap.size) (MQ below (ab_Qc post D cA (ab_Ag al A0 h.length) (va_A (ab_w A0 cA 0 h) s.heap.size)) (as.map (ab_v A0)).toArray s mc ms (va_A (ab_w A0 cA 0 h) s.heap.size))) := by
    refine ⟨p, l, e, s, m, _, below, meth, c, D, cA, A0, _, _, ⟨hx, hb, hml, hown', hts, hK, fun q hq => Or.inr hq, hXA, fun hi => ?_, fun L f hsc => (by cases hsc), ?_⟩, rfl⟩
    · rw [(name_of_methodNamed B.named B.method).1]
      exact hin hi
    · intro A H locs ls pc r u hag hP' hD' hS' hpost hrt hd
      have hq : ∀ t : State, t.heap = H → s.WarmedH t.vm → ab_Qc post D cA (ab_Ag al A0 h.length) (va_A (ab_w A0 cA 0 h) s.heap.size) (as.map (ab_v A0)).toArray s (.returned (r.map (ab_v A))) t := fun t ht hW =>
        ⟨⟨r, u, A, rfl, hpost, hag, by rw [ht]; exact hP', va_K.moved hW.alike hK, hD'⟩, hS'.F ht⟩
      rcases r with _ | (z | k)
      · cases ret with
        | none => exact W.vret hx hb hr hq hS'.2.2 hd
        | some ty => cases ty <;> exact hrt.elim
      · cases ret with
        | none => exact hrt.elim
        | some ty =>
          cases ty with
          | int => exact W.iret (v := ab_i z) hx hb hr hq hS'.2.2 hd
          | boolean => exact W.zret (v := ab_i z) hx hb hr (ab_nrz hrt) hq hS'.2.2 hd
          | char => exact W.zret (v := ab_i z) hx hb hr (ab_nrc hrt) hq hS'.2.2 hd
          | byte => exact W.zret (v := ab_i z) hx hb hr (ab_nrb hrt) hq hS'.2.2 hd
          | _ => exact hrt.elim
      · cases ret with
        | none => exact hrt.elim
        | some ty => cases ty <;> exact hrt.elim
  have k1 := body _ C
  have hl := lv_entry (as.map (ab_v A0)) (n := nL) ?_
  · rw [lg_entry_eq]
    refine k1 A0 s.heap [] _ hAg0 ?_ hP hD hS ?_
    · rw [List.length_append, List.length_map, List.length_replicate]; omega
    · refine ab_lmono hl fun q hq => ?_
      obtain ⟨i, v, h1, h2⟩ := (ab_l_mem A0 _ 0 q).mp hq
      rw [Nat.zero_add] at h2
      have hi : as[i]? = some v := by
        by_cases hi : i < (as.map some).length
        · rw [List.getElem?_append_left hi, List.getElem?_map] at h1
          cases hz : as[i]? with
          | none => rw [hz] at h1; cases h1
          | some w => rw [hz] at h1; cases h1; rfl
        · rw [List.getElem?_append_right (by omega)] at h1
          have := List.getElem?_replicate (n := nL - as.length) (a := (none : Option ab_V)) (i := i - (as.map some).length)
          rw [this] at h1
          split at h1 <;> cases h1
      rw [h2]
      have := ab_args A0 as 0 i v hi
      rwa [Nat.zero_add] at this
  · rw [ab_sl_len]
    exact hlen
end ABM
section ABC
theorem ab_good_in {ws : List Cond} (h : ∀ w ∈ ws, w ∈ xtb) : GoodIn xtb ws := fun w hw => ⟨h w hw, good_of_word (ab_good w (h w hw))⟩
theorem ab_blind {D : va_G} {cA : Nat → ClassId} {A : Nat → Nat} {sz : Nat} {as : List ab_V} {h : List ab_E} : FrameBlind (ab_Pc D cA A sz as h) := fun a U g mk q => by
  obtain ⟨e, q1, q2, q3, q4, q5⟩ := q
  exact ⟨e, q1, q2, va_K.moved (u := U) (U := U.calling g mk a) (Vm.Alike.refl U.vm) q3, q4, ab_X.same (u := U) (U := U.calling g mk a) rfl (Vm.Alike.refl U.vm) q5⟩
theorem ab_callg {p : Program} {l : Launch} {e : Env} {R : Room} {s : State} {m : MethodId} {args : Array Value} {below : List Frame} {meth : Method} {c : Code} {H : Heap} {locs : List Loc} {cells slots : Nat} {Q : State → Prop} {pc : Nat} {ls : Array Slot} {rest st0 : List Value} {a : Array Value} {A0 A1 : Nat → Prop} {H0 : Heap} {mc ms : Nat} {free : Addr → Prop}
    {post : Option ab_V → List ab_E → Prop} {D : va_G} {cA : Nat → ClassId} {Ag : (Nat → Nat) → Prop}
    (hr : va_Run p l e R s m args below meth c H locs cells slots mc ms (F0 m pc ls st0) rest (ab_Qc post D cA Ag A1 a) free) (hS : va_S A0 H0 H locs) (hA : ∀ q, A1 q → A0 q) (hf : ∀ q, free q → A0 q)
    (kk : ∀ (r : Option ab_V) (u : List ab_E) (A' : Nat → Nat) (H1 : Heap) (locs1 : List Loc), post r u → Ag A' → va_P D xcl (ab_w A' cA 0 u) H1 → va_D A0 (ab_w A' cA 0 u) → va_S A0 H0 H1 locs1 → W p l e R s m args below meth c H1 locs1 (cells + mc) (slots + ms) Q (F0 m (pc + 3) ls ((r.map (ab_v A')).toList ++ rest))) : W p l e R s m args below meth c H locs cells slots Q (F0 m pc ls st0) := by
  intro T hT X
  obtain ⟨v, st₀, t, T', L, h0, X', hL, e1, e2, ⟨⟨r, u, A', hv, hp, hag, hP, hK, hD⟩, hz, hk⟩, st⟩ := hr T hT X
  cases hv
  rw [h0] at hz hk
  obtain ⟨t2, a1, b1⟩ := kk r u A' T'.heap (locs ++ L) hp hag (by rw [e1]; exact hP) (hD.weaken (fun _ _ _ z => hA _ z))
    ⟨Nat.le_trans hS.1 (by rw [e1]; exact hz), fun q h1 h2 => by rw [e1, hk q (Nat.lt_of_lt_of_le h1 hS.1) (fun z => h2 (hA q z))]; exact hS.2.1 q h1 h2, fun q hq => by
      rcases List.mem_append.mp hq with h | h
      · exact hS.2.2 q h
      · exact hf _ (hL q h)⟩ T' rfl X'
  exact ⟨t2, st t2 a1, b1⟩
theorem ab_pushed (A : Nat → Nat) (r : Option ab_V) (rest : List ab_V) : (r.map (ab_v A)).toList ++ rest.map (ab_v A) = (r.toList ++ rest).map (ab_v A) := by
  cases r <;> rfl
def ab_LV (own : String) (idx : Nat) (y : MethodName) (cc : ByteArray) (nL : Nat) (ret : Option FieldType) (n : Nat) : Prop :=
  (Cond.methodLink own idx y ∈ xtb ∧ Cond.instanceMethod y ∈ xtb ∧ Cond.selects y.cls y y ∈ xtb ∧ Cond.initialized y.cls ∈ xtb ∧ Cond.code y cc nL ret ∈ xtb) ∧ y.cls ≠ "java/lang/invoke/MethodHandle" ∧ y.cls ≠ "java/lang/invoke/VarHandle" ∧ (parseMethodDescriptor y.desc).map (fun d => d.parameters.length) = some n
def ab_LS (own : String) (idx : Nat) (y : MethodName) (cc : ByteArray) (nL : Nat) (ret : Option FieldType) (n : Nat) : Prop :=
  ((Cond.methodLink own idx y ∈ xtb ∨ ∃ host, (own, idx, y, host) ∈ xsN) ∧ Cond.static y ∈ xtb ∧ Cond.initialized y.cls ∈ xtb ∧ Cond.code y cc nL ret ∈ xtb) ∧ y.cls ≠ "java/lang/invoke/MethodHandle" ∧ y.cls ≠ "java/lang/invoke/VarHandle" ∧ (parseMethodDescriptor y.desc).map (fun d => d.parameters.length) = some n
def ab_LI (own : String) (idx : Nat) (y : MethodName) (cc : ByteArray) (nL : Nat) (n : Nat) : Prop :=
  (Cond.methodLink own idx y ∈ xtb ∧ Cond.instanceMethod y ∈ xtb ∧ Cond.initialized y.cls ∈ xtb ∧ Cond.code y cc nL none ∈ xtb) ∧ y.name = "<init>" ∧ y.cls ≠ "java/lang/invoke/MethodHandle" ∧ y.cls ≠ "java/lang/invoke/VarHandle" ∧ (parseMethodDescriptor y.desc).map (fun d => d.parameters.length) = some n
def ab_Rc (h : List ab_E) (q : Nat) (C : String) : Prop := (∃ (ci : Nat) (fs : List ab_V) (T : u_T) (N : Nat), h[q]? = some (.inr (ci, fs)) ∧ xcl[ci]? = some (C, T, N)) ∨ (C = "java/lang/String" ∧ ∃ i, i < 16 ∧ q = 1000 + i)
def ab_Rm (rm R : Room) (nL mc ms kc ks : Nat) : Prop := rm.cells = mc ∧ rm.slots = ms ∧ rm.frames + 1 ≤ R.frames ∧ 8 + (nL + 11) + rm.locals ≤ R.locals ∧ kc + mc ≤ R.cells ∧ ks + ms ≤ R.slots
variable {cc : ByteArray} {own : String} {nL : Nat} {R : Room} {al : Bool} {n0 : Nat} {ini : Bool} {sc : Option (Nat × (Int → Int))} {ret : Option FieldType} {post : Option ab_V → List ab_E → Prop} {mc ms : Nat} {V : ab_J} {pc : Nat} {L : ab_L} {st rest : List ab_V} {h : List ab_E} {kc ks : Nat}
variable {y : MethodName} {cc2 : ByteArray} {nL2 : Nat} {ret2 : Option FieldType} {rm2 : Room} {as : List ab_V} {post2 : Option ab_V → List ab_E → Prop} {idx q n : Nat}
theorem rb_callV (hV : ab_Cl cc own nL R al n0 ini sc ret post mc ms V) (hd : decode cc pc = .ok (.invokevirtual idx, 3)) (hM : ab_Mt y cc2 nL2 ret2 rm2 false 0 0 (.inr (some q) :: as) h post2) (hlk : ab_LV own idx y cc2 nL2 ret2 n) (hn : as.length = n) (hrc : ab_Rc h q y.cls) (hst : st = as.reverse ++ .inr (some q) :: rest) (hrm : ab_Rm rm2 R nL2 0 0 kc ks) (hre : rest.length ≤ 8) (k : ∀ (r : Option ab_V) (h2 : List ab_E), post2 r h2 → V (pc + 3) L (r.toList ++ rest) h2 kc ks) : V pc L st h kc ks := by
  obtain ⟨p, l, e, s, m, args, below, meth, c, D, cA, A0, Af, Q, ⟨hx, hb, hml, hown, hts, hK, hAf, hX, hini, hsc, hret⟩, rfl⟩ := hV
  intro A H locs ls hag hL hP hD hS hl
  subst hst
  have hfree : ∀ z, va_A (ab_w A cA 0 h) H.size z → Af z := fun z hz => by
    rcases hz with ⟨k, e, he⟩ | hz
    · exact hD.2 k _ he
    · exact hAf _ (Nat.le_trans hS.1 hz)
  have hpre : ∀ U : State, U.heap = H → s.WarmedH U.vm → ab_Pc D cA A H.size (.inr (some q) :: as) h ((.inr (some q) :: as).map (ab_v A)).toArray U := fun U hU hW =>
    ⟨rfl, by rw [hU], by rw [hU]; exact hP, va_K.moved hW.alike hK, hD.weaken (fun _ _ _ _ => trivial), by rw [hU]; exact ((hX A hag).warm hW hS.2.1).narrow hfree⟩
  obtain ⟨⟨g1, g2, g3, g4, g5⟩, g6, g7, g8⟩ := hlk
  obtain ⟨r1, r2, r3, r4, r5, r6⟩ := hrm
  have hG : GoodIn xtb (wsV own idx y.cls y (.code y cc2 nL2 ret2 :: xtb)) := ab_good_in fun w hw => by
    simp only [wsV, List.mem_append, List.mem_cons, List.not_mem_nil, or_false] at hw
    rcases hw with (rfl | rfl | rfl | rfl) | rfl | hw
    · exact g1
    · exact g2
    · exact g3
    · exact g4
    · exact g5
    · exact hw
  have hrv : ∃ cellB : Cell, H[A q]? = some cellB ∧ cellB.vm.isStatics = false ∧ s.vm.findClass y.cls = some cellB.cls := by
    rcases hrc with ⟨ci, fs, T, N, c1, c2⟩ | ⟨c1, i, c2, c3⟩
    · exact va_recv hK hP c2 (ab_w_at c1)
    · rw [c1, c3]
      exact vk_recv (adK := fun i => A (1000 + i)) (i := i) (hX A hag).1 c2 hS
  have hrun := va_runV (locs := locs) (meth := meth) (below := below) (e := e) (As := as.map (ab_v A)) (rest := rest.map (ab_v A)) (g := F0 m pc ls ((as.reverse ++ .inr (some q) :: rest).map (ab_v A))) ⟨hx, hb, hml, hown, hts⟩ (hM l D cA A H.size) (cwV n hts hG rfl r1 r2 ⟨rfl, g6, g7, g8⟩ ⟨r3, r4⟩) ⟨ab_blind, hrv, hpre⟩ rfl (by rw [List.length_map]; exact hn) hl.1 (by rw [List.map_append, List.map_reverse]; rfl) (by show 2 * 0 + _ ≤ 8; rw [ab_sum]; omega) hd ⟨r5, r6⟩
  refine ab_callg hrun hS hfree hfree (fun r u A' H1 locs1 hp hag' P1 D1 S1 => ?_)
  have hA' : A' = A := hag'
  subst hA'
  rw [ab_pushed]
  exact k r u hp A' H1 locs1 ls hag hL P1 D1 S1 hl
theorem rb_callS (hV : ab_Cl cc own nL R al n0 ini sc ret post mc ms V) (hd : decode cc pc = .ok (.invokestatic idx, 3)) (hM : ab_Mt y cc2 nL2 ret2 rm2 false 0 0 as h post2) (hlk : ab_LS own idx y cc2 nL2 ret2 n) (hn : as.length = n) (hst : st = as.reverse ++ rest) (hrm : ab_Rm rm2 R nL2 0 0 kc ks) (hre : rest.length ≤ 8) (k : ∀ (r : Option ab_V) (h2 : List ab_E), post2 r h2 → V (pc + 3) L (r.toList ++ rest) h2 kc ks) : V pc L st h kc ks := by
  obtain ⟨p, l, e, s, m, args, below, meth, c, D, cA, A0, Af, Q, ⟨hx, hb, hml, hown, hts, hK, hAf, hX, hini, hsc, hret⟩, rfl⟩ := hV
  intro A H locs ls hag hL hP hD hS hl
  subst hst
  have hfree : ∀ z, va_A (ab_w A cA 0 h) H.size z → Af z := fun z hz => by
    rcases hz with ⟨k, e, he⟩ | hz
    · exact hD.2 k _ he
    · exact hAf _ (Nat.le_trans hS.1 hz)
  have hpre : ∀ U : State, U.heap = H → s.WarmedH U.vm → ab_Pc D cA A H.size as h (as.map (ab_v A)).toArray U := fun U hU hW =>
    ⟨rfl, by rw [hU], by rw [hU]; exact hP, va_K.moved hW.alike hK, hD.weaken (fun _ _ _ _ => trivial), by rw [hU]; exact ((hX A hag).warm hW hS.2.1).narrow hfree⟩
  obtain ⟨⟨g1, g2, g4, g5⟩, g6, g7, g8⟩ := hlk
  obtain ⟨r1, r2, r3, r4, r5, r6⟩ := hrm
  have hstk : (as.reverse ++ rest).map (ab_v A) = (as.map (ab_v A)).reverse ++ rest.map (ab_v A) := by rw [List.map_append, List.map_reverse]
  have hW8 : 2 * (F0 m pc ls ((as.reverse ++ rest).map (ab_v A))).monitorRoom + ((rest.map (ab_v A)).map fun v => v.category).sum ≤ 8 := by show 2 * 0 + _ ≤ 8; rw [ab_sum]; omega
  rcases g1 with g1 | ⟨host, g1⟩
  · have hG : GoodIn xtb (va_wsS own idx y (.code y cc2 nL2 ret2 :: xtb)) := ab_good_in fun w hw => by
      simp only [va_wsS, List.mem_append, List.mem_cons, List.not_mem_nil, or_false] at hw
      rcases hw with (rfl | rfl | rfl) | rfl | hw
      · exact g1
      · exact g2
      · exact g4
      · exact g5
      · exact hw
    have hrun := va_runS (locs := locs) (meth := meth) (below := below) (e := e) (As := as.map (ab_v A)) (rest := rest.map (ab_v A)) (g := F0 m pc ls ((as.reverse ++ rest).map (ab_v A))) ⟨hx, hb, hml, hown, hts⟩ (hM l D cA A H.size) (va_cwS n hts hG rfl r1 r2 ⟨g6, g7, g8⟩ ⟨r3, r4⟩) ⟨ab_blind, hpre⟩ rfl (by rw [List.length_map]; exact hn) hl.1 hstk hW8 hd ⟨r5, r6⟩
    refine ab_callg hrun hS hfree hfree (fun r u A' H1 locs1 hp hag' P1 D1 S1 => ?_)
    have hA' : A' = A := hag'
    subst hA'
    rw [ab_pushed]
    exact k r u hp A' H1 locs1 ls hag hL P1 D1 S1 hl
  · have hG : GoodIn xtb (.code y cc2 nL2 ret2 :: xtb) := ab_good_in fun w hw => by
      rcases List.mem_cons.mp hw with rfl | hw
      · exact g5
      · exact hw
    have hrun := va_runSN (locs := locs) (meth := meth) (below := below) (e := e) (As := as.map (ab_v A)) (rest := rest.map (ab_v A)) (g := F0 m pc ls ((as.reverse ++ rest).map (ab_v A))) ⟨hx, hb, hml, hown, hts⟩ (hM l D cA A H.size) ⟨va_cnB n hts hG rfl r1 r2 ((hX A hag).2.2.2.2 _ g1) (hts _ g4) ⟨g6, g7, g8⟩ ⟨r3, r4⟩, hts _ g2, trivial⟩ ⟨ab_blind, hpre⟩ rfl (by rw [List.length_map]; exact hn) hl.1 hstk hW8 hd ⟨r5, r6⟩
    refine ab_callg hrun hS hfree hfree (fun r u A' H1 locs1 hp hag' P1 D1 S1 => ?_)
    have hA' : A' = A := hag'
    subst hA'
    rw [ab_pushed]
    exact k r u hp A' H1 locs1 ls hag hL P1 D1 S1 hl
theorem rb_callI (hV : ab_Cl cc own nL R al n0 ini sc ret post mc ms V) {mc2 ms2 kc2 ks2 : Nat} (hd : decode cc pc = .ok (.invokespecial idx, 3)) (hal : al = true) (hM : ab_Mt y cc2 nL2 none rm2 true mc2 ms2 (.inr (some q) :: as) h post2) (hlk : ab_LI own idx y cc2 nL2 n) (hn : as.length = n) (hst : st = as.reverse ++ .inr (some q) :: rest) (hrm : ab_Rm rm2 R nL2 mc2 ms2 kc ks) (hkc : kc + mc2 = kc2 ∧ ks + ms2 = ks2) (hre : rest.length ≤ 8) (hok : n0 ≤ h.length ∧ ab_lok h.length L = true ∧ rest.all (ab_ok h.length) = true) (k : ∀ (r : Option ab_V) (h2 : List ab_E), post2 r h2 → V (pc + 3) L (r.toList ++ rest) h2 kc2 ks2) : V pc L st h kc ks := by
  obtain ⟨p, l, e, s, m, args, below, meth, c, D, cA, A0, Af, Q, ⟨hx, hb, hml, hown, hts, hK, hAf, hX, hini, hsc, hret⟩, rfl⟩ := hV
  intro A H locs ls hag hL hP hD hS hl
  subst hst
  subst hal
  obtain ⟨hk1, hk2⟩ := hkc
  subst hk1
  subst hk2
  have hfree : ∀ z, va_A (ab_w A cA 0 h) H.size z → Af z := fun z hz => by
    rcases hz with ⟨k, e, he⟩ | hz
    · exact hD.2 k _ he
    · exact hAf _ (Nat.le_trans hS.1 hz)
  have hpre : ∀ U : State, U.heap = H → s.WarmedH U.vm → ab_Pc D cA A H.size (.inr (some q) :: as) h ((.inr (some q) :: as).map (ab_v A)).toArray U := fun U hU hW =>
    ⟨rfl, by rw [hU], by rw [hU]; exact hP, va_K.moved hW.alike hK, hD.weaken (fun _ _ _ _ => trivial), by rw [hU]; exact ((hX A hag).warm hW hS.2.1).narrow hfree⟩
  obtain ⟨⟨g1, g2, g4, g5⟩, g0, g6, g7, g8⟩ := hlk
  obtain ⟨r1, r2, r3, r4, r5, r6⟩ := hrm
  have hG : GoodIn xtb (.code y cc2 nL2 none :: xtb) := ab_good_in fun w hw => by
    rcases List.mem_cons.mp hw with rfl | hw
    · exact g5
    · exact hw
  have hrun := va_runI (locs := locs) (meth := meth) (below := below) (e := e) (As := as.map (ab_v A)) (rest := rest.map (ab_v A)) (g := F0 m pc ls ((as.reverse ++ .inr (some q) :: rest).map (ab_v A))) ⟨hx, hb, hml, hown, hts⟩ (hM l D cA A H.size) (cwI n hts hG rfl r1 r2 (hts _ g4) (hts _ g1) (hts _ g2) g0 ⟨g6, g7, g8⟩ ⟨r3, r4⟩) ⟨ab_blind, hpre⟩ rfl (by rw [List.length_map]; exact hn) hl.1 (by rw [List.map_append, List.map_reverse]; rfl) (by show 2 * 0 + _ ≤ 8; rw [ab_sum]; omega) hd ⟨r5, r6⟩
  refine ab_callg hrun hS hfree hfree (fun r u A' H1 locs1 hp hag' P1 D1 S1 => ?_)
  have hA' : ∀ k, k < h.length ∨ 1000 ≤ k → A' k = A k := hag'
  have hag2 : ab_Ag true A0 n0 A' := by
    unfold ab_Ag at hag ⊢
    rw [if_pos rfl] at hag ⊢
    intro k hk
    rw [hA' k (by omega)]
    exact hag k hk
  rw [← ab_vs_ext hA' hok.2.2, ab_pushed]
  exact k r u hp A' H1 locs1 ls hag2 hL P1 D1 S1 (by rw [ab_l_ext hA' L 0 hok.2.1]; exact hl)
end ABC
end
