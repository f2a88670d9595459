section
-- ===== PART A: goes FIRST, ahead of the names: the tables' words, and 'selects' of the private methods out of them =====
/-- a private method of a class that the tables say can be made, by its rows of tables_1 -/
def lw_okq (q : MethodName × Nat) : Prop := (q.1.cls ≠ "java/lang/invoke/MethodHandle" ∧ q.1.cls ≠ "java/lang/invoke/VarHandle") ∧ Cond.instantiable q.1.cls q.2 ∈ tables_1 ∧ Cond.privateMethod q.1 ∈ tables_1 ∧ Cond.instanceMethod q.1 ∈ tables_1
theorem lw_p0 : lw_okq (⟨"FarReach$Reader", "begins", "(I)Z"⟩, 4) := ⟨⟨by decide +kernel, by decide +kernel⟩, List.mem_of_getElem? (i := 32) (by decide +kernel), List.mem_of_getElem? (i := 224) (by decide +kernel), List.mem_of_getElem? (i := 225) (by decide +kernel)⟩
theorem lw_p1 : lw_okq (⟨"FarReach$Reader", "ends", "(I)Z"⟩, 4) := ⟨⟨by decide +kernel, by decide +kernel⟩, List.mem_of_getElem? (i := 32) (by decide +kernel), List.mem_of_getElem? (i := 239) (by decide +kernel), List.mem_of_getElem? (i := 240) (by decide +kernel)⟩
theorem lw_p2 : lw_okq (⟨"FarReach$Reader", "endsWithLabel", "(II)Z"⟩, 4) := ⟨⟨by decide +kernel, by decide +kernel⟩, List.mem_of_getElem? (i := 32) (by decide +kernel), List.mem_of_getElem? (i := 243) (by decide +kernel), List.mem_of_getElem? (i := 244) (by decide +kernel)⟩
theorem lw_p3 : lw_okq (⟨"FarReach$Placing", "clear", "()V"⟩, 16) := ⟨⟨by decide +kernel, by decide +kernel⟩, List.mem_of_getElem? (i := 73) (by decide +kernel), List.mem_of_getElem? (i := 278) (by decide +kernel), List.mem_of_getElem? (i := 279) (by decide +kernel)⟩
theorem lw_p4 : lw_okq (⟨"FarReach$Placing", "lay", "()V"⟩, 16) := ⟨⟨by decide +kernel, by decide +kernel⟩, List.mem_of_getElem? (i := 73) (by decide +kernel), List.mem_of_getElem? (i := 287) (by decide +kernel), List.mem_of_getElem? (i := 288) (by decide +kernel)⟩
theorem lw_p5 : lw_okq (⟨"FarReach$Placing", "sizeAt", "(II)I"⟩, 16) := ⟨⟨by decide +kernel, by decide +kernel⟩, List.mem_of_getElem? (i := 73) (by decide +kernel), List.mem_of_getElem? (i := 292) (by decide +kernel), List.mem_of_getElem? (i := 293) (by decide +kernel)⟩
theorem lw_p6 : lw_okq (⟨"FarReach$Placing", "noteLabel", "(II)V"⟩, 16) := ⟨⟨by decide +kernel, by decide +kernel⟩, List.mem_of_getElem? (i := 73) (by decide +kernel), List.mem_of_getElem? (i := 304) (by decide +kernel), List.mem_of_getElem? (i := 305) (by decide +kernel)⟩
theorem lw_p7 : lw_okq (⟨"FarReach$Placing", "layGap", "(II)I"⟩, 16) := ⟨⟨by decide +kernel, by decide +kernel⟩, List.mem_of_getElem? (i := 73) (by decide +kernel), List.mem_of_getElem? (i := 308) (by decide +kernel), List.mem_of_getElem? (i := 309) (by decide +kernel)⟩
theorem lw_p8 : lw_okq (⟨"FarReach$Placing", "aimItems", "()V"⟩, 16) := ⟨⟨by decide +kernel, by decide +kernel⟩, List.mem_of_getElem? (i := 73) (by decide +kernel), List.mem_of_getElem? (i := 323) (by decide +kernel), List.mem_of_getElem? (i := 324) (by decide +kernel)⟩
theorem lw_p9 : lw_okq (⟨"FarReach$Placing", "constantFor", "(II)I"⟩, 16) := ⟨⟨by decide +kernel, by decide +kernel⟩, List.mem_of_getElem? (i := 73) (by decide +kernel), List.mem_of_getElem? (i := 331) (by decide +kernel), List.mem_of_getElem? (i := 332) (by decide +kernel)⟩
theorem lw_p10 : lw_okq (⟨"FarReach$Placing", "isInLoadReach", "(II)Z"⟩, 16) := ⟨⟨by decide +kernel, by decide +kernel⟩, List.mem_of_getElem? (i := 73) (by decide +kernel), List.mem_of_getElem? (i := 351) (by decide +kernel), List.mem_of_getElem? (i := 352) (by decide +kernel)⟩
theorem lw_p11 : lw_okq (⟨"FarReach$Placing", "longAim", "(II)I"⟩, 16) := ⟨⟨by decide +kernel, by decide +kernel⟩, List.mem_of_getElem? (i := 73) (by decide +kernel), List.mem_of_getElem? (i := 355) (by decide +kernel), List.mem_of_getElem? (i := 356) (by decide +kernel)⟩
theorem lw_p12 : lw_okq (⟨"FarReach$Placing", "goesStraight", "(II)Z"⟩, 16) := ⟨⟨by decide +kernel, by decide +kernel⟩, List.mem_of_getElem? (i := 73) (by decide +kernel), List.mem_of_getElem? (i := 359) (by decide +kernel), List.mem_of_getElem? (i := 360) (by decide +kernel)⟩
theorem lw_p13 : lw_okq (⟨"FarReach$Placing", "labelAddress", "(I)I"⟩, 16) := ⟨⟨by decide +kernel, by decide +kernel⟩, List.mem_of_getElem? (i := 73) (by decide +kernel), List.mem_of_getElem? (i := 363) (by decide +kernel), List.mem_of_getElem? (i := 364) (by decide +kernel)⟩
theorem lw_p14 : lw_okq (⟨"FarReach$Placing", "islandFor", "(II)I"⟩, 16) := ⟨⟨by decide +kernel, by decide +kernel⟩, List.mem_of_getElem? (i := 73) (by decide +kernel), List.mem_of_getElem? (i := 370) (by decide +kernel), List.mem_of_getElem? (i := 371) (by decide +kernel)⟩
theorem lw_p15 : lw_okq (⟨"FarReach$Placing", "shortAim", "(II)I"⟩, 16) := ⟨⟨by decide +kernel, by decide +kernel⟩, List.mem_of_getElem? (i := 73) (by decide +kernel), List.mem_of_getElem? (i := 374) (by decide +kernel), List.mem_of_getElem? (i := 375) (by decide +kernel)⟩
def lw_privs_1 : List (MethodName × Nat) := [(⟨"FarReach$Reader", "begins", "(I)Z"⟩, 4), (⟨"FarReach$Reader", "ends", "(I)Z"⟩, 4), (⟨"FarReach$Reader", "endsWithLabel", "(II)Z"⟩, 4), (⟨"FarReach$Placing", "clear", "()V"⟩, 16), (⟨"FarReach$Placing", "lay", "()V"⟩, 16), (⟨"FarReach$Placing", "sizeAt", "(II)I"⟩, 16), (⟨"FarReach$Placing", "noteLabel", "(II)V"⟩, 16), (⟨"FarReach$Placing", "layGap", "(II)I"⟩, 16), (⟨"FarReach$Placing", "aimItems", "()V"⟩, 16), (⟨"FarReach$Placing", "constantFor", "(II)I"⟩, 16), (⟨"FarReach$Placing", "isInLoadReach", "(II)Z"⟩, 16), (⟨"FarReach$Placing", "longAim", "(II)I"⟩, 16), (⟨"FarReach$Placing", "goesStraight", "(II)Z"⟩, 16), (⟨"FarReach$Placing", "labelAddress", "(I)I"⟩, 16), (⟨"FarReach$Placing", "islandFor", "(II)I"⟩, 16), (⟨"FarReach$Placing", "shortAim", "(II)I"⟩, 16)]
theorem lw_r1 : ∀ q ∈ lw_privs_1, lw_okq q := List.forall_mem_cons.mpr ⟨lw_p0, List.forall_mem_cons.mpr ⟨lw_p1, List.forall_mem_cons.mpr ⟨lw_p2, List.forall_mem_cons.mpr ⟨lw_p3, List.forall_mem_cons.mpr ⟨lw_p4, List.forall_mem_cons.mpr ⟨lw_p5, List.forall_mem_cons.mpr ⟨lw_p6, List.forall_mem_cons.mpr ⟨lw_p7, List.forall_mem_cons.mpr ⟨lw_p8, List.forall_mem_cons.mpr ⟨lw_p9, List.forall_mem_cons.mpr ⟨lw_p10, List.forall_mem_cons.mpr ⟨lw_p11, List.forall_mem_cons.mpr ⟨lw_p12, List.forall_mem_cons.mpr ⟨lw_p13, List.forall_mem_cons.mpr ⟨lw_p14, List.forall_mem_cons.mpr ⟨lw_p15, fun _ h => absurd h List.not_mem_nil⟩⟩⟩⟩⟩⟩⟩⟩⟩⟩⟩⟩⟩⟩⟩⟩
theorem lw_p16 : lw_okq (⟨"FarReach$Placing", "aimIslands", "()V"⟩, 16) := ⟨⟨by decide +kernel, by decide +kernel⟩, List.mem_of_getElem? (i := 73) (by decide +kernel), List.mem_of_getElem? (i := 378) (by decide +kernel), List.mem_of_getElem? (i := 379) (by decide +kernel)⟩
theorem lw_p17 : lw_okq (⟨"FarReach$Placing", "mendsOne", "()Z"⟩, 16) := ⟨⟨by decide +kernel, by decide +kernel⟩, List.mem_of_getElem? (i := 73) (by decide +kernel), List.mem_of_getElem? (i := 382) (by decide +kernel), List.mem_of_getElem? (i := 383) (by decide +kernel)⟩
theorem lw_p18 : lw_okq (⟨"FarReach$Placing", "firstAstray", "(IZ)I"⟩, 16) := ⟨⟨by decide +kernel, by decide +kernel⟩, List.mem_of_getElem? (i := 73) (by decide +kernel), List.mem_of_getElem? (i := 386) (by decide +kernel), List.mem_of_getElem? (i := 387) (by decide +kernel)⟩
theorem lw_p19 : lw_okq (⟨"FarReach$Placing", "lengthens", "(I)Z"⟩, 16) := ⟨⟨by decide +kernel, by decide +kernel⟩, List.mem_of_getElem? (i := 73) (by decide +kernel), List.mem_of_getElem? (i := 394) (by decide +kernel), List.mem_of_getElem? (i := 395) (by decide +kernel)⟩
theorem lw_p20 : lw_okq (⟨"FarReach$Placing", "bringsConstant", "(I)Z"⟩, 16) := ⟨⟨by decide +kernel, by decide +kernel⟩, List.mem_of_getElem? (i := 73) (by decide +kernel), List.mem_of_getElem? (i := 398) (by decide +kernel), List.mem_of_getElem? (i := 399) (by decide +kernel)⟩
theorem lw_p21 : lw_okq (⟨"FarReach$Placing", "nextConstantIn", "(I)I"⟩, 16) := ⟨⟨by decide +kernel, by decide +kernel⟩, List.mem_of_getElem? (i := 73) (by decide +kernel), List.mem_of_getElem? (i := 402) (by decide +kernel), List.mem_of_getElem? (i := 403) (by decide +kernel)⟩
theorem lw_p22 : lw_okq (⟨"FarReach$Placing", "fails", "(II)Z"⟩, 16) := ⟨⟨by decide +kernel, by decide +kernel⟩, List.mem_of_getElem? (i := 73) (by decide +kernel), List.mem_of_getElem? (i := 414) (by decide +kernel), List.mem_of_getElem? (i := 415) (by decide +kernel)⟩
theorem lw_p23 : lw_okq (⟨"FarReach$Placing", "bringsIsland", "(II)Z"⟩, 16) := ⟨⟨by decide +kernel, by decide +kernel⟩, List.mem_of_getElem? (i := 73) (by decide +kernel), List.mem_of_getElem? (i := 418) (by decide +kernel), List.mem_of_getElem? (i := 419) (by decide +kernel)⟩
theorem lw_p24 : lw_okq (⟨"FarReach$Placing", "firstIslandAstray", "()I"⟩, 16) := ⟨⟨by decide +kernel, by decide +kernel⟩, List.mem_of_getElem? (i := 73) (by decide +kernel), List.mem_of_getElem? (i := 422) (by decide +kernel), List.mem_of_getElem? (i := 423) (by decide +kernel)⟩
theorem lw_p25 : lw_okq (⟨"FarReach", "digestItems", "(J)J"⟩, 7) := ⟨⟨by decide +kernel, by decide +kernel⟩, List.mem_of_getElem? (i := 10) (by decide +kernel), List.mem_of_getElem? (i := 507) (by decide +kernel), List.mem_of_getElem? (i := 508) (by decide +kernel)⟩
theorem lw_p26 : lw_okq (⟨"FarReach", "digestIslands", "(J)J"⟩, 7) := ⟨⟨by decide +kernel, by decide +kernel⟩, List.mem_of_getElem? (i := 10) (by decide +kernel), List.mem_of_getElem? (i := 513) (by decide +kernel), List.mem_of_getElem? (i := 514) (by decide +kernel)⟩
theorem lw_p27 : lw_okq (⟨"FarReach", "digestConstants", "(J)J"⟩, 7) := ⟨⟨by decide +kernel, by decide +kernel⟩, List.mem_of_getElem? (i := 10) (by decide +kernel), List.mem_of_getElem? (i := 518) (by decide +kernel), List.mem_of_getElem? (i := 519) (by decide +kernel)⟩
theorem lw_p28 : lw_okq (⟨"FarReachModel", "goAlong", "()I"⟩, 34) := ⟨⟨by decide +kernel, by decide +kernel⟩, List.mem_of_getElem? (i := 526) (by decide +kernel), List.mem_of_getElem? (i := 650) (by decide +kernel), List.mem_of_getElem? (i := 651) (by decide +kernel)⟩
theorem lw_p29 : lw_okq (⟨"FarReachModel", "takes", "(I)Z"⟩, 34) := ⟨⟨by decide +kernel, by decide +kernel⟩, List.mem_of_getElem? (i := 526) (by decide +kernel), List.mem_of_getElem? (i := 654) (by decide +kernel), List.mem_of_getElem? (i := 655) (by decide +kernel)⟩
theorem lw_p30 : lw_okq (⟨"FarReachModel", "takesFirst", "(I)Z"⟩, 34) := ⟨⟨by decide +kernel, by decide +kernel⟩, List.mem_of_getElem? (i := 526) (by decide +kernel), List.mem_of_getElem? (i := 658) (by decide +kernel), List.mem_of_getElem? (i := 659) (by decide +kernel)⟩
theorem lw_p31 : lw_okq (⟨"FarReachModel", "keepItem", "(II)V"⟩, 34) := ⟨⟨by decide +kernel, by decide +kernel⟩, List.mem_of_getElem? (i := 526) (by decide +kernel), List.mem_of_getElem? (i := 665) (by decide +kernel), List.mem_of_getElem? (i := 666) (by decide +kernel)⟩
def lw_privs_2 : List (MethodName × Nat) := [(⟨"FarReach$Placing", "aimIslands", "()V"⟩, 16), (⟨"FarReach$Placing", "mendsOne", "()Z"⟩, 16), (⟨"FarReach$Placing", "firstAstray", "(IZ)I"⟩, 16), (⟨"FarReach$Placing", "lengthens", "(I)Z"⟩, 16), (⟨"FarReach$Placing", "bringsConstant", "(I)Z"⟩, 16), (⟨"FarReach$Placing", "nextConstantIn", "(I)I"⟩, 16), (⟨"FarReach$Placing", "fails", "(II)Z"⟩, 16), (⟨"FarReach$Placing", "bringsIsland", "(II)Z"⟩, 16), (⟨"FarReach$Placing", "firstIslandAstray", "()I"⟩, 16), (⟨"FarReach", "digestItems", "(J)J"⟩, 7), (⟨"FarReach", "digestIslands", "(J)J"⟩, 7), (⟨"FarReach", "digestConstants", "(J)J"⟩, 7), (⟨"FarReachModel", "goAlong", "()I"⟩, 34), (⟨"FarReachModel", "takes", "(I)Z"⟩, 34), (⟨"FarReachModel", "takesFirst", "(I)Z"⟩, 34), (⟨"FarReachModel", "keepItem", "(II)V"⟩, 34)]
theorem lw_r2 : ∀ q ∈ lw_privs_2, lw_okq q := List.forall_mem_cons.mpr ⟨lw_p16, List.forall_mem_cons.mpr ⟨lw_p17, List.forall_mem_cons.mpr ⟨lw_p18, List.forall_mem_cons.mpr ⟨lw_p19, List.forall_mem_cons.mpr ⟨lw_p20, List.forall_mem_cons.mpr ⟨lw_p21, List.forall_mem_cons.mpr ⟨lw_p22, List.forall_mem_cons.mpr ⟨lw_p23, List.forall_mem_cons.mpr ⟨lw_p24, List.forall_mem_cons.mpr ⟨lw_p25, List.forall_mem_cons.mpr ⟨lw_p26, List.forall_mem_cons.mpr ⟨lw_p27, List.forall_mem_cons.mpr ⟨lw_p28, List.forall_mem_cons.mpr ⟨lw_p29, List.forall_mem_cons.mpr ⟨lw_p30, List.forall_mem_cons.mpr ⟨lw_p31, fun _ h => absurd h List.not_mem_nil⟩⟩⟩⟩⟩⟩⟩⟩⟩⟩⟩⟩⟩⟩⟩⟩
theorem lw_p32 : lw_okq (⟨"FarReachModel", "takesLetter", "(I)Z"⟩, 34) := ⟨⟨by decide +kernel, by decide +kernel⟩, List.mem_of_getElem? (i := 526) (by decide +kernel), List.mem_of_getElem? (i := 669) (by decide +kernel), List.mem_of_getElem? (i := 670) (by decide +kernel)⟩
theorem lw_p33 : lw_okq (⟨"FarReachModel", "takesFigure", "(I)Z"⟩, 34) := ⟨⟨by decide +kernel, by decide +kernel⟩, List.mem_of_getElem? (i := 526) (by decide +kernel), List.mem_of_getElem? (i := 673) (by decide +kernel), List.mem_of_getElem? (i := 674) (by decide +kernel)⟩
theorem lw_p34 : lw_okq (⟨"FarReachModel", "placeAll", "()V"⟩, 34) := ⟨⟨by decide +kernel, by decide +kernel⟩, List.mem_of_getElem? (i := 526) (by decide +kernel), List.mem_of_getElem? (i := 681) (by decide +kernel), List.mem_of_getElem? (i := 682) (by decide +kernel)⟩
theorem lw_p35 : lw_okq (⟨"FarReachModel", "layAll", "()V"⟩, 34) := ⟨⟨by decide +kernel, by decide +kernel⟩, List.mem_of_getElem? (i := 526) (by decide +kernel), List.mem_of_getElem? (i := 685) (by decide +kernel), List.mem_of_getElem? (i := 686) (by decide +kernel)⟩
theorem lw_p36 : lw_okq (⟨"FarReachModel", "sizeOf", "(II)I"⟩, 34) := ⟨⟨by decide +kernel, by decide +kernel⟩, List.mem_of_getElem? (i := 526) (by decide +kernel), List.mem_of_getElem? (i := 689) (by decide +kernel), List.mem_of_getElem? (i := 690) (by decide +kernel)⟩
theorem lw_p37 : lw_okq (⟨"FarReachModel", "layGap", "(II)I"⟩, 34) := ⟨⟨by decide +kernel, by decide +kernel⟩, List.mem_of_getElem? (i := 526) (by decide +kernel), List.mem_of_getElem? (i := 696) (by decide +kernel), List.mem_of_getElem? (i := 697) (by decide +kernel)⟩
theorem lw_p38 : lw_okq (⟨"FarReachModel", "mends", "()Z"⟩, 34) := ⟨⟨by decide +kernel, by decide +kernel⟩, List.mem_of_getElem? (i := 526) (by decide +kernel), List.mem_of_getElem? (i := 700) (by decide +kernel), List.mem_of_getElem? (i := 701) (by decide +kernel)⟩
theorem lw_p39 : lw_okq (⟨"FarReachModel", "firstStuck", "(IZ)I"⟩, 34) := ⟨⟨by decide +kernel, by decide +kernel⟩, List.mem_of_getElem? (i := 526) (by decide +kernel), List.mem_of_getElem? (i := 704) (by decide +kernel), List.mem_of_getElem? (i := 705) (by decide +kernel)⟩
theorem lw_p40 : lw_okq (⟨"FarReachModel", "goesTo", "(I)I"⟩, 34) := ⟨⟨by decide +kernel, by decide +kernel⟩, List.mem_of_getElem? (i := 526) (by decide +kernel), List.mem_of_getElem? (i := 708) (by decide +kernel), List.mem_of_getElem? (i := 709) (by decide +kernel)⟩
theorem lw_p41 : lw_okq (⟨"FarReachModel", "constantFor", "(I)I"⟩, 34) := ⟨⟨by decide +kernel, by decide +kernel⟩, List.mem_of_getElem? (i := 526) (by decide +kernel), List.mem_of_getElem? (i := 712) (by decide +kernel), List.mem_of_getElem? (i := 713) (by decide +kernel)⟩
theorem lw_p42 : lw_okq (⟨"FarReachModel", "goesFrom", "(II)I"⟩, 34) := ⟨⟨by decide +kernel, by decide +kernel⟩, List.mem_of_getElem? (i := 526) (by decide +kernel), List.mem_of_getElem? (i := 716) (by decide +kernel), List.mem_of_getElem? (i := 717) (by decide +kernel)⟩
theorem lw_p43 : lw_okq (⟨"FarReachModel", "reachesLabel", "(II)Z"⟩, 34) := ⟨⟨by decide +kernel, by decide +kernel⟩, List.mem_of_getElem? (i := 526) (by decide +kernel), List.mem_of_getElem? (i := 720) (by decide +kernel), List.mem_of_getElem? (i := 721) (by decide +kernel)⟩
theorem lw_p44 : lw_okq (⟨"FarReachModel", "islandFor", "(II)I"⟩, 34) := ⟨⟨by decide +kernel, by decide +kernel⟩, List.mem_of_getElem? (i := 526) (by decide +kernel), List.mem_of_getElem? (i := 727) (by decide +kernel), List.mem_of_getElem? (i := 728) (by decide +kernel)⟩
theorem lw_p45 : lw_okq (⟨"FarReachModel", "shortGoes", "(I)I"⟩, 34) := ⟨⟨by decide +kernel, by decide +kernel⟩, List.mem_of_getElem? (i := 526) (by decide +kernel), List.mem_of_getElem? (i := 732) (by decide +kernel), List.mem_of_getElem? (i := 733) (by decide +kernel)⟩
theorem lw_p46 : lw_okq (⟨"FarReachModel", "putConstant", "(I)Z"⟩, 34) := ⟨⟨by decide +kernel, by decide +kernel⟩, List.mem_of_getElem? (i := 526) (by decide +kernel), List.mem_of_getElem? (i := 736) (by decide +kernel), List.mem_of_getElem? (i := 737) (by decide +kernel)⟩
theorem lw_p47 : lw_okq (⟨"FarReachModel", "fails", "(II)Z"⟩, 34) := ⟨⟨by decide +kernel, by decide +kernel⟩, List.mem_of_getElem? (i := 526) (by decide +kernel), List.mem_of_getElem? (i := 740) (by decide +kernel), List.mem_of_getElem? (i := 741) (by decide +kernel)⟩
def lw_privs_3 : List (MethodName × Nat) := [(⟨"FarReachModel", "takesLetter", "(I)Z"⟩, 34), (⟨"FarReachModel", "takesFigure", "(I)Z"⟩, 34), (⟨"FarReachModel", "placeAll", "()V"⟩, 34), (⟨"FarReachModel", "layAll", "()V"⟩, 34), (⟨"FarReachModel", "sizeOf", "(II)I"⟩, 34), (⟨"FarReachModel", "layGap", "(II)I"⟩, 34), (⟨"FarReachModel", "mends", "()Z"⟩, 34), (⟨"FarReachModel", "firstStuck", "(IZ)I"⟩, 34), (⟨"FarReachModel", "goesTo", "(I)I"⟩, 34), (⟨"FarReachModel", "constantFor", "(I)I"⟩, 34), (⟨"FarReachModel", "goesFrom", "(II)I"⟩, 34), (⟨"FarReachModel", "reachesLabel", "(II)Z"⟩, 34), (⟨"FarReachModel", "islandFor", "(II)I"⟩, 34), (⟨"FarReachModel", "shortGoes", "(I)I"⟩, 34), (⟨"FarReachModel", "putConstant", "(I)Z"⟩, 34), (⟨"FarReachModel", "fails", "(II)Z"⟩, 34)]
theorem lw_r3 : ∀ q ∈ lw_privs_3, lw_okq q := List.forall_mem_cons.mpr ⟨lw_p32, List.forall_mem_cons.mpr ⟨lw_p33, List.forall_mem_cons.mpr ⟨lw_p34, List.forall_mem_cons.mpr ⟨lw_p35, List.forall_mem_cons.mpr ⟨lw_p36, List.forall_mem_cons.mpr ⟨lw_p37, List.forall_mem_cons.mpr ⟨lw_p38, List.forall_mem_cons.mpr ⟨lw_p39, List.forall_mem_cons.mpr ⟨lw_p40, List.forall_mem_cons.mpr ⟨lw_p41, List.forall_mem_cons.mpr ⟨lw_p42, List.forall_mem_cons.mpr ⟨lw_p43, List.forall_mem_cons.mpr ⟨lw_p44, List.forall_mem_cons.mpr ⟨lw_p45, List.forall_mem_cons.mpr ⟨lw_p46, List.forall_mem_cons.mpr ⟨lw_p47, fun _ h => absurd h List.not_mem_nil⟩⟩⟩⟩⟩⟩⟩⟩⟩⟩⟩⟩⟩⟩⟩⟩
theorem lw_p48 : lw_okq (⟨"FarReachModel", "putIsland", "(IIII)Z"⟩, 34) := ⟨⟨by decide +kernel, by decide +kernel⟩, List.mem_of_getElem? (i := 526) (by decide +kernel), List.mem_of_getElem? (i := 744) (by decide +kernel), List.mem_of_getElem? (i := 745) (by decide +kernel)⟩
theorem lw_p49 : lw_okq (⟨"FarReachModel", "gapFor", "(II)I"⟩, 34) := ⟨⟨by decide +kernel, by decide +kernel⟩, List.mem_of_getElem? (i := 526) (by decide +kernel), List.mem_of_getElem? (i := 748) (by decide +kernel), List.mem_of_getElem? (i := 749) (by decide +kernel)⟩
theorem lw_p50 : lw_okq (⟨"FarReachModel", "firstStuckIsland", "()I"⟩, 34) := ⟨⟨by decide +kernel, by decide +kernel⟩, List.mem_of_getElem? (i := 526) (by decide +kernel), List.mem_of_getElem? (i := 752) (by decide +kernel), List.mem_of_getElem? (i := 753) (by decide +kernel)⟩
theorem lw_p51 : lw_okq (⟨"FarReachModel", "isItem", "(I)Z"⟩, 34) := ⟨⟨by decide +kernel, by decide +kernel⟩, List.mem_of_getElem? (i := 526) (by decide +kernel), List.mem_of_getElem? (i := 764) (by decide +kernel), List.mem_of_getElem? (i := 765) (by decide +kernel)⟩
theorem lw_p52 : lw_okq (⟨"FarReachModel", "itemNow", "(II)I"⟩, 34) := ⟨⟨by decide +kernel, by decide +kernel⟩, List.mem_of_getElem? (i := 526) (by decide +kernel), List.mem_of_getElem? (i := 772) (by decide +kernel), List.mem_of_getElem? (i := 773) (by decide +kernel)⟩
theorem lw_p53 : lw_okq (⟨"FarReachModel", "islandNow", "(II)I"⟩, 34) := ⟨⟨by decide +kernel, by decide +kernel⟩, List.mem_of_getElem? (i := 526) (by decide +kernel), List.mem_of_getElem? (i := 780) (by decide +kernel), List.mem_of_getElem? (i := 781) (by decide +kernel)⟩
theorem lw_p54 : lw_okq (⟨"FarReachModel", "constantNow", "(II)I"⟩, 34) := ⟨⟨by decide +kernel, by decide +kernel⟩, List.mem_of_getElem? (i := 526) (by decide +kernel), List.mem_of_getElem? (i := 788) (by decide +kernel), List.mem_of_getElem? (i := 789) (by decide +kernel)⟩
theorem lw_p55 : lw_okq (⟨"FarReachModel", "loadsOf", "(I)I"⟩, 34) := ⟨⟨by decide +kernel, by decide +kernel⟩, List.mem_of_getElem? (i := 526) (by decide +kernel), List.mem_of_getElem? (i := 792) (by decide +kernel), List.mem_of_getElem? (i := 793) (by decide +kernel)⟩
theorem lw_p56 : lw_okq (⟨"FarReachModel", "hopsNow", "(I)I"⟩, 34) := ⟨⟨by decide +kernel, by decide +kernel⟩, List.mem_of_getElem? (i := 526) (by decide +kernel), List.mem_of_getElem? (i := 800) (by decide +kernel), List.mem_of_getElem? (i := 801) (by decide +kernel)⟩
theorem lw_p57 : lw_okq (⟨"FarReachModel", "placedNow", "(I)I"⟩, 34) := ⟨⟨by decide +kernel, by decide +kernel⟩, List.mem_of_getElem? (i := 526) (by decide +kernel), List.mem_of_getElem? (i := 808) (by decide +kernel), List.mem_of_getElem? (i := 809) (by decide +kernel)⟩
theorem lw_p58 : lw_okq (⟨"FarReachModel", "longMany", "()I"⟩, 34) := ⟨⟨by decide +kernel, by decide +kernel⟩, List.mem_of_getElem? (i := 526) (by decide +kernel), List.mem_of_getElem? (i := 812) (by decide +kernel), List.mem_of_getElem? (i := 813) (by decide +kernel)⟩
theorem lw_p59 : lw_okq (⟨"FarReachModel", "howMany", "(I)I"⟩, 34) := ⟨⟨by decide +kernel, by decide +kernel⟩, List.mem_of_getElem? (i := 526) (by decide +kernel), List.mem_of_getElem? (i := 820) (by decide +kernel), List.mem_of_getElem? (i := 821) (by decide +kernel)⟩
theorem lw_p60 : lw_okq (⟨"FarReachModel", "gaps", "()I"⟩, 34) := ⟨⟨by decide +kernel, by decide +kernel⟩, List.mem_of_getElem? (i := 526) (by decide +kernel), List.mem_of_getElem? (i := 824) (by decide +kernel), List.mem_of_getElem? (i := 825) (by decide +kernel)⟩
theorem lw_p61 : lw_okq (⟨"FarReachModel", "mix", "(J)V"⟩, 34) := ⟨⟨by decide +kernel, by decide +kernel⟩, List.mem_of_getElem? (i := 526) (by decide +kernel), List.mem_of_getElem? (i := 833) (by decide +kernel), List.mem_of_getElem? (i := 834) (by decide +kernel)⟩
def lw_privs_4 : List (MethodName × Nat) := [(⟨"FarReachModel", "putIsland", "(IIII)Z"⟩, 34), (⟨"FarReachModel", "gapFor", "(II)I"⟩, 34), (⟨"FarReachModel", "firstStuckIsland", "()I"⟩, 34), (⟨"FarReachModel", "isItem", "(I)Z"⟩, 34), (⟨"FarReachModel", "itemNow", "(II)I"⟩, 34), (⟨"FarReachModel", "islandNow", "(II)I"⟩, 34), (⟨"FarReachModel", "constantNow", "(II)I"⟩, 34), (⟨"FarReachModel", "loadsOf", "(I)I"⟩, 34), (⟨"FarReachModel", "hopsNow", "(I)I"⟩, 34), (⟨"FarReachModel", "placedNow", "(I)I"⟩, 34), (⟨"FarReachModel", "longMany", "()I"⟩, 34), (⟨"FarReachModel", "howMany", "(I)I"⟩, 34), (⟨"FarReachModel", "gaps", "()I"⟩, 34), (⟨"FarReachModel", "mix", "(J)V"⟩, 34)]
theorem lw_r4 : ∀ q ∈ lw_privs_4, lw_okq q := List.forall_mem_cons.mpr ⟨lw_p48, List.forall_mem_cons.mpr ⟨lw_p49, List.forall_mem_cons.mpr ⟨lw_p50, List.forall_mem_cons.mpr ⟨lw_p51, List.forall_mem_cons.mpr ⟨lw_p52, List.forall_mem_cons.mpr ⟨lw_p53, List.forall_mem_cons.mpr ⟨lw_p54, List.forall_mem_cons.mpr ⟨lw_p55, List.forall_mem_cons.mpr ⟨lw_p56, List.forall_mem_cons.mpr ⟨lw_p57, List.forall_mem_cons.mpr ⟨lw_p58, List.forall_mem_cons.mpr ⟨lw_p59, List.forall_mem_cons.mpr ⟨lw_p60, List.forall_mem_cons.mpr ⟨lw_p61, fun _ h => absurd h List.not_mem_nil⟩⟩⟩⟩⟩⟩⟩⟩⟩⟩⟩⟩⟩⟩
def lw_privs : List (MethodName × Nat) := lw_privs_1 ++ (lw_privs_2 ++ (lw_privs_3 ++ (lw_privs_4)))
def lw_tbl : List Cond := k2_sels lw_privs ++ tables_1
theorem lw_privs_ok : ∀ q ∈ lw_privs, lw_okq q := by
  show ∀ q ∈ lw_privs_1 ++ (lw_privs_2 ++ (lw_privs_3 ++ (lw_privs_4))), lw_okq q
  exact List.forall_mem_append.mpr ⟨lw_r1, List.forall_mem_append.mpr ⟨lw_r2, List.forall_mem_append.mpr ⟨lw_r3, lw_r4⟩⟩⟩
end
section
/-! ===== BEGIN words of one list among another's, by their places ===== -/
theorem goodIn_r {big : List Cond} (ws : List Cond) (ps : List Nat) (hp : ws = ps.filterMap (fun i => big[i]?)) (h : ws.all goodWord = true) : GoodIn big ws := by
  intro w hw
  have h1 := List.all_eq_true.mp h w hw
  rw [hp] at hw
  obtain ⟨i, -, hi⟩ := List.mem_filterMap.mp hw
  have hm : w ∈ big := by first | exact List.mem_of_getElem? hi | exact List.getElem?_mem hi
  exact ⟨hm, good_of_word h1⟩
theorem goodIn_app {big a b : List Cond} (ha : GoodIn big a) (hb : GoodIn big b) : GoodIn big (a ++ b) := fun w h => (List.mem_append.mp h).elim (ha w) (hb w)
theorem goodIn_ca {big a b : List Cond} {c : Cond} (ha : GoodIn big (c :: a)) (hb : GoodIn big b) : GoodIn big (c :: (a ++ b)) := fun w h => (List.mem_cons.mp h).elim (fun e => ha w (List.mem_cons.mpr (Or.inl e))) (fun h => (List.mem_append.mp h).elim (fun h => ha w (List.mem_cons.mpr (Or.inr h))) (hb w))
theorem goodIn_sub {big ws : List Cond} (hm : ∀ w ∈ ws, w ∈ big) (h : ws.all goodWord = true) : GoodIn big ws := fun w hw => ⟨hm w hw, good_of_word (List.all_eq_true.mp h w hw)⟩
/-! ===== END ===== -/

/-! ===== BEGIN printed: names, fields, word lists, decode rows ===== -/
def RX0 : String := "FarReach$Items"
def TX0 : u_T := fun k => match k with
  | 0 => ("FarReach$Items", "kinds", "[I", true)
  | 1 => ("FarReach$Items", "told", "[I", true)
  | 2 => ("FarReach$Items", "size", "I", false)
  | _ => ("FarReach$Items", "gaps", "I", false)
def tyX0 : Nat → FieldType := fun k => match k with
  | 0 => .array .int
  | 1 => .array .int
  | 2 => .int
  | _ => .int
abbrev wsX00 : List Cond := u_ws RX0 TX0 4
theorem nmX0 : ∀ a, a < 4 → ∀ b, b < 4 → a ≠ b → (TX0 a).2.1 ≠ (TX0 b).2.1 := by decide +kernel
theorem tyX0_ok : ∀ k, k < 4 → parseFieldDescriptor (TX0 k).2.2.1 = some (tyX0 k) := by decide +kernel
abbrev cX0_init : ByteArray := prog_2_method_1_code
def yX0_init : MethodName := ⟨RX0, "<init>", "()V"⟩
abbrev cX0_clear : ByteArray := prog_2_method_2_code
def yX0_clear : MethodName := ⟨RX0, "clear", "()V"⟩
abbrev cX0_add : ByteArray := prog_2_method_3_code
def yX0_add : MethodName := ⟨RX0, "add", "(II)Z"⟩
abbrev cX0_takeFrom : ByteArray := prog_2_method_4_code
def yX0_takeFrom : MethodName := ⟨RX0, "takeFrom", "(LFarReach$Items;)V"⟩
abbrev cX0_size : ByteArray := prog_2_method_5_code
def yX0_size : MethodName := ⟨RX0, "size", "()I"⟩
abbrev cX0_gaps : ByteArray := prog_2_method_6_code
def yX0_gaps : MethodName := ⟨RX0, "gaps", "()I"⟩
abbrev cX0_has : ByteArray := prog_2_method_7_code
def yX0_has : MethodName := ⟨RX0, "has", "(I)Z"⟩
abbrev cX0_kindOf : ByteArray := prog_2_method_8_code
def yX0_kindOf : MethodName := ⟨RX0, "kindOf", "(I)I"⟩
abbrev cX0_toldOf : ByteArray := prog_2_method_9_code
def yX0_toldOf : MethodName := ⟨RX0, "toldOf", "(I)I"⟩
abbrev cX0_tell : ByteArray := prog_2_method_10_code
def yX0_tell : MethodName := ⟨RX0, "tell", "(II)V"⟩
def RX1 : String := "FarReach$Page"
def TX1 : u_T := fun k => match k with
  | 0 => ("FarReach$Page", "letters", "[I", true)
  | _ => ("FarReach$Page", "length", "I", false)
def tyX1 : Nat → FieldType := fun k => match k with
  | 0 => .array .int
  | _ => .int
abbrev wsX10 : List Cond := u_ws RX1 TX1 2
theorem nmX1 : ∀ a, a < 2 → ∀ b, b < 2 → a ≠ b → (TX1 a).2.1 ≠ (TX1 b).2.1 := by decide +kernel
theorem tyX1_ok : ∀ k, k < 2 → parseFieldDescriptor (TX1 k).2.2.1 = some (tyX1 k) := by decide +kernel
abbrev cX1_init : ByteArray := prog_3_method_1_code
def yX1_init : MethodName := ⟨RX1, "<init>", "()V"⟩
abbrev cX1_length : ByteArray := prog_3_method_2_code
def yX1_length : MethodName := ⟨RX1, "length", "()I"⟩
abbrev cX1_append : ByteArray := prog_3_method_3_code
def yX1_append : MethodName := ⟨RX1, "append", "(I)Z"⟩
abbrev cX1_clear : ByteArray := prog_3_method_4_code
def yX1_clear : MethodName := ⟨RX1, "clear", "()V"⟩
abbrev cX1_letterAt : ByteArray := prog_3_method_5_code
def yX1_letterAt : MethodName := ⟨RX1, "letterAt", "(I)I"⟩
def RX2 : String := "FarReach$Placing"
def TX2 : u_T := fun k => match k with
  | 0 => ("FarReach$Placing", "program", "LFarReach$Items;", true)
  | 1 => ("FarReach$Placing", "reaches", "[I", true)
  | 2 => ("FarReach$Placing", "islands", "LFarReach$Stock;", true)
  | 3 => ("FarReach$Placing", "constants", "LFarReach$Stock;", true)
  | 4 => ("FarReach$Placing", "longs", "[Z", true)
  | 5 => ("FarReach$Placing", "addresses", "[I", true)
  | 6 => ("FarReach$Placing", "sizes", "[I", true)
  | 7 => ("FarReach$Placing", "labelAddresses", "[I", true)
  | 8 => ("FarReach$Placing", "aims", "[I", true)
  | 9 => ("FarReach$Placing", "islandAims", "[I", true)
  | 10 => ("FarReach$Placing", "longBranches", "I", false)
  | 11 => ("FarReach$Placing", "rounds", "I", false)
  | 12 => ("FarReach$Placing", "bytes", "I", false)
  | 13 => ("FarReach$Placing", "filled", "I", false)
  | 14 => ("FarReach$Placing", "failedAt", "I", false)
  | _ => ("FarReach$Placing", "failedNumber", "I", false)
def tyX2 : Nat → FieldType := fun k => match k with
  | 0 => .object "FarReach$Items"
  | 1 => .array .int
  | 2 => .object "FarReach$Stock"
  | 3 => .object "FarReach$Stock"
  | 4 => .array .boolean
  | 5 => .array .int
  | 6 => .array .int
  | 7 => .array .int
  | 8 => .array .int
  | 9 => .array .int
  | 10 => .int
  | 11 => .int
  | 12 => .int
  | 13 => .int
  | 14 => .int
  | _ => .int
abbrev wsX20 : List Cond := u_ws RX2 TX2 16
theorem nmX2 : ∀ a, a < 16 → ∀ b, b < 16 → a ≠ b → (TX2 a).2.1 ≠ (TX2 b).2.1 := by decide +kernel
theorem tyX2_ok : ∀ k, k < 16 → parseFieldDescriptor (TX2 k).2.2.1 = some (tyX2 k) := by decide +kernel
abbrev cX2_init : ByteArray := prog_4_method_1_code
def yX2_init : MethodName := ⟨RX2, "<init>", "(LFarReach$Items;[I)V"⟩
abbrev cX2_placeAll : ByteArray := prog_4_method_2_code
def yX2_placeAll : MethodName := ⟨RX2, "placeAll", "()V"⟩
abbrev cX2_clear : ByteArray := prog_4_method_3_code
def yX2_clear : MethodName := ⟨RX2, "clear", "()V"⟩
abbrev cX2_lay : ByteArray := prog_4_method_4_code
def yX2_lay : MethodName := ⟨RX2, "lay", "()V"⟩
abbrev cX2_sizeAt : ByteArray := prog_4_method_5_code
def yX2_sizeAt : MethodName := ⟨RX2, "sizeAt", "(II)I"⟩
abbrev cX2_noteLabel : ByteArray := prog_4_method_6_code
def yX2_noteLabel : MethodName := ⟨RX2, "noteLabel", "(II)V"⟩
abbrev cX2_layGap : ByteArray := prog_4_method_7_code
def yX2_layGap : MethodName := ⟨RX2, "layGap", "(II)I"⟩
abbrev cX2_addressOf : ByteArray := prog_4_method_8_code
def yX2_addressOf : MethodName := ⟨RX2, "addressOf", "(I)I"⟩
abbrev cX2_sizeOf : ByteArray := prog_4_method_9_code
def yX2_sizeOf : MethodName := ⟨RX2, "sizeOf", "(I)I"⟩
abbrev cX2_isLong : ByteArray := prog_4_method_10_code
def yX2_isLong : MethodName := ⟨RX2, "isLong", "(I)Z"⟩
abbrev cX2_labelAddress : ByteArray := prog_4_method_11_code
def yX2_labelAddress : MethodName := ⟨RX2, "labelAddress", "(I)I"⟩
abbrev cX2_aimItems : ByteArray := prog_4_method_12_code
def yX2_aimItems : MethodName := ⟨RX2, "aimItems", "()V"⟩
abbrev cX2_aimIslands : ByteArray := prog_4_method_13_code
def yX2_aimIslands : MethodName := ⟨RX2, "aimIslands", "()V"⟩
abbrev cX2_shortAim : ByteArray := prog_4_method_14_code
def yX2_shortAim : MethodName := ⟨RX2, "shortAim", "(II)I"⟩
abbrev cX2_longAim : ByteArray := prog_4_method_15_code
def yX2_longAim : MethodName := ⟨RX2, "longAim", "(II)I"⟩
abbrev cX2_goesStraight : ByteArray := prog_4_method_16_code
def yX2_goesStraight : MethodName := ⟨RX2, "goesStraight", "(II)Z"⟩
abbrev cX2_islandFor : ByteArray := prog_4_method_17_code
def yX2_islandFor : MethodName := ⟨RX2, "islandFor", "(II)I"⟩
abbrev cX2_constantFor : ByteArray := prog_4_method_18_code
def yX2_constantFor : MethodName := ⟨RX2, "constantFor", "(II)I"⟩
abbrev cX2_isInLoadReach : ByteArray := prog_4_method_19_code
def yX2_isInLoadReach : MethodName := ⟨RX2, "isInLoadReach", "(II)Z"⟩
abbrev cX2_aimOf : ByteArray := prog_4_method_20_code
def yX2_aimOf : MethodName := ⟨RX2, "aimOf", "(I)I"⟩
abbrev cX2_islandAimOf : ByteArray := prog_4_method_21_code
def yX2_islandAimOf : MethodName := ⟨RX2, "islandAimOf", "(I)I"⟩
abbrev cX2_loadsOf : ByteArray := prog_4_method_22_code
def yX2_loadsOf : MethodName := ⟨RX2, "loadsOf", "(I)I"⟩
abbrev cX2_hopsFrom : ByteArray := prog_4_method_23_code
def yX2_hopsFrom : MethodName := ⟨RX2, "hopsFrom", "(I)I"⟩
abbrev cX2_mendsOne : ByteArray := prog_4_method_24_code
def yX2_mendsOne : MethodName := ⟨RX2, "mendsOne", "()Z"⟩
abbrev cX2_firstAstray : ByteArray := prog_4_method_25_code
def yX2_firstAstray : MethodName := ⟨RX2, "firstAstray", "(IZ)I"⟩
abbrev cX2_firstIslandAstray : ByteArray := prog_4_method_26_code
def yX2_firstIslandAstray : MethodName := ⟨RX2, "firstIslandAstray", "()I"⟩
abbrev cX2_fails : ByteArray := prog_4_method_27_code
def yX2_fails : MethodName := ⟨RX2, "fails", "(II)Z"⟩
abbrev cX2_lengthens : ByteArray := prog_4_method_28_code
def yX2_lengthens : MethodName := ⟨RX2, "lengthens", "(I)Z"⟩
abbrev cX2_bringsConstant : ByteArray := prog_4_method_29_code
def yX2_bringsConstant : MethodName := ⟨RX2, "bringsConstant", "(I)Z"⟩
abbrev cX2_nextConstantIn : ByteArray := prog_4_method_30_code
def yX2_nextConstantIn : MethodName := ⟨RX2, "nextConstantIn", "(I)I"⟩
abbrev cX2_bringsIsland : ByteArray := prog_4_method_31_code
def yX2_bringsIsland : MethodName := ⟨RX2, "bringsIsland", "(II)Z"⟩
def RX3 : String := "FarReach$Reader"
def TX3 : u_T := fun k => match k with
  | 0 => ("FarReach$Reader", "items", "LFarReach$Items;", true)
  | 1 => ("FarReach$Reader", "open", "I", false)
  | 2 => ("FarReach$Reader", "labelsMet", "I", false)
  | _ => ("FarReach$Reader", "labelsWanted", "I", false)
def tyX3 : Nat → FieldType := fun k => match k with
  | 0 => .object "FarReach$Items"
  | 1 => .int
  | 2 => .int
  | _ => .int
abbrev wsX30 : List Cond := u_ws RX3 TX3 4
theorem nmX3 : ∀ a, a < 4 → ∀ b, b < 4 → a ≠ b → (TX3 a).2.1 ≠ (TX3 b).2.1 := by decide +kernel
theorem tyX3_ok : ∀ k, k < 4 → parseFieldDescriptor (TX3 k).2.2.1 = some (tyX3 k) := by decide +kernel
abbrev cX3_init : ByteArray := prog_5_method_1_code
def yX3_init : MethodName := ⟨RX3, "<init>", "()V"⟩
abbrev cX3_read : ByteArray := prog_5_method_2_code
def yX3_read : MethodName := ⟨RX3, "read", "(LFarReach$Page;)I"⟩
abbrev cX3_isWhole : ByteArray := prog_5_method_3_code
def yX3_isWhole : MethodName := ⟨RX3, "isWhole", "()Z"⟩
abbrev cX3_begins : ByteArray := prog_5_method_4_code
def yX3_begins : MethodName := ⟨RX3, "begins", "(I)Z"⟩
abbrev cX3_ends : ByteArray := prog_5_method_5_code
def yX3_ends : MethodName := ⟨RX3, "ends", "(I)Z"⟩
abbrev cX3_endsWithLabel : ByteArray := prog_5_method_6_code
def yX3_endsWithLabel : MethodName := ⟨RX3, "endsWithLabel", "(II)Z"⟩
abbrev cX3_kindBegunBy : ByteArray := prog_5_method_7_code
def yX3_kindBegunBy : MethodName := ⟨RX3, "kindBegunBy", "(I)I"⟩
def RX4 : String := "FarReach$Stock"
def TX4 : u_T := fun k => match k with
  | 0 => ("FarReach$Stock", "names", "[I", true)
  | 1 => ("FarReach$Stock", "returns", "[I", true)
  | 2 => ("FarReach$Stock", "places", "[I", true)
  | 3 => ("FarReach$Stock", "inGap", "[I", true)
  | 4 => ("FarReach$Stock", "starts", "[I", true)
  | _ => ("FarReach$Stock", "size", "I", false)
def tyX4 : Nat → FieldType := fun k => match k with
  | 0 => .array .int
  | 1 => .array .int
  | 2 => .array .int
  | 3 => .array .int
  | 4 => .array .int
  | _ => .int
abbrev wsX40 : List Cond := u_ws RX4 TX4 6
theorem nmX4 : ∀ a, a < 6 → ∀ b, b < 6 → a ≠ b → (TX4 a).2.1 ≠ (TX4 b).2.1 := by decide +kernel
theorem tyX4_ok : ∀ k, k < 6 → parseFieldDescriptor (TX4 k).2.2.1 = some (tyX4 k) := by decide +kernel
abbrev cX4_init : ByteArray := prog_6_method_1_code
def yX4_init : MethodName := ⟨RX4, "<init>", "(I)V"⟩
abbrev cX4_clear : ByteArray := prog_6_method_2_code
def yX4_clear : MethodName := ⟨RX4, "clear", "()V"⟩
abbrev cX4_size : ByteArray := prog_6_method_3_code
def yX4_size : MethodName := ⟨RX4, "size", "()I"⟩
abbrev cX4_has : ByteArray := prog_6_method_4_code
def yX4_has : MethodName := ⟨RX4, "has", "(I)Z"⟩
abbrev cX4_add : ByteArray := prog_6_method_5_code
def yX4_add : MethodName := ⟨RX4, "add", "(II)Z"⟩
abbrev cX4_lay : ByteArray := prog_6_method_6_code
def yX4_lay : MethodName := ⟨RX4, "lay", "(II)I"⟩
abbrev cX4_isIn : ByteArray := prog_6_method_7_code
def yX4_isIn : MethodName := ⟨RX4, "isIn", "(I)Z"⟩
abbrev cX4_endOf : ByteArray := prog_6_method_8_code
def yX4_endOf : MethodName := ⟨RX4, "endOf", "(I)I"⟩
abbrev cX4_nameOf : ByteArray := prog_6_method_9_code
def yX4_nameOf : MethodName := ⟨RX4, "nameOf", "(I)I"⟩
abbrev cX4_returnOf : ByteArray := prog_6_method_10_code
def yX4_returnOf : MethodName := ⟨RX4, "returnOf", "(I)I"⟩
abbrev cX4_addressOf : ByteArray := prog_6_method_11_code
def yX4_addressOf : MethodName := ⟨RX4, "addressOf", "(I)I"⟩
abbrev cX4_isItem : ByteArray := prog_6_method_12_code
def yX4_isItem : MethodName := ⟨RX4, "isItem", "(I)Z"⟩
def RX5 : String := "FarReach"
def TX5 : u_T := fun k => match k with
  | 0 => ("FarReach", "page", "LFarReach$Page;", true)
  | 1 => ("FarReach", "reader", "LFarReach$Reader;", true)
  | 2 => ("FarReach", "program", "LFarReach$Items;", true)
  | 3 => ("FarReach", "reaches", "[I", true)
  | 4 => ("FarReach", "placing", "LFarReach$Placing;", true)
  | 5 => ("FarReach", "timesRead", "I", false)
  | _ => ("FarReach", "timesAltered", "I", false)
def tyX5 : Nat → FieldType := fun k => match k with
  | 0 => .object "FarReach$Page"
  | 1 => .object "FarReach$Reader"
  | 2 => .object "FarReach$Items"
  | 3 => .array .int
  | 4 => .object "FarReach$Placing"
  | 5 => .int
  | _ => .int
abbrev wsX50 : List Cond := u_ws RX5 TX5 7
theorem nmX5 : ∀ a, a < 7 → ∀ b, b < 7 → a ≠ b → (TX5 a).2.1 ≠ (TX5 b).2.1 := by decide +kernel
theorem tyX5_ok : ∀ k, k < 7 → parseFieldDescriptor (TX5 k).2.2.1 = some (tyX5 k) := by decide +kernel
abbrev cX5_init : ByteArray := prog_1_method_1_code
def yX5_init : MethodName := ⟨RX5, "<init>", "()V"⟩
abbrev cX5_letter : ByteArray := prog_1_method_2_code
def yX5_letter : MethodName := ⟨RX5, "letter", "(I)I"⟩
abbrev cX5_blank : ByteArray := prog_1_method_3_code
def yX5_blank : MethodName := ⟨RX5, "blank", "()I"⟩
abbrev cX5_fault : ByteArray := prog_1_method_4_code
def yX5_fault : MethodName := ⟨RX5, "fault", "()I"⟩
abbrev cX5_code : ByteArray := prog_1_method_5_code
def yX5_code : MethodName := ⟨RX5, "code", "()I"⟩
abbrev cX5_reach : ByteArray := prog_1_method_6_code
def yX5_reach : MethodName := ⟨RX5, "reach", "(II)I"⟩
abbrev cX5_grow : ByteArray := prog_1_method_7_code
def yX5_grow : MethodName := ⟨RX5, "grow", "(II)I"⟩
abbrev cX5_item : ByteArray := prog_1_method_8_code
def yX5_item : MethodName := ⟨RX5, "item", "(II)I"⟩
abbrev cX5_island : ByteArray := prog_1_method_9_code
def yX5_island : MethodName := ⟨RX5, "island", "(II)I"⟩
abbrev cX5_constant : ByteArray := prog_1_method_10_code
def yX5_constant : MethodName := ⟨RX5, "constant", "(II)I"⟩
abbrev cX5_hops : ByteArray := prog_1_method_11_code
def yX5_hops : MethodName := ⟨RX5, "hops", "(I)I"⟩
abbrev cX5_placed : ByteArray := prog_1_method_12_code
def yX5_placed : MethodName := ⟨RX5, "placed", "(I)I"⟩
abbrev cX5_count : ByteArray := prog_1_method_13_code
def yX5_count : MethodName := ⟨RX5, "count", "(I)I"⟩
abbrev cX5_digest : ByteArray := prog_1_method_14_code
def yX5_digest : MethodName := ⟨RX5, "digest", "()J"⟩
abbrev cX5_digestItems : ByteArray := prog_1_method_15_code
def yX5_digestItems : MethodName := ⟨RX5, "digestItems", "(J)J"⟩
abbrev cX5_digestIslands : ByteArray := prog_1_method_16_code
def yX5_digestIslands : MethodName := ⟨RX5, "digestIslands", "(J)J"⟩
abbrev cX5_digestConstants : ByteArray := prog_1_method_17_code
def yX5_digestConstants : MethodName := ⟨RX5, "digestConstants", "(J)J"⟩
abbrev cX5_far : ByteArray := prog_1_method_18_code
def yX5_far : MethodName := ⟨RX5, "far", "(II)I"⟩
abbrev cX5_fillTo : ByteArray := prog_1_method_19_code
def yX5_fillTo : MethodName := ⟨RX5, "fillTo", "(II)I"⟩
def RX6 : String := "FarReachModel"
def TX6 : u_T := fun k => match k with
  | 0 => ("FarReachModel", "pageLength", "I", false)
  | 1 => ("FarReachModel", "page", "[I", true)
  | 2 => ("FarReachModel", "items", "I", false)
  | 3 => ("FarReachModel", "kindOf", "[I", true)
  | 4 => ("FarReachModel", "toldOf", "[I", true)
  | 5 => ("FarReachModel", "codesRead", "I", false)
  | 6 => ("FarReachModel", "altered", "I", false)
  | 7 => ("FarReachModel", "reaches", "[I", true)
  | 8 => ("FarReachModel", "newItems", "I", false)
  | 9 => ("FarReachModel", "newKind", "[I", true)
  | 10 => ("FarReachModel", "newTold", "[I", true)
  | 11 => ("FarReachModel", "begun", "I", false)
  | 12 => ("FarReachModel", "cameLabels", "I", false)
  | 13 => ("FarReachModel", "ledLabels", "I", false)
  | 14 => ("FarReachModel", "isLong", "[Z", true)
  | 15 => ("FarReachModel", "islands", "I", false)
  | 16 => ("FarReachModel", "islandLabel", "[I", true)
  | 17 => ("FarReachModel", "islandGap", "[I", true)
  | 18 => ("FarReachModel", "constants", "I", false)
  | 19 => ("FarReachModel", "constantValue", "[I", true)
  | 20 => ("FarReachModel", "constantGap", "[I", true)
  | 21 => ("FarReachModel", "addressOf", "[I", true)
  | 22 => ("FarReachModel", "islandAt", "[I", true)
  | 23 => ("FarReachModel", "constantAt", "[I", true)
  | 24 => ("FarReachModel", "islandsEnd", "[I", true)
  | 25 => ("FarReachModel", "constantsEnd", "[I", true)
  | 26 => ("FarReachModel", "labelAt", "[I", true)
  | 27 => ("FarReachModel", "bytesAll", "I", false)
  | 28 => ("FarReachModel", "filled", "I", false)
  | 29 => ("FarReachModel", "rounds", "I", false)
  | 30 => ("FarReachModel", "isGood", "Z", false)
  | 31 => ("FarReachModel", "failsBy", "I", false)
  | 32 => ("FarReachModel", "failsAt", "I", false)
  | _ => ("FarReachModel", "h", "J", false)
def tyX6 : Nat → FieldType := fun k => match k with
  | 0 => .int
  | 1 => .array .int
  | 2 => .int
  | 3 => .array .int
  | 4 => .array .int
  | 5 => .int
  | 6 => .int
  | 7 => .array .int
  | 8 => .int
  | 9 => .array .int
  | 10 => .array .int
  | 11 => .int
  | 12 => .int
  | 13 => .int
  | 14 => .array .boolean
  | 15 => .int
  | 16 => .array .int
  | 17 => .array .int
  | 18 => .int
  | 19 => .array .int
  | 20 => .array .int
  | 21 => .array .int
  | 22 => .array .int
  | 23 => .array .int
  | 24 => .array .int
  | 25 => .array .int
  | 26 => .array .int
  | 27 => .int
  | 28 => .int
  | 29 => .int
  | 30 => .boolean
  | 31 => .int
  | 32 => .int
  | _ => .long
abbrev wsX60 : List Cond := u_ws RX6 TX6 34
theorem nmX6 : ∀ a, a < 34 → ∀ b, b < 34 → a ≠ b → (TX6 a).2.1 ≠ (TX6 b).2.1 := by decide +kernel
theorem tyX6_ok : ∀ k, k < 34 → parseFieldDescriptor (TX6 k).2.2.1 = some (tyX6 k) := by decide +kernel
abbrev cX6_init : ByteArray := prog_8_method_1_code
def yX6_init : MethodName := ⟨RX6, "<init>", "()V"⟩
abbrev cX6_within : ByteArray := prog_8_method_3_code
def yX6_within : MethodName := ⟨RX6, "within", "(III)Z"⟩
abbrev cX6_letter : ByteArray := prog_8_method_4_code
def yX6_letter : MethodName := ⟨RX6, "letter", "(I)I"⟩
abbrev cX6_blank : ByteArray := prog_8_method_5_code
def yX6_blank : MethodName := ⟨RX6, "blank", "()I"⟩
abbrev cX6_kindBy : ByteArray := prog_8_method_6_code
def yX6_kindBy : MethodName := ⟨RX6, "kindBy", "(I)I"⟩
abbrev cX6_keepItem : ByteArray := prog_8_method_7_code
def yX6_keepItem : MethodName := ⟨RX6, "keepItem", "(II)V"⟩
abbrev cX6_takesFirst : ByteArray := prog_8_method_8_code
def yX6_takesFirst : MethodName := ⟨RX6, "takesFirst", "(I)Z"⟩
abbrev cX6_takesLetter : ByteArray := prog_8_method_9_code
def yX6_takesLetter : MethodName := ⟨RX6, "takesLetter", "(I)Z"⟩
abbrev cX6_takesFigure : ByteArray := prog_8_method_10_code
def yX6_takesFigure : MethodName := ⟨RX6, "takesFigure", "(I)Z"⟩
abbrev cX6_takes : ByteArray := prog_8_method_11_code
def yX6_takes : MethodName := ⟨RX6, "takes", "(I)Z"⟩
abbrev cX6_goAlong : ByteArray := prog_8_method_12_code
def yX6_goAlong : MethodName := ⟨RX6, "goAlong", "()I"⟩
abbrev cX6_fault : ByteArray := prog_8_method_13_code
def yX6_fault : MethodName := ⟨RX6, "fault", "()I"⟩
abbrev cX6_code : ByteArray := prog_8_method_14_code
def yX6_code : MethodName := ⟨RX6, "code", "()I"⟩
abbrev cX6_isItem : ByteArray := prog_8_method_15_code
def yX6_isItem : MethodName := ⟨RX6, "isItem", "(I)Z"⟩
abbrev cX6_reach : ByteArray := prog_8_method_16_code
def yX6_reach : MethodName := ⟨RX6, "reach", "(II)I"⟩
abbrev cX6_grow : ByteArray := prog_8_method_17_code
def yX6_grow : MethodName := ⟨RX6, "grow", "(II)I"⟩
abbrev cX6_up : ByteArray := prog_8_method_18_code
def yX6_up : MethodName := ⟨RX6, "up", "(II)I"⟩
abbrev cX6_sizeOf : ByteArray := prog_8_method_19_code
def yX6_sizeOf : MethodName := ⟨RX6, "sizeOf", "(II)I"⟩
abbrev cX6_layGap : ByteArray := prog_8_method_20_code
def yX6_layGap : MethodName := ⟨RX6, "layGap", "(II)I"⟩
abbrev cX6_layAll : ByteArray := prog_8_method_21_code
def yX6_layAll : MethodName := ⟨RX6, "layAll", "()V"⟩
abbrev cX6_apart : ByteArray := prog_8_method_22_code
def yX6_apart : MethodName := ⟨RX6, "apart", "(II)I"⟩
abbrev cX6_constantFor : ByteArray := prog_8_method_23_code
def yX6_constantFor : MethodName := ⟨RX6, "constantFor", "(I)I"⟩
abbrev cX6_islandFor : ByteArray := prog_8_method_24_code
def yX6_islandFor : MethodName := ⟨RX6, "islandFor", "(II)I"⟩
abbrev cX6_reachesLabel : ByteArray := prog_8_method_25_code
def yX6_reachesLabel : MethodName := ⟨RX6, "reachesLabel", "(II)Z"⟩
abbrev cX6_goesFrom : ByteArray := prog_8_method_26_code
def yX6_goesFrom : MethodName := ⟨RX6, "goesFrom", "(II)I"⟩
abbrev cX6_shortGoes : ByteArray := prog_8_method_27_code
def yX6_shortGoes : MethodName := ⟨RX6, "shortGoes", "(I)I"⟩
abbrev cX6_goesTo : ByteArray := prog_8_method_28_code
def yX6_goesTo : MethodName := ⟨RX6, "goesTo", "(I)I"⟩
abbrev cX6_fails : ByteArray := prog_8_method_29_code
def yX6_fails : MethodName := ⟨RX6, "fails", "(II)Z"⟩
abbrev cX6_firstStuck : ByteArray := prog_8_method_30_code
def yX6_firstStuck : MethodName := ⟨RX6, "firstStuck", "(IZ)I"⟩
abbrev cX6_firstStuckIsland : ByteArray := prog_8_method_31_code
def yX6_firstStuckIsland : MethodName := ⟨RX6, "firstStuckIsland", "()I"⟩
abbrev cX6_putConstant : ByteArray := prog_8_method_32_code
def yX6_putConstant : MethodName := ⟨RX6, "putConstant", "(I)Z"⟩
abbrev cX6_gapFor : ByteArray := prog_8_method_33_code
def yX6_gapFor : MethodName := ⟨RX6, "gapFor", "(II)I"⟩
abbrev cX6_putIsland : ByteArray := prog_8_method_34_code
def yX6_putIsland : MethodName := ⟨RX6, "putIsland", "(IIII)Z"⟩
abbrev cX6_mends : ByteArray := prog_8_method_35_code
def yX6_mends : MethodName := ⟨RX6, "mends", "()Z"⟩
abbrev cX6_placeAll : ByteArray := prog_8_method_36_code
def yX6_placeAll : MethodName := ⟨RX6, "placeAll", "()V"⟩
abbrev cX6_itemNow : ByteArray := prog_8_method_37_code
def yX6_itemNow : MethodName := ⟨RX6, "itemNow", "(II)I"⟩
abbrev cX6_item : ByteArray := prog_8_method_38_code
def yX6_item : MethodName := ⟨RX6, "item", "(II)I"⟩
abbrev cX6_islandNow : ByteArray := prog_8_method_39_code
def yX6_islandNow : MethodName := ⟨RX6, "islandNow", "(II)I"⟩
abbrev cX6_island : ByteArray := prog_8_method_40_code
def yX6_island : MethodName := ⟨RX6, "island", "(II)I"⟩
abbrev cX6_loadsOf : ByteArray := prog_8_method_41_code
def yX6_loadsOf : MethodName := ⟨RX6, "loadsOf", "(I)I"⟩
abbrev cX6_constantNow : ByteArray := prog_8_method_42_code
def yX6_constantNow : MethodName := ⟨RX6, "constantNow", "(II)I"⟩
abbrev cX6_constant : ByteArray := prog_8_method_43_code
def yX6_constant : MethodName := ⟨RX6, "constant", "(II)I"⟩
abbrev cX6_hopsNow : ByteArray := prog_8_method_44_code
def yX6_hopsNow : MethodName := ⟨RX6, "hopsNow", "(I)I"⟩
abbrev cX6_hops : ByteArray := prog_8_method_45_code
def yX6_hops : MethodName := ⟨RX6, "hops", "(I)I"⟩
abbrev cX6_longMany : ByteArray := prog_8_method_46_code
def yX6_longMany : MethodName := ⟨RX6, "longMany", "()I"⟩
abbrev cX6_placedNow : ByteArray := prog_8_method_47_code
def yX6_placedNow : MethodName := ⟨RX6, "placedNow", "(I)I"⟩
abbrev cX6_placed : ByteArray := prog_8_method_48_code
def yX6_placed : MethodName := ⟨RX6, "placed", "(I)I"⟩
abbrev cX6_gaps : ByteArray := prog_8_method_49_code
def yX6_gaps : MethodName := ⟨RX6, "gaps", "()I"⟩
abbrev cX6_howMany : ByteArray := prog_8_method_50_code
def yX6_howMany : MethodName := ⟨RX6, "howMany", "(I)I"⟩
abbrev cX6_count : ByteArray := prog_8_method_51_code
def yX6_count : MethodName := ⟨RX6, "count", "(I)I"⟩
abbrev cX6_mix : ByteArray := prog_8_method_52_code
def yX6_mix : MethodName := ⟨RX6, "mix", "(J)V"⟩
abbrev cX6_digest : ByteArray := prog_8_method_53_code
def yX6_digest : MethodName := ⟨RX6, "digest", "()J"⟩
def RJ9 : String := "java/lang/Math"
def TJ9 : u_T := fun k => match k with
  | _ => ("", "", "", false)
def tyJ9 : Nat → FieldType := fun k => match k with
  | _ => .int
abbrev wsJ90 : List Cond := u_ws RJ9 TJ9 0
theorem nmJ9 : ∀ a, a < 0 → ∀ b, b < 0 → a ≠ b → (TJ9 a).2.1 ≠ (TJ9 b).2.1 := by decide +kernel
theorem tyJ9_ok : ∀ k, k < 0 → parseFieldDescriptor (TJ9 k).2.2.1 = some (tyJ9 k) := by decide +kernel
abbrev cJ9_max_7cf53 : ByteArray := prog_9_method_65_code
def yJ9_max_7cf53 : MethodName := ⟨RJ9, "max", "(II)I"⟩
def RL : String := "FarReachLaw"
abbrev cL_law : ByteArray := code
def yL_law : MethodName := ⟨RL, "law", "([I)Z"⟩
def wsX0_init : List Cond := .code yX0_init cX0_init 1 none :: ([.methodLink RX0 3 objectInit, .instanceMethod objectInit, .code objectInit ⟨#[0xb1]⟩ 1 none, .arrayClass .int, .fieldLink RX0 9 "FarReach$Items" "kinds" "[I", .fieldLink RX0 15 "FarReach$Items" "told" "[I"] ++ wsX00)
def wsX0_clear : List Cond := .code yX0_clear cX0_clear 1 none :: ([.fieldLink RX0 18 "FarReach$Items" "size" "I", .fieldLink RX0 22 "FarReach$Items" "gaps" "I"] ++ wsX00)
def wsX0_add : List Cond := .code yX0_add cX0_add 3 (some .boolean) :: ([.fieldLink RX0 18 "FarReach$Items" "size" "I", .fieldLink RX0 9 "FarReach$Items" "kinds" "[I", .fieldLink RX0 15 "FarReach$Items" "told" "[I", .fieldLink RX0 22 "FarReach$Items" "gaps" "I"] ++ wsX00)
def wsX0_size : List Cond := .code yX0_size cX0_size 1 (some .int) :: ([.fieldLink RX0 18 "FarReach$Items" "size" "I"] ++ wsX00)
def wsX0_has : List Cond := .code yX0_has cX0_has 2 (some .boolean) :: ([.fieldLink RX0 18 "FarReach$Items" "size" "I", .fieldLink RX0 9 "FarReach$Items" "kinds" "[I", .fieldLink RX0 15 "FarReach$Items" "told" "[I"] ++ wsX00)
def wsX0_kindOf : List Cond := .code yX0_kindOf cX0_kindOf 2 (some .int) :: ([.fieldLink RX0 9 "FarReach$Items" "kinds" "[I", .methodLink RX0 42 yX0_has, .instanceMethod yX0_has, .selects RX0 yX0_has yX0_has, .initialized RX0, .code yX0_has cX0_has 2 (some .boolean), .fieldLink RX0 18 "FarReach$Items" "size" "I", .fieldLink RX0 15 "FarReach$Items" "told" "[I"] ++ wsX00)
def wsX0_toldOf : List Cond := .code yX0_toldOf cX0_toldOf 2 (some .int) :: ([.fieldLink RX0 15 "FarReach$Items" "told" "[I", .methodLink RX0 42 yX0_has, .instanceMethod yX0_has, .selects RX0 yX0_has yX0_has, .initialized RX0, .code yX0_has cX0_has 2 (some .boolean), .fieldLink RX0 18 "FarReach$Items" "size" "I", .fieldLink RX0 9 "FarReach$Items" "kinds" "[I"] ++ wsX00)
def wsX0_takeFrom_r1 : List Cond := [Cond.methodLink RX0 25 yX0_clear, Cond.instanceMethod yX0_clear, Cond.selects RX0 yX0_clear yX0_clear, Cond.initialized RX0, Cond.code yX0_clear cX0_clear 1 none, Cond.fieldLink RX0 18 "FarReach$Items" "size" "I", Cond.fieldLink RX0 22 "FarReach$Items" "gaps" "I", Cond.methodLink RX0 28 yX0_size, Cond.instanceMethod yX0_size, Cond.selects RX0 yX0_size yX0_size, Cond.code yX0_size cX0_size 1 (some .int), Cond.methodLink RX0 31 yX0_kindOf, Cond.instanceMethod yX0_kindOf, Cond.selects RX0 yX0_kindOf yX0_kindOf, Cond.code yX0_kindOf cX0_kindOf 2 (some .int), Cond.fieldLink RX0 9 "FarReach$Items" "kinds" "[I", Cond.methodLink RX0 42 yX0_has, Cond.instanceMethod yX0_has, Cond.selects RX0 yX0_has yX0_has, Cond.code yX0_has cX0_has 2 (some .boolean), Cond.fieldLink RX0 15 "FarReach$Items" "told" "[I", Cond.methodLink RX0 35 yX0_toldOf, Cond.instanceMethod yX0_toldOf, Cond.selects RX0 yX0_toldOf yX0_toldOf]
def wsX0_takeFrom_r2 : List Cond := [Cond.code yX0_toldOf cX0_toldOf 2 (some .int), Cond.methodLink RX0 38 yX0_add, Cond.instanceMethod yX0_add, Cond.selects RX0 yX0_add yX0_add, Cond.code yX0_add cX0_add 3 (some .boolean)]
def wsX0_takeFrom : List Cond := .code yX0_takeFrom cX0_takeFrom 3 none :: ((wsX0_takeFrom_r1 ++ wsX0_takeFrom_r2) ++ wsX00)
def wsX0_gaps : List Cond := .code yX0_gaps cX0_gaps 1 (some .int) :: ([.fieldLink RX0 22 "FarReach$Items" "gaps" "I"] ++ wsX00)
def wsX0_tell : List Cond := .code yX0_tell cX0_tell 3 none :: ([.fieldLink RX0 15 "FarReach$Items" "told" "[I", .methodLink RX0 42 yX0_has, .instanceMethod yX0_has, .selects RX0 yX0_has yX0_has, .initialized RX0, .code yX0_has cX0_has 2 (some .boolean), .fieldLink RX0 18 "FarReach$Items" "size" "I", .fieldLink RX0 9 "FarReach$Items" "kinds" "[I"] ++ wsX00)
def wsX1_init : List Cond := .code yX1_init cX1_init 1 none :: ([.methodLink RX1 3 objectInit, .instanceMethod objectInit, .code objectInit ⟨#[0xb1]⟩ 1 none, .arrayClass .int, .fieldLink RX1 9 "FarReach$Page" "letters" "[I"] ++ wsX10)
def wsX1_length : List Cond := .code yX1_length cX1_length 1 (some .int) :: ([.fieldLink RX1 15 "FarReach$Page" "length" "I"] ++ wsX10)
def wsX1_append : List Cond := .code yX1_append cX1_append 2 (some .boolean) :: ([.fieldLink RX1 15 "FarReach$Page" "length" "I", .fieldLink RX1 9 "FarReach$Page" "letters" "[I"] ++ wsX10)
def wsX1_clear : List Cond := .code yX1_clear cX1_clear 1 none :: ([.fieldLink RX1 15 "FarReach$Page" "length" "I"] ++ wsX10)
def wsX1_letterAt : List Cond := .code yX1_letterAt cX1_letterAt 2 (some .int) :: ([.fieldLink RX1 15 "FarReach$Page" "length" "I", .fieldLink RX1 9 "FarReach$Page" "letters" "[I"] ++ wsX10)
def wsX4_init : List Cond := .code yX4_init cX4_init 3 none :: ([.methodLink RX4 3 objectInit, .instanceMethod objectInit, .code objectInit ⟨#[0xb1]⟩ 1 none, .arrayClass .int, .fieldLink RX4 9 "FarReach$Stock" "inGap" "[I", .fieldLink RX4 15 "FarReach$Stock" "starts" "[I", .methodLink RX4 18 Lib.Math.max.name, .static Lib.Math.max.name, .initialized "java/lang/Math", .code Lib.Math.max.name Lib.Math.max.code 2 (some .int), .fieldLink RX4 24 "FarReach$Stock" "names" "[I", .fieldLink RX4 27 "FarReach$Stock" "returns" "[I", .fieldLink RX4 30 "FarReach$Stock" "places" "[I"] ++ wsX40)
def wsX2_init_r1 : List Cond := [Cond.methodLink RX2 3 objectInit, Cond.instanceMethod objectInit, Cond.code objectInit ⟨#[0xb1]⟩ 1 none, Cond.classLink RX2 9 RX4, Cond.instantiable RX4 6, Cond.initialized RX4, Cond.fieldLink RX2 14 "FarReach$Placing" "islands" "LFarReach$Stock;", Cond.fieldLink RX2 20 "FarReach$Placing" "constants" "LFarReach$Stock;", Cond.arrayClass .boolean, Cond.fieldLink RX2 23 "FarReach$Placing" "longs" "[Z", Cond.arrayClass .int, Cond.fieldLink RX2 27 "FarReach$Placing" "addresses" "[I", Cond.fieldLink RX2 31 "FarReach$Placing" "sizes" "[I", Cond.fieldLink RX2 34 "FarReach$Placing" "labelAddresses" "[I", Cond.fieldLink RX2 37 "FarReach$Placing" "aims" "[I", Cond.fieldLink RX2 40 "FarReach$Placing" "islandAims" "[I", Cond.fieldLink RX2 43 "FarReach$Placing" "failedAt" "I", Cond.fieldLink RX2 47 "FarReach$Placing" "failedNumber" "I", Cond.fieldLink RX2 50 "FarReach$Placing" "program" "LFarReach$Items;", Cond.fieldLink RX2 54 "FarReach$Placing" "reaches" "[I", Cond.methodLink RX2 11 yX4_init, Cond.instanceMethod yX4_init, Cond.code yX4_init cX4_init 3 none, Cond.methodLink RX4 3 objectInit]
def wsX2_init_r2 : List Cond := [Cond.fieldLink RX4 9 "FarReach$Stock" "inGap" "[I", Cond.fieldLink RX4 15 "FarReach$Stock" "starts" "[I", Cond.methodLink RX4 18 Lib.Math.max.name, Cond.static Lib.Math.max.name, Cond.initialized "java/lang/Math", Cond.code Lib.Math.max.name Lib.Math.max.code 2 (some .int), Cond.fieldLink RX4 24 "FarReach$Stock" "names" "[I", Cond.fieldLink RX4 27 "FarReach$Stock" "returns" "[I", Cond.fieldLink RX4 30 "FarReach$Stock" "places" "[I"]
def wsX2_init : List Cond := .code yX2_init cX2_init 3 none :: ((wsX2_init_r1 ++ wsX2_init_r2) ++ wsX40 ++ wsX20)
def wsX4_clear : List Cond := .code yX4_clear cX4_clear 2 none :: ([.fieldLink RX4 33 "FarReach$Stock" "size" "I", .fieldLink RX4 9 "FarReach$Stock" "inGap" "[I", .fieldLink RX4 15 "FarReach$Stock" "starts" "[I"] ++ wsX40)
def wsX2_clear : List Cond := .code yX2_clear cX2_clear 2 none :: ([.fieldLink RX2 14 "FarReach$Placing" "islands" "LFarReach$Stock;", .fieldLink RX2 20 "FarReach$Placing" "constants" "LFarReach$Stock;", .fieldLink RX2 23 "FarReach$Placing" "longs" "[Z", .fieldLink RX2 83 "FarReach$Placing" "longBranches" "I", .fieldLink RX2 66 "FarReach$Placing" "rounds" "I", .fieldLink RX2 86 "FarReach$Placing" "bytes" "I", .fieldLink RX2 89 "FarReach$Placing" "filled" "I", .fieldLink RX2 43 "FarReach$Placing" "failedAt" "I", .fieldLink RX2 47 "FarReach$Placing" "failedNumber" "I", .methodLink RX2 82 yX4_clear, .instanceMethod yX4_clear, .selects RX4 yX4_clear yX4_clear, .initialized RX4, .code yX4_clear cX4_clear 2 none, .fieldLink RX4 33 "FarReach$Stock" "size" "I", .fieldLink RX4 9 "FarReach$Stock" "inGap" "[I", .fieldLink RX4 15 "FarReach$Stock" "starts" "[I"] ++ wsX20 ++ wsX40)
def wsX2_isLong : List Cond := .code yX2_isLong cX2_isLong 2 (some .boolean) :: ([.fieldLink RX2 23 "FarReach$Placing" "longs" "[Z"] ++ wsX20)
def wsX5_fillTo : List Cond := .code yX5_fillTo cX5_fillTo 2 (some .int) :: ([])
def wsX2_sizeAt_r1 : List Cond := [Cond.fieldLink RX2 50 "FarReach$Placing" "program" "LFarReach$Items;", Cond.methodLink RX2 92 yX0_kindOf, Cond.instanceMethod yX0_kindOf, Cond.selects RX0 yX0_kindOf yX0_kindOf, Cond.initialized RX0, Cond.code yX0_kindOf cX0_kindOf 2 (some .int), Cond.fieldLink RX0 9 "FarReach$Items" "kinds" "[I", Cond.methodLink RX0 42 yX0_has, Cond.instanceMethod yX0_has, Cond.selects RX0 yX0_has yX0_has, Cond.code yX0_has cX0_has 2 (some .boolean), Cond.fieldLink RX0 18 "FarReach$Items" "size" "I", Cond.fieldLink RX0 15 "FarReach$Items" "told" "[I", Cond.methodLink RX2 100 yX0_toldOf, Cond.instanceMethod yX0_toldOf, Cond.selects RX0 yX0_toldOf yX0_toldOf, Cond.code yX0_toldOf cX0_toldOf 2 (some .int), Cond.methodLink RX2 110 yX2_isLong, Cond.instanceMethod yX2_isLong, Cond.selects RX2 yX2_isLong yX2_isLong, Cond.initialized RX2, Cond.code yX2_isLong cX2_isLong 2 (some .boolean), Cond.fieldLink RX2 23 "FarReach$Placing" "longs" "[Z", Cond.static yX5_fillTo]
def wsX2_sizeAt_r2 : List Cond := [Cond.initialized RX5, Cond.code yX5_fillTo cX5_fillTo 2 (some .int)]
def wsX2_sizeAt : List Cond := .code yX2_sizeAt cX2_sizeAt 3 (some .int) :: ((wsX2_sizeAt_r1 ++ wsX2_sizeAt_r2) ++ wsX20 ++ wsX00)
def wsX2_noteLabel : List Cond := .code yX2_noteLabel cX2_noteLabel 3 none :: ([.fieldLink RX2 34 "FarReach$Placing" "labelAddresses" "[I"] ++ wsX20)
def wsX4_isItem : List Cond := .code yX4_isItem cX4_isItem 1 (some .boolean) :: ([])
def wsX4_lay : List Cond := .code yX4_lay cX4_lay 3 (some .int) :: ([.fieldLink RX4 15 "FarReach$Stock" "starts" "[I", .fieldLink RX4 9 "FarReach$Stock" "inGap" "[I", .methodLink RX4 37 yX4_isItem, .static yX4_isItem, .initialized RX4, .code yX4_isItem cX4_isItem 1 (some .boolean)] ++ wsX40)
def wsX4_isIn : List Cond := .code yX4_isIn cX4_isIn 2 (some .boolean) :: ([.fieldLink RX4 9 "FarReach$Stock" "inGap" "[I", .methodLink RX4 37 yX4_isItem, .static yX4_isItem, .initialized RX4, .code yX4_isItem cX4_isItem 1 (some .boolean)] ++ wsX40)
def wsX2_layGap : List Cond := .code yX2_layGap cX2_layGap 5 (some .int) :: ([.fieldLink RX2 14 "FarReach$Placing" "islands" "LFarReach$Stock;", .fieldLink RX2 20 "FarReach$Placing" "constants" "LFarReach$Stock;", .fieldLink RX2 89 "FarReach$Placing" "filled" "I", .methodLink RX2 117 yX4_lay, .instanceMethod yX4_lay, .selects RX4 yX4_lay yX4_lay, .initialized RX4, .code yX4_lay cX4_lay 3 (some .int), .fieldLink RX4 15 "FarReach$Stock" "starts" "[I", .fieldLink RX4 9 "FarReach$Stock" "inGap" "[I", .methodLink RX4 37 yX4_isItem, .static yX4_isItem, .code yX4_isItem cX4_isItem 1 (some .boolean), .methodLink RX2 119 yX4_isIn, .instanceMethod yX4_isIn, .selects RX4 yX4_isIn yX4_isIn, .code yX4_isIn cX4_isIn 2 (some .boolean), .static yX5_fillTo, .initialized RX5, .code yX5_fillTo cX5_fillTo 2 (some .int)] ++ wsX20 ++ wsX40)
def wsX2_lay_r1 : List Cond := [Cond.fieldLink RX2 89 "FarReach$Placing" "filled" "I", Cond.fieldLink RX2 50 "FarReach$Placing" "program" "LFarReach$Items;", Cond.fieldLink RX2 27 "FarReach$Placing" "addresses" "[I", Cond.fieldLink RX2 31 "FarReach$Placing" "sizes" "[I", Cond.fieldLink RX2 86 "FarReach$Placing" "bytes" "I", Cond.methodLink RX2 60 yX0_size, Cond.instanceMethod yX0_size, Cond.selects RX0 yX0_size yX0_size, Cond.initialized RX0, Cond.code yX0_size cX0_size 1 (some .int), Cond.fieldLink RX0 18 "FarReach$Items" "size" "I", Cond.methodLink RX2 92 yX0_kindOf, Cond.instanceMethod yX0_kindOf, Cond.selects RX0 yX0_kindOf yX0_kindOf, Cond.code yX0_kindOf cX0_kindOf 2 (some .int), Cond.fieldLink RX0 9 "FarReach$Items" "kinds" "[I", Cond.methodLink RX0 42 yX0_has, Cond.instanceMethod yX0_has, Cond.selects RX0 yX0_has yX0_has, Cond.code yX0_has cX0_has 2 (some .boolean), Cond.fieldLink RX0 15 "FarReach$Items" "told" "[I", Cond.methodLink RX2 96 yX2_sizeAt, Cond.instanceMethod yX2_sizeAt, Cond.selects RX2 yX2_sizeAt yX2_sizeAt]
def wsX2_lay_r2 : List Cond := [Cond.initialized RX2, Cond.code yX2_sizeAt cX2_sizeAt 3 (some .int), Cond.methodLink RX2 100 yX0_toldOf, Cond.instanceMethod yX0_toldOf, Cond.selects RX0 yX0_toldOf yX0_toldOf, Cond.code yX0_toldOf cX0_toldOf 2 (some .int), Cond.methodLink RX2 110 yX2_isLong, Cond.instanceMethod yX2_isLong, Cond.selects RX2 yX2_isLong yX2_isLong, Cond.code yX2_isLong cX2_isLong 2 (some .boolean), Cond.fieldLink RX2 23 "FarReach$Placing" "longs" "[Z", Cond.static yX5_fillTo, Cond.initialized RX5, Cond.code yX5_fillTo cX5_fillTo 2 (some .int), Cond.methodLink RX2 103 yX2_noteLabel, Cond.instanceMethod yX2_noteLabel, Cond.selects RX2 yX2_noteLabel yX2_noteLabel, Cond.code yX2_noteLabel cX2_noteLabel 3 none, Cond.fieldLink RX2 34 "FarReach$Placing" "labelAddresses" "[I", Cond.methodLink RX2 107 yX2_layGap, Cond.instanceMethod yX2_layGap, Cond.selects RX2 yX2_layGap yX2_layGap, Cond.code yX2_layGap cX2_layGap 5 (some .int), Cond.fieldLink RX2 14 "FarReach$Placing" "islands" "LFarReach$Stock;"]
def wsX2_lay_r3 : List Cond := [Cond.fieldLink RX2 20 "FarReach$Placing" "constants" "LFarReach$Stock;", Cond.methodLink RX2 117 yX4_lay, Cond.instanceMethod yX4_lay, Cond.selects RX4 yX4_lay yX4_lay, Cond.initialized RX4, Cond.code yX4_lay cX4_lay 3 (some .int), Cond.fieldLink RX4 15 "FarReach$Stock" "starts" "[I", Cond.fieldLink RX4 9 "FarReach$Stock" "inGap" "[I", Cond.methodLink RX4 37 yX4_isItem, Cond.static yX4_isItem, Cond.code yX4_isItem cX4_isItem 1 (some .boolean), Cond.methodLink RX2 119 yX4_isIn, Cond.instanceMethod yX4_isIn, Cond.selects RX4 yX4_isIn yX4_isIn, Cond.code yX4_isIn cX4_isIn 2 (some .boolean)]
def wsX2_lay : List Cond := .code yX2_lay cX2_lay 5 none :: ((wsX2_lay_r1 ++ (wsX2_lay_r2 ++ wsX2_lay_r3)) ++ wsX20 ++ wsX00 ++ wsX40)
def wsX2_addressOf : List Cond := .code yX2_addressOf cX2_addressOf 2 (some .int) :: ([.fieldLink RX2 27 "FarReach$Placing" "addresses" "[I"] ++ wsX20)
def wsX4_size : List Cond := .code yX4_size cX4_size 1 (some .int) :: ([.fieldLink RX4 33 "FarReach$Stock" "size" "I"] ++ wsX40)
def wsX4_has : List Cond := .code yX4_has cX4_has 2 (some .boolean) :: ([.fieldLink RX4 33 "FarReach$Stock" "size" "I", .fieldLink RX4 24 "FarReach$Stock" "names" "[I"] ++ wsX40)
def wsX4_addressOf : List Cond := .code yX4_addressOf cX4_addressOf 3 (some .int) :: ([.fieldLink RX4 27 "FarReach$Stock" "returns" "[I", .fieldLink RX4 15 "FarReach$Stock" "starts" "[I", .fieldLink RX4 30 "FarReach$Stock" "places" "[I", .methodLink RX4 41 yX4_has, .instanceMethod yX4_has, .selects RX4 yX4_has yX4_has, .initialized RX4, .code yX4_has cX4_has 2 (some .boolean), .fieldLink RX4 33 "FarReach$Stock" "size" "I", .fieldLink RX4 24 "FarReach$Stock" "names" "[I", .methodLink RX4 37 yX4_isItem, .static yX4_isItem, .code yX4_isItem cX4_isItem 1 (some .boolean)] ++ wsX40)
def wsX4_nameOf : List Cond := .code yX4_nameOf cX4_nameOf 2 (some .int) :: ([.fieldLink RX4 24 "FarReach$Stock" "names" "[I", .methodLink RX4 41 yX4_has, .instanceMethod yX4_has, .selects RX4 yX4_has yX4_has, .initialized RX4, .code yX4_has cX4_has 2 (some .boolean), .fieldLink RX4 33 "FarReach$Stock" "size" "I"] ++ wsX40)
def wsX2_isInLoadReach : List Cond := .code yX2_isInLoadReach cX2_isInLoadReach 3 (some .boolean) :: ([.fieldLink RX2 54 "FarReach$Placing" "reaches" "[I"] ++ wsX20)
def wsX2_constantFor_r1 : List Cond := [Cond.fieldLink RX2 20 "FarReach$Placing" "constants" "LFarReach$Stock;", Cond.methodLink RX2 135 yX4_size, Cond.instanceMethod yX4_size, Cond.selects RX4 yX4_size yX4_size, Cond.initialized RX4, Cond.code yX4_size cX4_size 1 (some .int), Cond.fieldLink RX4 33 "FarReach$Stock" "size" "I", Cond.methodLink RX2 128 yX4_addressOf, Cond.instanceMethod yX4_addressOf, Cond.selects RX4 yX4_addressOf yX4_addressOf, Cond.code yX4_addressOf cX4_addressOf 3 (some .int), Cond.fieldLink RX4 27 "FarReach$Stock" "returns" "[I", Cond.fieldLink RX4 15 "FarReach$Stock" "starts" "[I", Cond.fieldLink RX4 30 "FarReach$Stock" "places" "[I", Cond.methodLink RX4 41 yX4_has, Cond.instanceMethod yX4_has, Cond.selects RX4 yX4_has yX4_has, Cond.code yX4_has cX4_has 2 (some .boolean), Cond.fieldLink RX4 24 "FarReach$Stock" "names" "[I", Cond.methodLink RX4 37 yX4_isItem, Cond.static yX4_isItem, Cond.code yX4_isItem cX4_isItem 1 (some .boolean), Cond.methodLink RX2 136 yX4_nameOf, Cond.instanceMethod yX4_nameOf]
def wsX2_constantFor_r2 : List Cond := [Cond.selects RX4 yX4_nameOf yX4_nameOf, Cond.code yX4_nameOf cX4_nameOf 2 (some .int), Cond.methodLink RX2 152 yX2_isInLoadReach, Cond.instanceMethod yX2_isInLoadReach, Cond.selects RX2 yX2_isInLoadReach yX2_isInLoadReach, Cond.initialized RX2, Cond.code yX2_isInLoadReach cX2_isInLoadReach 3 (some .boolean), Cond.fieldLink RX2 54 "FarReach$Placing" "reaches" "[I"]
def wsX2_constantFor : List Cond := .code yX2_constantFor cX2_constantFor 6 (some .int) :: ((wsX2_constantFor_r1 ++ wsX2_constantFor_r2) ++ wsX20 ++ wsX40)
def wsX2_labelAddress : List Cond := .code yX2_labelAddress cX2_labelAddress 2 (some .int) :: ([.fieldLink RX2 34 "FarReach$Placing" "labelAddresses" "[I"] ++ wsX20)
def wsX5_far : List Cond := .code yX5_far cX5_far 2 (some .int) :: ([])
def wsX2_goesStraight : List Cond := .code yX2_goesStraight cX2_goesStraight 3 (some .boolean) :: ([.fieldLink RX2 54 "FarReach$Placing" "reaches" "[I", .methodLink RX2 139 yX2_labelAddress, .instanceMethod yX2_labelAddress, .selects RX2 yX2_labelAddress yX2_labelAddress, .initialized RX2, .code yX2_labelAddress cX2_labelAddress 2 (some .int), .fieldLink RX2 34 "FarReach$Placing" "labelAddresses" "[I", .static yX5_far, .initialized RX5, .code yX5_far cX5_far 2 (some .int)] ++ wsX20)
def wsX2_islandFor_r1 : List Cond := [Cond.fieldLink RX2 14 "FarReach$Placing" "islands" "LFarReach$Stock;", Cond.fieldLink RX2 54 "FarReach$Placing" "reaches" "[I", Cond.methodLink RX2 139 yX2_labelAddress, Cond.instanceMethod yX2_labelAddress, Cond.selects RX2 yX2_labelAddress yX2_labelAddress, Cond.initialized RX2, Cond.code yX2_labelAddress cX2_labelAddress 2 (some .int), Cond.fieldLink RX2 34 "FarReach$Placing" "labelAddresses" "[I", Cond.static yX5_far, Cond.initialized RX5, Cond.code yX5_far cX5_far 2 (some .int), Cond.methodLink RX2 135 yX4_size, Cond.instanceMethod yX4_size, Cond.selects RX4 yX4_size yX4_size, Cond.initialized RX4, Cond.code yX4_size cX4_size 1 (some .int), Cond.fieldLink RX4 33 "FarReach$Stock" "size" "I", Cond.methodLink RX2 128 yX4_addressOf, Cond.instanceMethod yX4_addressOf, Cond.selects RX4 yX4_addressOf yX4_addressOf, Cond.code yX4_addressOf cX4_addressOf 3 (some .int), Cond.fieldLink RX4 27 "FarReach$Stock" "returns" "[I", Cond.fieldLink RX4 15 "FarReach$Stock" "starts" "[I", Cond.fieldLink RX4 30 "FarReach$Stock" "places" "[I"]
def wsX2_islandFor_r2 : List Cond := [Cond.methodLink RX4 41 yX4_has, Cond.instanceMethod yX4_has, Cond.selects RX4 yX4_has yX4_has, Cond.code yX4_has cX4_has 2 (some .boolean), Cond.fieldLink RX4 24 "FarReach$Stock" "names" "[I", Cond.methodLink RX4 37 yX4_isItem, Cond.static yX4_isItem, Cond.code yX4_isItem cX4_isItem 1 (some .boolean), Cond.methodLink RX2 136 yX4_nameOf, Cond.instanceMethod yX4_nameOf, Cond.selects RX4 yX4_nameOf yX4_nameOf, Cond.code yX4_nameOf cX4_nameOf 2 (some .int)]
def wsX2_islandFor : List Cond := .code yX2_islandFor cX2_islandFor 11 (some .int) :: ((wsX2_islandFor_r1 ++ wsX2_islandFor_r2) ++ wsX20 ++ wsX40)
def wsX2_longAim_r1 : List Cond := [Cond.fieldLink RX2 14 "FarReach$Placing" "islands" "LFarReach$Stock;", Cond.methodLink RX2 145 yX2_goesStraight, Cond.instanceMethod yX2_goesStraight, Cond.selects RX2 yX2_goesStraight yX2_goesStraight, Cond.initialized RX2, Cond.code yX2_goesStraight cX2_goesStraight 3 (some .boolean), Cond.fieldLink RX2 54 "FarReach$Placing" "reaches" "[I", Cond.methodLink RX2 139 yX2_labelAddress, Cond.instanceMethod yX2_labelAddress, Cond.selects RX2 yX2_labelAddress yX2_labelAddress, Cond.code yX2_labelAddress cX2_labelAddress 2 (some .int), Cond.fieldLink RX2 34 "FarReach$Placing" "labelAddresses" "[I", Cond.static yX5_far, Cond.initialized RX5, Cond.code yX5_far cX5_far 2 (some .int), Cond.methodLink RX2 149 yX2_islandFor, Cond.instanceMethod yX2_islandFor, Cond.selects RX2 yX2_islandFor yX2_islandFor, Cond.code yX2_islandFor cX2_islandFor 11 (some .int), Cond.methodLink RX2 135 yX4_size, Cond.instanceMethod yX4_size, Cond.selects RX4 yX4_size yX4_size, Cond.initialized RX4, Cond.code yX4_size cX4_size 1 (some .int)]
def wsX2_longAim_r2 : List Cond := [Cond.fieldLink RX4 33 "FarReach$Stock" "size" "I", Cond.methodLink RX2 128 yX4_addressOf, Cond.instanceMethod yX4_addressOf, Cond.selects RX4 yX4_addressOf yX4_addressOf, Cond.code yX4_addressOf cX4_addressOf 3 (some .int), Cond.fieldLink RX4 27 "FarReach$Stock" "returns" "[I", Cond.fieldLink RX4 15 "FarReach$Stock" "starts" "[I", Cond.fieldLink RX4 30 "FarReach$Stock" "places" "[I", Cond.methodLink RX4 41 yX4_has, Cond.instanceMethod yX4_has, Cond.selects RX4 yX4_has yX4_has, Cond.code yX4_has cX4_has 2 (some .boolean), Cond.fieldLink RX4 24 "FarReach$Stock" "names" "[I", Cond.methodLink RX4 37 yX4_isItem, Cond.static yX4_isItem, Cond.code yX4_isItem cX4_isItem 1 (some .boolean), Cond.methodLink RX2 136 yX4_nameOf, Cond.instanceMethod yX4_nameOf, Cond.selects RX4 yX4_nameOf yX4_nameOf, Cond.code yX4_nameOf cX4_nameOf 2 (some .int)]
def wsX2_longAim : List Cond := .code yX2_longAim cX2_longAim 3 (some .int) :: ((wsX2_longAim_r1 ++ wsX2_longAim_r2) ++ wsX20 ++ wsX40)
def wsX2_shortAim : List Cond := .code yX2_shortAim cX2_shortAim 4 (some .int) :: ([.fieldLink RX2 54 "FarReach$Placing" "reaches" "[I", .methodLink RX2 139 yX2_labelAddress, .instanceMethod yX2_labelAddress, .selects RX2 yX2_labelAddress yX2_labelAddress, .initialized RX2, .code yX2_labelAddress cX2_labelAddress 2 (some .int), .fieldLink RX2 34 "FarReach$Placing" "labelAddresses" "[I", .static yX5_far, .initialized RX5, .code yX5_far cX5_far 2 (some .int)] ++ wsX20)
def wsX2_aimItems_r1 : List Cond := [Cond.fieldLink RX2 50 "FarReach$Placing" "program" "LFarReach$Items;", Cond.fieldLink RX2 37 "FarReach$Placing" "aims" "[I", Cond.fieldLink RX2 20 "FarReach$Placing" "constants" "LFarReach$Stock;", Cond.methodLink RX2 60 yX0_size, Cond.instanceMethod yX0_size, Cond.selects RX0 yX0_size yX0_size, Cond.initialized RX0, Cond.code yX0_size cX0_size 1 (some .int), Cond.fieldLink RX0 18 "FarReach$Items" "size" "I", Cond.methodLink RX2 100 yX0_toldOf, Cond.instanceMethod yX0_toldOf, Cond.selects RX0 yX0_toldOf yX0_toldOf, Cond.code yX0_toldOf cX0_toldOf 2 (some .int), Cond.fieldLink RX0 15 "FarReach$Items" "told" "[I", Cond.methodLink RX0 42 yX0_has, Cond.instanceMethod yX0_has, Cond.selects RX0 yX0_has yX0_has, Cond.code yX0_has cX0_has 2 (some .boolean), Cond.fieldLink RX0 9 "FarReach$Items" "kinds" "[I", Cond.methodLink RX2 92 yX0_kindOf, Cond.instanceMethod yX0_kindOf, Cond.selects RX0 yX0_kindOf yX0_kindOf, Cond.code yX0_kindOf cX0_kindOf 2 (some .int), Cond.methodLink RX2 122 yX2_addressOf]
def wsX2_aimItems_r2 : List Cond := [Cond.instanceMethod yX2_addressOf, Cond.selects RX2 yX2_addressOf yX2_addressOf, Cond.initialized RX2, Cond.code yX2_addressOf cX2_addressOf 2 (some .int), Cond.fieldLink RX2 27 "FarReach$Placing" "addresses" "[I", Cond.methodLink RX2 125 yX2_constantFor, Cond.instanceMethod yX2_constantFor, Cond.selects RX2 yX2_constantFor yX2_constantFor, Cond.code yX2_constantFor cX2_constantFor 6 (some .int), Cond.methodLink RX2 135 yX4_size, Cond.instanceMethod yX4_size, Cond.selects RX4 yX4_size yX4_size, Cond.initialized RX4, Cond.code yX4_size cX4_size 1 (some .int), Cond.fieldLink RX4 33 "FarReach$Stock" "size" "I", Cond.methodLink RX2 128 yX4_addressOf, Cond.instanceMethod yX4_addressOf, Cond.selects RX4 yX4_addressOf yX4_addressOf, Cond.code yX4_addressOf cX4_addressOf 3 (some .int), Cond.fieldLink RX4 27 "FarReach$Stock" "returns" "[I", Cond.fieldLink RX4 15 "FarReach$Stock" "starts" "[I", Cond.fieldLink RX4 30 "FarReach$Stock" "places" "[I", Cond.methodLink RX4 41 yX4_has, Cond.instanceMethod yX4_has]
def wsX2_aimItems_r3 : List Cond := [Cond.selects RX4 yX4_has yX4_has, Cond.code yX4_has cX4_has 2 (some .boolean), Cond.fieldLink RX4 24 "FarReach$Stock" "names" "[I", Cond.methodLink RX4 37 yX4_isItem, Cond.static yX4_isItem, Cond.code yX4_isItem cX4_isItem 1 (some .boolean), Cond.methodLink RX2 136 yX4_nameOf, Cond.instanceMethod yX4_nameOf, Cond.selects RX4 yX4_nameOf yX4_nameOf, Cond.code yX4_nameOf cX4_nameOf 2 (some .int), Cond.methodLink RX2 152 yX2_isInLoadReach, Cond.instanceMethod yX2_isInLoadReach, Cond.selects RX2 yX2_isInLoadReach yX2_isInLoadReach, Cond.code yX2_isInLoadReach cX2_isInLoadReach 3 (some .boolean), Cond.fieldLink RX2 54 "FarReach$Placing" "reaches" "[I", Cond.methodLink RX2 110 yX2_isLong, Cond.instanceMethod yX2_isLong, Cond.selects RX2 yX2_isLong yX2_isLong, Cond.code yX2_isLong cX2_isLong 2 (some .boolean), Cond.fieldLink RX2 23 "FarReach$Placing" "longs" "[Z", Cond.methodLink RX2 129 yX2_longAim, Cond.instanceMethod yX2_longAim, Cond.selects RX2 yX2_longAim yX2_longAim, Cond.code yX2_longAim cX2_longAim 3 (some .int)]
def wsX2_aimItems_r4 : List Cond := [Cond.fieldLink RX2 14 "FarReach$Placing" "islands" "LFarReach$Stock;", Cond.methodLink RX2 145 yX2_goesStraight, Cond.instanceMethod yX2_goesStraight, Cond.selects RX2 yX2_goesStraight yX2_goesStraight, Cond.code yX2_goesStraight cX2_goesStraight 3 (some .boolean), Cond.methodLink RX2 139 yX2_labelAddress, Cond.instanceMethod yX2_labelAddress, Cond.selects RX2 yX2_labelAddress yX2_labelAddress, Cond.code yX2_labelAddress cX2_labelAddress 2 (some .int), Cond.fieldLink RX2 34 "FarReach$Placing" "labelAddresses" "[I", Cond.static yX5_far, Cond.initialized RX5, Cond.code yX5_far cX5_far 2 (some .int), Cond.methodLink RX2 149 yX2_islandFor, Cond.instanceMethod yX2_islandFor, Cond.selects RX2 yX2_islandFor yX2_islandFor, Cond.code yX2_islandFor cX2_islandFor 11 (some .int), Cond.methodLink RX2 132 yX2_shortAim, Cond.instanceMethod yX2_shortAim, Cond.selects RX2 yX2_shortAim yX2_shortAim, Cond.code yX2_shortAim cX2_shortAim 4 (some .int)]
def wsX2_aimItems : List Cond := .code yX2_aimItems cX2_aimItems 3 none :: ((wsX2_aimItems_r1 ++ (wsX2_aimItems_r2 ++ (wsX2_aimItems_r3 ++ wsX2_aimItems_r4))) ++ wsX20 ++ wsX00 ++ wsX40)
def wsX2_aimIslands_r1 : List Cond := [Cond.fieldLink RX2 14 "FarReach$Placing" "islands" "LFarReach$Stock;", Cond.fieldLink RX2 40 "FarReach$Placing" "islandAims" "[I", Cond.methodLink RX2 135 yX4_size, Cond.instanceMethod yX4_size, Cond.selects RX4 yX4_size yX4_size, Cond.initialized RX4, Cond.code yX4_size cX4_size 1 (some .int), Cond.fieldLink RX4 33 "FarReach$Stock" "size" "I", Cond.methodLink RX2 128 yX4_addressOf, Cond.instanceMethod yX4_addressOf, Cond.selects RX4 yX4_addressOf yX4_addressOf, Cond.code yX4_addressOf cX4_addressOf 3 (some .int), Cond.fieldLink RX4 27 "FarReach$Stock" "returns" "[I", Cond.fieldLink RX4 15 "FarReach$Stock" "starts" "[I", Cond.fieldLink RX4 30 "FarReach$Stock" "places" "[I", Cond.methodLink RX4 41 yX4_has, Cond.instanceMethod yX4_has, Cond.selects RX4 yX4_has yX4_has, Cond.code yX4_has cX4_has 2 (some .boolean), Cond.fieldLink RX4 24 "FarReach$Stock" "names" "[I", Cond.methodLink RX4 37 yX4_isItem, Cond.static yX4_isItem, Cond.code yX4_isItem cX4_isItem 1 (some .boolean), Cond.methodLink RX2 136 yX4_nameOf]
def wsX2_aimIslands_r2 : List Cond := [Cond.instanceMethod yX4_nameOf, Cond.selects RX4 yX4_nameOf yX4_nameOf, Cond.code yX4_nameOf cX4_nameOf 2 (some .int), Cond.methodLink RX2 129 yX2_longAim, Cond.instanceMethod yX2_longAim, Cond.selects RX2 yX2_longAim yX2_longAim, Cond.initialized RX2, Cond.code yX2_longAim cX2_longAim 3 (some .int), Cond.methodLink RX2 145 yX2_goesStraight, Cond.instanceMethod yX2_goesStraight, Cond.selects RX2 yX2_goesStraight yX2_goesStraight, Cond.code yX2_goesStraight cX2_goesStraight 3 (some .boolean), Cond.fieldLink RX2 54 "FarReach$Placing" "reaches" "[I", Cond.methodLink RX2 139 yX2_labelAddress, Cond.instanceMethod yX2_labelAddress, Cond.selects RX2 yX2_labelAddress yX2_labelAddress, Cond.code yX2_labelAddress cX2_labelAddress 2 (some .int), Cond.fieldLink RX2 34 "FarReach$Placing" "labelAddresses" "[I", Cond.static yX5_far, Cond.initialized RX5, Cond.code yX5_far cX5_far 2 (some .int), Cond.methodLink RX2 149 yX2_islandFor, Cond.instanceMethod yX2_islandFor, Cond.selects RX2 yX2_islandFor yX2_islandFor]
def wsX2_aimIslands_r3 : List Cond := [Cond.code yX2_islandFor cX2_islandFor 11 (some .int)]
def wsX2_aimIslands : List Cond := .code yX2_aimIslands cX2_aimIslands 2 none :: ((wsX2_aimIslands_r1 ++ (wsX2_aimIslands_r2 ++ wsX2_aimIslands_r3)) ++ wsX20 ++ wsX40)
def wsX2_aimOf : List Cond := .code yX2_aimOf cX2_aimOf 2 (some .int) :: ([.fieldLink RX2 37 "FarReach$Placing" "aims" "[I"] ++ wsX20)
def wsX2_firstAstray_r1 : List Cond := [Cond.fieldLink RX2 50 "FarReach$Placing" "program" "LFarReach$Items;", Cond.methodLink RX2 60 yX0_size, Cond.instanceMethod yX0_size, Cond.selects RX0 yX0_size yX0_size, Cond.initialized RX0, Cond.code yX0_size cX0_size 1 (some .int), Cond.fieldLink RX0 18 "FarReach$Items" "size" "I", Cond.methodLink RX2 92 yX0_kindOf, Cond.instanceMethod yX0_kindOf, Cond.selects RX0 yX0_kindOf yX0_kindOf, Cond.code yX0_kindOf cX0_kindOf 2 (some .int), Cond.fieldLink RX0 9 "FarReach$Items" "kinds" "[I", Cond.methodLink RX0 42 yX0_has, Cond.instanceMethod yX0_has, Cond.selects RX0 yX0_has yX0_has, Cond.code yX0_has cX0_has 2 (some .boolean), Cond.fieldLink RX0 15 "FarReach$Items" "told" "[I", Cond.methodLink RX2 110 yX2_isLong, Cond.instanceMethod yX2_isLong, Cond.selects RX2 yX2_isLong yX2_isLong, Cond.initialized RX2, Cond.code yX2_isLong cX2_isLong 2 (some .boolean), Cond.fieldLink RX2 23 "FarReach$Placing" "longs" "[Z", Cond.methodLink RX2 155 yX2_aimOf]
def wsX2_firstAstray_r2 : List Cond := [Cond.instanceMethod yX2_aimOf, Cond.selects RX2 yX2_aimOf yX2_aimOf, Cond.code yX2_aimOf cX2_aimOf 2 (some .int), Cond.fieldLink RX2 37 "FarReach$Placing" "aims" "[I"]
def wsX2_firstAstray : List Cond := .code yX2_firstAstray cX2_firstAstray 4 (some .int) :: ((wsX2_firstAstray_r1 ++ wsX2_firstAstray_r2) ++ wsX20 ++ wsX00)
def wsX2_lengthens : List Cond := .code yX2_lengthens cX2_lengthens 2 (some .boolean) :: ([.fieldLink RX2 23 "FarReach$Placing" "longs" "[Z", .fieldLink RX2 83 "FarReach$Placing" "longBranches" "I"] ++ wsX20)
def wsX4_endOf : List Cond := .code yX4_endOf cX4_endOf 2 (some .int) :: ([.fieldLink RX4 15 "FarReach$Stock" "starts" "[I", .fieldLink RX4 9 "FarReach$Stock" "inGap" "[I", .methodLink RX4 37 yX4_isItem, .static yX4_isItem, .initialized RX4, .code yX4_isItem cX4_isItem 1 (some .boolean)] ++ wsX40)
def wsX2_nextConstantIn : List Cond := .code yX2_nextConstantIn cX2_nextConstantIn 3 (some .int) :: ([.fieldLink RX2 20 "FarReach$Placing" "constants" "LFarReach$Stock;", .methodLink RX2 186 yX4_endOf, .instanceMethod yX4_endOf, .selects RX4 yX4_endOf yX4_endOf, .initialized RX4, .code yX4_endOf cX4_endOf 2 (some .int), .fieldLink RX4 15 "FarReach$Stock" "starts" "[I", .fieldLink RX4 9 "FarReach$Stock" "inGap" "[I", .methodLink RX4 37 yX4_isItem, .static yX4_isItem, .code yX4_isItem cX4_isItem 1 (some .boolean), .static yX5_fillTo, .initialized RX5, .code yX5_fillTo cX5_fillTo 2 (some .int)] ++ wsX20 ++ wsX40)
def wsX4_add : List Cond := .code yX4_add cX4_add 3 (some .boolean) :: ([.fieldLink RX4 33 "FarReach$Stock" "size" "I", .fieldLink RX4 24 "FarReach$Stock" "names" "[I", .fieldLink RX4 27 "FarReach$Stock" "returns" "[I", .fieldLink RX4 30 "FarReach$Stock" "places" "[I", .fieldLink RX4 9 "FarReach$Stock" "inGap" "[I", .methodLink RX4 37 yX4_isItem, .static yX4_isItem, .initialized RX4, .code yX4_isItem cX4_isItem 1 (some .boolean)] ++ wsX40)
def wsX2_bringsConstant_r1 : List Cond := [Cond.fieldLink RX2 50 "FarReach$Placing" "program" "LFarReach$Items;", Cond.fieldLink RX2 20 "FarReach$Placing" "constants" "LFarReach$Stock;", Cond.methodLink RX2 122 yX2_addressOf, Cond.instanceMethod yX2_addressOf, Cond.selects RX2 yX2_addressOf yX2_addressOf, Cond.initialized RX2, Cond.code yX2_addressOf cX2_addressOf 2 (some .int), Cond.fieldLink RX2 27 "FarReach$Placing" "addresses" "[I", Cond.methodLink RX2 60 yX0_size, Cond.instanceMethod yX0_size, Cond.selects RX0 yX0_size yX0_size, Cond.initialized RX0, Cond.code yX0_size cX0_size 1 (some .int), Cond.fieldLink RX0 18 "FarReach$Items" "size" "I", Cond.methodLink RX2 92 yX0_kindOf, Cond.instanceMethod yX0_kindOf, Cond.selects RX0 yX0_kindOf yX0_kindOf, Cond.code yX0_kindOf cX0_kindOf 2 (some .int), Cond.fieldLink RX0 9 "FarReach$Items" "kinds" "[I", Cond.methodLink RX0 42 yX0_has, Cond.instanceMethod yX0_has, Cond.selects RX0 yX0_has yX0_has, Cond.code yX0_has cX0_has 2 (some .boolean), Cond.fieldLink RX0 15 "FarReach$Items" "told" "[I"]
def wsX2_bringsConstant_r2 : List Cond := [Cond.methodLink RX2 180 yX2_nextConstantIn, Cond.instanceMethod yX2_nextConstantIn, Cond.selects RX2 yX2_nextConstantIn yX2_nextConstantIn, Cond.code yX2_nextConstantIn cX2_nextConstantIn 3 (some .int), Cond.methodLink RX2 186 yX4_endOf, Cond.instanceMethod yX4_endOf, Cond.selects RX4 yX4_endOf yX4_endOf, Cond.initialized RX4, Cond.code yX4_endOf cX4_endOf 2 (some .int), Cond.fieldLink RX4 15 "FarReach$Stock" "starts" "[I", Cond.fieldLink RX4 9 "FarReach$Stock" "inGap" "[I", Cond.methodLink RX4 37 yX4_isItem, Cond.static yX4_isItem, Cond.code yX4_isItem cX4_isItem 1 (some .boolean), Cond.static yX5_fillTo, Cond.initialized RX5, Cond.code yX5_fillTo cX5_fillTo 2 (some .int), Cond.methodLink RX2 152 yX2_isInLoadReach, Cond.instanceMethod yX2_isInLoadReach, Cond.selects RX2 yX2_isInLoadReach yX2_isInLoadReach, Cond.code yX2_isInLoadReach cX2_isInLoadReach 3 (some .boolean), Cond.fieldLink RX2 54 "FarReach$Placing" "reaches" "[I", Cond.methodLink RX2 100 yX0_toldOf, Cond.instanceMethod yX0_toldOf]
def wsX2_bringsConstant_r3 : List Cond := [Cond.selects RX0 yX0_toldOf yX0_toldOf, Cond.code yX0_toldOf cX0_toldOf 2 (some .int), Cond.methodLink RX2 183 yX4_add, Cond.instanceMethod yX4_add, Cond.selects RX4 yX4_add yX4_add, Cond.code yX4_add cX4_add 3 (some .boolean), Cond.fieldLink RX4 33 "FarReach$Stock" "size" "I", Cond.fieldLink RX4 24 "FarReach$Stock" "names" "[I", Cond.fieldLink RX4 27 "FarReach$Stock" "returns" "[I", Cond.fieldLink RX4 30 "FarReach$Stock" "places" "[I"]
def wsX2_bringsConstant : List Cond := .code yX2_bringsConstant cX2_bringsConstant 5 (some .boolean) :: ((wsX2_bringsConstant_r1 ++ (wsX2_bringsConstant_r2 ++ wsX2_bringsConstant_r3)) ++ wsX20 ++ wsX00 ++ wsX40)
def wsX2_fails : List Cond := .code yX2_fails cX2_fails 3 (some .boolean) :: ([.fieldLink RX2 43 "FarReach$Placing" "failedAt" "I", .fieldLink RX2 47 "FarReach$Placing" "failedNumber" "I"] ++ wsX20)
def wsX2_bringsIsland_r1 : List Cond := [Cond.fieldLink RX2 50 "FarReach$Placing" "program" "LFarReach$Items;", Cond.fieldLink RX2 14 "FarReach$Placing" "islands" "LFarReach$Stock;", Cond.fieldLink RX2 54 "FarReach$Placing" "reaches" "[I", Cond.methodLink RX2 139 yX2_labelAddress, Cond.instanceMethod yX2_labelAddress, Cond.selects RX2 yX2_labelAddress yX2_labelAddress, Cond.initialized RX2, Cond.code yX2_labelAddress cX2_labelAddress 2 (some .int), Cond.fieldLink RX2 34 "FarReach$Placing" "labelAddresses" "[I", Cond.static yX5_far, Cond.initialized RX5, Cond.code yX5_far cX5_far 2 (some .int), Cond.methodLink RX2 60 yX0_size, Cond.instanceMethod yX0_size, Cond.selects RX0 yX0_size yX0_size, Cond.initialized RX0, Cond.code yX0_size cX0_size 1 (some .int), Cond.fieldLink RX0 18 "FarReach$Items" "size" "I", Cond.methodLink RX2 186 yX4_endOf, Cond.instanceMethod yX4_endOf, Cond.selects RX4 yX4_endOf yX4_endOf, Cond.initialized RX4, Cond.code yX4_endOf cX4_endOf 2 (some .int), Cond.fieldLink RX4 15 "FarReach$Stock" "starts" "[I"]
def wsX2_bringsIsland_r2 : List Cond := [Cond.fieldLink RX4 9 "FarReach$Stock" "inGap" "[I", Cond.methodLink RX4 37 yX4_isItem, Cond.static yX4_isItem, Cond.code yX4_isItem cX4_isItem 1 (some .boolean), Cond.methodLink RX2 92 yX0_kindOf, Cond.instanceMethod yX0_kindOf, Cond.selects RX0 yX0_kindOf yX0_kindOf, Cond.code yX0_kindOf cX0_kindOf 2 (some .int), Cond.fieldLink RX0 9 "FarReach$Items" "kinds" "[I", Cond.methodLink RX0 42 yX0_has, Cond.instanceMethod yX0_has, Cond.selects RX0 yX0_has yX0_has, Cond.code yX0_has cX0_has 2 (some .boolean), Cond.fieldLink RX0 15 "FarReach$Items" "told" "[I", Cond.methodLink RX2 183 yX4_add, Cond.instanceMethod yX4_add, Cond.selects RX4 yX4_add yX4_add, Cond.code yX4_add cX4_add 3 (some .boolean), Cond.fieldLink RX4 33 "FarReach$Stock" "size" "I", Cond.fieldLink RX4 24 "FarReach$Stock" "names" "[I", Cond.fieldLink RX4 27 "FarReach$Stock" "returns" "[I", Cond.fieldLink RX4 30 "FarReach$Stock" "places" "[I"]
def wsX2_bringsIsland : List Cond := .code yX2_bringsIsland cX2_bringsIsland 9 (some .boolean) :: ((wsX2_bringsIsland_r1 ++ wsX2_bringsIsland_r2) ++ wsX20 ++ wsX00 ++ wsX40)
def wsX2_islandAimOf : List Cond := .code yX2_islandAimOf cX2_islandAimOf 2 (some .int) :: ([.fieldLink RX2 40 "FarReach$Placing" "islandAims" "[I"] ++ wsX20)
def wsX2_firstIslandAstray : List Cond := .code yX2_firstIslandAstray cX2_firstIslandAstray 2 (some .int) :: ([.fieldLink RX2 14 "FarReach$Placing" "islands" "LFarReach$Stock;", .methodLink RX2 135 yX4_size, .instanceMethod yX4_size, .selects RX4 yX4_size yX4_size, .initialized RX4, .code yX4_size cX4_size 1 (some .int), .fieldLink RX4 33 "FarReach$Stock" "size" "I", .methodLink RX2 177 yX2_islandAimOf, .instanceMethod yX2_islandAimOf, .selects RX2 yX2_islandAimOf yX2_islandAimOf, .initialized RX2, .code yX2_islandAimOf cX2_islandAimOf 2 (some .int), .fieldLink RX2 40 "FarReach$Placing" "islandAims" "[I"] ++ wsX20 ++ wsX40)
def wsX2_mendsOne_r1 : List Cond := [Cond.fieldLink RX2 50 "FarReach$Placing" "program" "LFarReach$Items;", Cond.fieldLink RX2 14 "FarReach$Placing" "islands" "LFarReach$Stock;", Cond.methodLink RX2 158 yX2_firstAstray, Cond.instanceMethod yX2_firstAstray, Cond.selects RX2 yX2_firstAstray yX2_firstAstray, Cond.initialized RX2, Cond.code yX2_firstAstray cX2_firstAstray 4 (some .int), Cond.methodLink RX2 60 yX0_size, Cond.instanceMethod yX0_size, Cond.selects RX0 yX0_size yX0_size, Cond.initialized RX0, Cond.code yX0_size cX0_size 1 (some .int), Cond.fieldLink RX0 18 "FarReach$Items" "size" "I", Cond.methodLink RX2 92 yX0_kindOf, Cond.instanceMethod yX0_kindOf, Cond.selects RX0 yX0_kindOf yX0_kindOf, Cond.code yX0_kindOf cX0_kindOf 2 (some .int), Cond.fieldLink RX0 9 "FarReach$Items" "kinds" "[I", Cond.methodLink RX0 42 yX0_has, Cond.instanceMethod yX0_has, Cond.selects RX0 yX0_has yX0_has, Cond.code yX0_has cX0_has 2 (some .boolean), Cond.fieldLink RX0 15 "FarReach$Items" "told" "[I", Cond.methodLink RX2 110 yX2_isLong]
def wsX2_mendsOne_r2 : List Cond := [Cond.instanceMethod yX2_isLong, Cond.selects RX2 yX2_isLong yX2_isLong, Cond.code yX2_isLong cX2_isLong 2 (some .boolean), Cond.fieldLink RX2 23 "FarReach$Placing" "longs" "[Z", Cond.methodLink RX2 155 yX2_aimOf, Cond.instanceMethod yX2_aimOf, Cond.selects RX2 yX2_aimOf yX2_aimOf, Cond.code yX2_aimOf cX2_aimOf 2 (some .int), Cond.fieldLink RX2 37 "FarReach$Placing" "aims" "[I", Cond.methodLink RX2 162 yX2_lengthens, Cond.instanceMethod yX2_lengthens, Cond.selects RX2 yX2_lengthens yX2_lengthens, Cond.code yX2_lengthens cX2_lengthens 2 (some .boolean), Cond.fieldLink RX2 83 "FarReach$Placing" "longBranches" "I", Cond.methodLink RX2 165 yX2_bringsConstant, Cond.instanceMethod yX2_bringsConstant, Cond.selects RX2 yX2_bringsConstant yX2_bringsConstant, Cond.code yX2_bringsConstant cX2_bringsConstant 5 (some .boolean), Cond.fieldLink RX2 20 "FarReach$Placing" "constants" "LFarReach$Stock;", Cond.methodLink RX2 122 yX2_addressOf, Cond.instanceMethod yX2_addressOf, Cond.selects RX2 yX2_addressOf yX2_addressOf, Cond.code yX2_addressOf cX2_addressOf 2 (some .int), Cond.fieldLink RX2 27 "FarReach$Placing" "addresses" "[I"]
def wsX2_mendsOne_r3 : List Cond := [Cond.methodLink RX2 180 yX2_nextConstantIn, Cond.instanceMethod yX2_nextConstantIn, Cond.selects RX2 yX2_nextConstantIn yX2_nextConstantIn, Cond.code yX2_nextConstantIn cX2_nextConstantIn 3 (some .int), Cond.methodLink RX2 186 yX4_endOf, Cond.instanceMethod yX4_endOf, Cond.selects RX4 yX4_endOf yX4_endOf, Cond.initialized RX4, Cond.code yX4_endOf cX4_endOf 2 (some .int), Cond.fieldLink RX4 15 "FarReach$Stock" "starts" "[I", Cond.fieldLink RX4 9 "FarReach$Stock" "inGap" "[I", Cond.methodLink RX4 37 yX4_isItem, Cond.static yX4_isItem, Cond.code yX4_isItem cX4_isItem 1 (some .boolean), Cond.static yX5_fillTo, Cond.initialized RX5, Cond.code yX5_fillTo cX5_fillTo 2 (some .int), Cond.methodLink RX2 152 yX2_isInLoadReach, Cond.instanceMethod yX2_isInLoadReach, Cond.selects RX2 yX2_isInLoadReach yX2_isInLoadReach, Cond.code yX2_isInLoadReach cX2_isInLoadReach 3 (some .boolean), Cond.fieldLink RX2 54 "FarReach$Placing" "reaches" "[I", Cond.methodLink RX2 100 yX0_toldOf, Cond.instanceMethod yX0_toldOf]
def wsX2_mendsOne_r4 : List Cond := [Cond.selects RX0 yX0_toldOf yX0_toldOf, Cond.code yX0_toldOf cX0_toldOf 2 (some .int), Cond.methodLink RX2 183 yX4_add, Cond.instanceMethod yX4_add, Cond.selects RX4 yX4_add yX4_add, Cond.code yX4_add cX4_add 3 (some .boolean), Cond.fieldLink RX4 33 "FarReach$Stock" "size" "I", Cond.fieldLink RX4 24 "FarReach$Stock" "names" "[I", Cond.fieldLink RX4 27 "FarReach$Stock" "returns" "[I", Cond.fieldLink RX4 30 "FarReach$Stock" "places" "[I", Cond.methodLink RX2 168 yX2_fails, Cond.instanceMethod yX2_fails, Cond.selects RX2 yX2_fails yX2_fails, Cond.code yX2_fails cX2_fails 3 (some .boolean), Cond.fieldLink RX2 43 "FarReach$Placing" "failedAt" "I", Cond.fieldLink RX2 47 "FarReach$Placing" "failedNumber" "I", Cond.methodLink RX2 171 yX2_bringsIsland, Cond.instanceMethod yX2_bringsIsland, Cond.selects RX2 yX2_bringsIsland yX2_bringsIsland, Cond.code yX2_bringsIsland cX2_bringsIsland 9 (some .boolean), Cond.methodLink RX2 139 yX2_labelAddress, Cond.instanceMethod yX2_labelAddress, Cond.selects RX2 yX2_labelAddress yX2_labelAddress, Cond.code yX2_labelAddress cX2_labelAddress 2 (some .int)]
def wsX2_mendsOne_r5 : List Cond := [Cond.fieldLink RX2 34 "FarReach$Placing" "labelAddresses" "[I", Cond.static yX5_far, Cond.code yX5_far cX5_far 2 (some .int), Cond.methodLink RX2 174 yX2_firstIslandAstray, Cond.instanceMethod yX2_firstIslandAstray, Cond.selects RX2 yX2_firstIslandAstray yX2_firstIslandAstray, Cond.code yX2_firstIslandAstray cX2_firstIslandAstray 2 (some .int), Cond.methodLink RX2 135 yX4_size, Cond.instanceMethod yX4_size, Cond.selects RX4 yX4_size yX4_size, Cond.code yX4_size cX4_size 1 (some .int), Cond.methodLink RX2 177 yX2_islandAimOf, Cond.instanceMethod yX2_islandAimOf, Cond.selects RX2 yX2_islandAimOf yX2_islandAimOf, Cond.code yX2_islandAimOf cX2_islandAimOf 2 (some .int), Cond.fieldLink RX2 40 "FarReach$Placing" "islandAims" "[I", Cond.methodLink RX2 128 yX4_addressOf, Cond.instanceMethod yX4_addressOf, Cond.selects RX4 yX4_addressOf yX4_addressOf, Cond.code yX4_addressOf cX4_addressOf 3 (some .int), Cond.methodLink RX4 41 yX4_has, Cond.instanceMethod yX4_has, Cond.selects RX4 yX4_has yX4_has, Cond.code yX4_has cX4_has 2 (some .boolean)]
def wsX2_mendsOne_r6 : List Cond := [Cond.methodLink RX2 136 yX4_nameOf, Cond.instanceMethod yX4_nameOf, Cond.selects RX4 yX4_nameOf yX4_nameOf, Cond.code yX4_nameOf cX4_nameOf 2 (some .int)]
def wsX2_mendsOne : List Cond := .code yX2_mendsOne cX2_mendsOne 2 (some .boolean) :: ((wsX2_mendsOne_r1 ++ (wsX2_mendsOne_r2 ++ (wsX2_mendsOne_r3 ++ (wsX2_mendsOne_r4 ++ (wsX2_mendsOne_r5 ++ wsX2_mendsOne_r6))))) ++ wsX20 ++ wsX00 ++ wsX40)
def wsX2_placeAll_r1 : List Cond := [Cond.fieldLink RX2 50 "FarReach$Placing" "program" "LFarReach$Items;", Cond.fieldLink RX2 66 "FarReach$Placing" "rounds" "I", Cond.methodLink RX2 57 yX2_clear, Cond.instanceMethod yX2_clear, Cond.selects RX2 yX2_clear yX2_clear, Cond.initialized RX2, Cond.code yX2_clear cX2_clear 2 none, Cond.fieldLink RX2 14 "FarReach$Placing" "islands" "LFarReach$Stock;", Cond.fieldLink RX2 20 "FarReach$Placing" "constants" "LFarReach$Stock;", Cond.fieldLink RX2 23 "FarReach$Placing" "longs" "[Z", Cond.fieldLink RX2 83 "FarReach$Placing" "longBranches" "I", Cond.fieldLink RX2 86 "FarReach$Placing" "bytes" "I", Cond.fieldLink RX2 89 "FarReach$Placing" "filled" "I", Cond.fieldLink RX2 43 "FarReach$Placing" "failedAt" "I", Cond.fieldLink RX2 47 "FarReach$Placing" "failedNumber" "I", Cond.methodLink RX2 82 yX4_clear, Cond.instanceMethod yX4_clear, Cond.selects RX4 yX4_clear yX4_clear, Cond.initialized RX4, Cond.code yX4_clear cX4_clear 2 none, Cond.fieldLink RX4 33 "FarReach$Stock" "size" "I", Cond.fieldLink RX4 9 "FarReach$Stock" "inGap" "[I", Cond.fieldLink RX4 15 "FarReach$Stock" "starts" "[I", Cond.methodLink RX2 60 yX0_size]
def wsX2_placeAll_r2 : List Cond := [Cond.instanceMethod yX0_size, Cond.selects RX0 yX0_size yX0_size, Cond.initialized RX0, Cond.code yX0_size cX0_size 1 (some .int), Cond.fieldLink RX0 18 "FarReach$Items" "size" "I", Cond.methodLink RX2 69 yX2_lay, Cond.instanceMethod yX2_lay, Cond.selects RX2 yX2_lay yX2_lay, Cond.code yX2_lay cX2_lay 5 none, Cond.fieldLink RX2 27 "FarReach$Placing" "addresses" "[I", Cond.fieldLink RX2 31 "FarReach$Placing" "sizes" "[I", Cond.methodLink RX2 92 yX0_kindOf, Cond.instanceMethod yX0_kindOf, Cond.selects RX0 yX0_kindOf yX0_kindOf, Cond.code yX0_kindOf cX0_kindOf 2 (some .int), Cond.fieldLink RX0 9 "FarReach$Items" "kinds" "[I", Cond.methodLink RX0 42 yX0_has, Cond.instanceMethod yX0_has, Cond.selects RX0 yX0_has yX0_has, Cond.code yX0_has cX0_has 2 (some .boolean), Cond.fieldLink RX0 15 "FarReach$Items" "told" "[I", Cond.methodLink RX2 96 yX2_sizeAt, Cond.instanceMethod yX2_sizeAt, Cond.selects RX2 yX2_sizeAt yX2_sizeAt]
def wsX2_placeAll_r3 : List Cond := [Cond.code yX2_sizeAt cX2_sizeAt 3 (some .int), Cond.methodLink RX2 100 yX0_toldOf, Cond.instanceMethod yX0_toldOf, Cond.selects RX0 yX0_toldOf yX0_toldOf, Cond.code yX0_toldOf cX0_toldOf 2 (some .int), Cond.methodLink RX2 110 yX2_isLong, Cond.instanceMethod yX2_isLong, Cond.selects RX2 yX2_isLong yX2_isLong, Cond.code yX2_isLong cX2_isLong 2 (some .boolean), Cond.static yX5_fillTo, Cond.initialized RX5, Cond.code yX5_fillTo cX5_fillTo 2 (some .int), Cond.methodLink RX2 103 yX2_noteLabel, Cond.instanceMethod yX2_noteLabel, Cond.selects RX2 yX2_noteLabel yX2_noteLabel, Cond.code yX2_noteLabel cX2_noteLabel 3 none, Cond.fieldLink RX2 34 "FarReach$Placing" "labelAddresses" "[I", Cond.methodLink RX2 107 yX2_layGap, Cond.instanceMethod yX2_layGap, Cond.selects RX2 yX2_layGap yX2_layGap, Cond.code yX2_layGap cX2_layGap 5 (some .int), Cond.methodLink RX2 117 yX4_lay, Cond.instanceMethod yX4_lay, Cond.selects RX4 yX4_lay yX4_lay]
def wsX2_placeAll_r4 : List Cond := [Cond.code yX4_lay cX4_lay 3 (some .int), Cond.methodLink RX4 37 yX4_isItem, Cond.static yX4_isItem, Cond.code yX4_isItem cX4_isItem 1 (some .boolean), Cond.methodLink RX2 119 yX4_isIn, Cond.instanceMethod yX4_isIn, Cond.selects RX4 yX4_isIn yX4_isIn, Cond.code yX4_isIn cX4_isIn 2 (some .boolean), Cond.methodLink RX2 72 yX2_aimItems, Cond.instanceMethod yX2_aimItems, Cond.selects RX2 yX2_aimItems yX2_aimItems, Cond.code yX2_aimItems cX2_aimItems 3 none, Cond.fieldLink RX2 37 "FarReach$Placing" "aims" "[I", Cond.methodLink RX2 122 yX2_addressOf, Cond.instanceMethod yX2_addressOf, Cond.selects RX2 yX2_addressOf yX2_addressOf, Cond.code yX2_addressOf cX2_addressOf 2 (some .int), Cond.methodLink RX2 125 yX2_constantFor, Cond.instanceMethod yX2_constantFor, Cond.selects RX2 yX2_constantFor yX2_constantFor, Cond.code yX2_constantFor cX2_constantFor 6 (some .int), Cond.methodLink RX2 135 yX4_size, Cond.instanceMethod yX4_size, Cond.selects RX4 yX4_size yX4_size]
def wsX2_placeAll_r5 : List Cond := [Cond.code yX4_size cX4_size 1 (some .int), Cond.methodLink RX2 128 yX4_addressOf, Cond.instanceMethod yX4_addressOf, Cond.selects RX4 yX4_addressOf yX4_addressOf, Cond.code yX4_addressOf cX4_addressOf 3 (some .int), Cond.fieldLink RX4 27 "FarReach$Stock" "returns" "[I", Cond.fieldLink RX4 30 "FarReach$Stock" "places" "[I", Cond.methodLink RX4 41 yX4_has, Cond.instanceMethod yX4_has, Cond.selects RX4 yX4_has yX4_has, Cond.code yX4_has cX4_has 2 (some .boolean), Cond.fieldLink RX4 24 "FarReach$Stock" "names" "[I", Cond.methodLink RX2 136 yX4_nameOf, Cond.instanceMethod yX4_nameOf, Cond.selects RX4 yX4_nameOf yX4_nameOf, Cond.code yX4_nameOf cX4_nameOf 2 (some .int), Cond.methodLink RX2 152 yX2_isInLoadReach, Cond.instanceMethod yX2_isInLoadReach, Cond.selects RX2 yX2_isInLoadReach yX2_isInLoadReach, Cond.code yX2_isInLoadReach cX2_isInLoadReach 3 (some .boolean), Cond.fieldLink RX2 54 "FarReach$Placing" "reaches" "[I", Cond.methodLink RX2 129 yX2_longAim, Cond.instanceMethod yX2_longAim, Cond.selects RX2 yX2_longAim yX2_longAim]
def wsX2_placeAll_r6 : List Cond := [Cond.code yX2_longAim cX2_longAim 3 (some .int), Cond.methodLink RX2 145 yX2_goesStraight, Cond.instanceMethod yX2_goesStraight, Cond.selects RX2 yX2_goesStraight yX2_goesStraight, Cond.code yX2_goesStraight cX2_goesStraight 3 (some .boolean), Cond.methodLink RX2 139 yX2_labelAddress, Cond.instanceMethod yX2_labelAddress, Cond.selects RX2 yX2_labelAddress yX2_labelAddress, Cond.code yX2_labelAddress cX2_labelAddress 2 (some .int), Cond.static yX5_far, Cond.code yX5_far cX5_far 2 (some .int), Cond.methodLink RX2 149 yX2_islandFor, Cond.instanceMethod yX2_islandFor, Cond.selects RX2 yX2_islandFor yX2_islandFor, Cond.code yX2_islandFor cX2_islandFor 11 (some .int), Cond.methodLink RX2 132 yX2_shortAim, Cond.instanceMethod yX2_shortAim, Cond.selects RX2 yX2_shortAim yX2_shortAim, Cond.code yX2_shortAim cX2_shortAim 4 (some .int), Cond.methodLink RX2 75 yX2_aimIslands, Cond.instanceMethod yX2_aimIslands, Cond.selects RX2 yX2_aimIslands yX2_aimIslands, Cond.code yX2_aimIslands cX2_aimIslands 2 none, Cond.fieldLink RX2 40 "FarReach$Placing" "islandAims" "[I"]
def wsX2_placeAll_r7 : List Cond := [Cond.methodLink RX2 78 yX2_mendsOne, Cond.instanceMethod yX2_mendsOne, Cond.selects RX2 yX2_mendsOne yX2_mendsOne, Cond.code yX2_mendsOne cX2_mendsOne 2 (some .boolean), Cond.methodLink RX2 158 yX2_firstAstray, Cond.instanceMethod yX2_firstAstray, Cond.selects RX2 yX2_firstAstray yX2_firstAstray, Cond.code yX2_firstAstray cX2_firstAstray 4 (some .int), Cond.methodLink RX2 155 yX2_aimOf, Cond.instanceMethod yX2_aimOf, Cond.selects RX2 yX2_aimOf yX2_aimOf, Cond.code yX2_aimOf cX2_aimOf 2 (some .int), Cond.methodLink RX2 162 yX2_lengthens, Cond.instanceMethod yX2_lengthens, Cond.selects RX2 yX2_lengthens yX2_lengthens, Cond.code yX2_lengthens cX2_lengthens 2 (some .boolean), Cond.methodLink RX2 165 yX2_bringsConstant, Cond.instanceMethod yX2_bringsConstant, Cond.selects RX2 yX2_bringsConstant yX2_bringsConstant, Cond.code yX2_bringsConstant cX2_bringsConstant 5 (some .boolean), Cond.methodLink RX2 180 yX2_nextConstantIn, Cond.instanceMethod yX2_nextConstantIn, Cond.selects RX2 yX2_nextConstantIn yX2_nextConstantIn, Cond.code yX2_nextConstantIn cX2_nextConstantIn 3 (some .int)]
def wsX2_placeAll_r8 : List Cond := [Cond.methodLink RX2 186 yX4_endOf, Cond.instanceMethod yX4_endOf, Cond.selects RX4 yX4_endOf yX4_endOf, Cond.code yX4_endOf cX4_endOf 2 (some .int), Cond.methodLink RX2 183 yX4_add, Cond.instanceMethod yX4_add, Cond.selects RX4 yX4_add yX4_add, Cond.code yX4_add cX4_add 3 (some .boolean), Cond.methodLink RX2 168 yX2_fails, Cond.instanceMethod yX2_fails, Cond.selects RX2 yX2_fails yX2_fails, Cond.code yX2_fails cX2_fails 3 (some .boolean), Cond.methodLink RX2 171 yX2_bringsIsland, Cond.instanceMethod yX2_bringsIsland, Cond.selects RX2 yX2_bringsIsland yX2_bringsIsland, Cond.code yX2_bringsIsland cX2_bringsIsland 9 (some .boolean), Cond.methodLink RX2 174 yX2_firstIslandAstray, Cond.instanceMethod yX2_firstIslandAstray, Cond.selects RX2 yX2_firstIslandAstray yX2_firstIslandAstray, Cond.code yX2_firstIslandAstray cX2_firstIslandAstray 2 (some .int), Cond.methodLink RX2 177 yX2_islandAimOf, Cond.instanceMethod yX2_islandAimOf, Cond.selects RX2 yX2_islandAimOf yX2_islandAimOf, Cond.code yX2_islandAimOf cX2_islandAimOf 2 (some .int)]
def wsX2_placeAll : List Cond := .code yX2_placeAll cX2_placeAll 2 none :: ((wsX2_placeAll_r1 ++ (wsX2_placeAll_r2 ++ (wsX2_placeAll_r3 ++ (wsX2_placeAll_r4 ++ (wsX2_placeAll_r5 ++ (wsX2_placeAll_r6 ++ (wsX2_placeAll_r7 ++ wsX2_placeAll_r8))))))) ++ wsX20 ++ wsX40 ++ wsX00)
def wsX2_sizeOf : List Cond := .code yX2_sizeOf cX2_sizeOf 2 (some .int) :: ([.fieldLink RX2 31 "FarReach$Placing" "sizes" "[I"] ++ wsX20)
def wsX2_loadsOf_r1 : List Cond := [Cond.fieldLink RX2 20 "FarReach$Placing" "constants" "LFarReach$Stock;", Cond.fieldLink RX2 50 "FarReach$Placing" "program" "LFarReach$Items;", Cond.methodLink RX2 128 yX4_addressOf, Cond.instanceMethod yX4_addressOf, Cond.selects RX4 yX4_addressOf yX4_addressOf, Cond.initialized RX4, Cond.code yX4_addressOf cX4_addressOf 3 (some .int), Cond.fieldLink RX4 27 "FarReach$Stock" "returns" "[I", Cond.fieldLink RX4 15 "FarReach$Stock" "starts" "[I", Cond.fieldLink RX4 30 "FarReach$Stock" "places" "[I", Cond.methodLink RX4 41 yX4_has, Cond.instanceMethod yX4_has, Cond.selects RX4 yX4_has yX4_has, Cond.code yX4_has cX4_has 2 (some .boolean), Cond.fieldLink RX4 33 "FarReach$Stock" "size" "I", Cond.fieldLink RX4 24 "FarReach$Stock" "names" "[I", Cond.methodLink RX4 37 yX4_isItem, Cond.static yX4_isItem, Cond.code yX4_isItem cX4_isItem 1 (some .boolean), Cond.methodLink RX2 60 yX0_size, Cond.instanceMethod yX0_size, Cond.selects RX0 yX0_size yX0_size, Cond.initialized RX0, Cond.code yX0_size cX0_size 1 (some .int)]
def wsX2_loadsOf_r2 : List Cond := [Cond.fieldLink RX0 18 "FarReach$Items" "size" "I", Cond.methodLink RX2 92 yX0_kindOf, Cond.instanceMethod yX0_kindOf, Cond.selects RX0 yX0_kindOf yX0_kindOf, Cond.code yX0_kindOf cX0_kindOf 2 (some .int), Cond.fieldLink RX0 9 "FarReach$Items" "kinds" "[I", Cond.methodLink RX0 42 yX0_has, Cond.instanceMethod yX0_has, Cond.selects RX0 yX0_has yX0_has, Cond.code yX0_has cX0_has 2 (some .boolean), Cond.fieldLink RX0 15 "FarReach$Items" "told" "[I", Cond.methodLink RX2 155 yX2_aimOf, Cond.instanceMethod yX2_aimOf, Cond.selects RX2 yX2_aimOf yX2_aimOf, Cond.initialized RX2, Cond.code yX2_aimOf cX2_aimOf 2 (some .int), Cond.fieldLink RX2 37 "FarReach$Placing" "aims" "[I"]
def wsX2_loadsOf : List Cond := .code yX2_loadsOf cX2_loadsOf 5 (some .int) :: ((wsX2_loadsOf_r1 ++ wsX2_loadsOf_r2) ++ wsX20 ++ wsX40 ++ wsX00)
def wsX2_hopsFrom_r1 : List Cond := [Cond.fieldLink RX2 50 "FarReach$Placing" "program" "LFarReach$Items;", Cond.fieldLink RX2 14 "FarReach$Placing" "islands" "LFarReach$Stock;", Cond.methodLink RX2 100 yX0_toldOf, Cond.instanceMethod yX0_toldOf, Cond.selects RX0 yX0_toldOf yX0_toldOf, Cond.initialized RX0, Cond.code yX0_toldOf cX0_toldOf 2 (some .int), Cond.fieldLink RX0 15 "FarReach$Items" "told" "[I", Cond.methodLink RX0 42 yX0_has, Cond.instanceMethod yX0_has, Cond.selects RX0 yX0_has yX0_has, Cond.code yX0_has cX0_has 2 (some .boolean), Cond.fieldLink RX0 18 "FarReach$Items" "size" "I", Cond.fieldLink RX0 9 "FarReach$Items" "kinds" "[I", Cond.methodLink RX2 122 yX2_addressOf, Cond.instanceMethod yX2_addressOf, Cond.selects RX2 yX2_addressOf yX2_addressOf, Cond.initialized RX2, Cond.code yX2_addressOf cX2_addressOf 2 (some .int), Cond.fieldLink RX2 27 "FarReach$Placing" "addresses" "[I", Cond.methodLink RX2 110 yX2_isLong, Cond.instanceMethod yX2_isLong, Cond.selects RX2 yX2_isLong yX2_isLong, Cond.code yX2_isLong cX2_isLong 2 (some .boolean)]
def wsX2_hopsFrom_r2 : List Cond := [Cond.fieldLink RX2 23 "FarReach$Placing" "longs" "[Z", Cond.methodLink RX2 155 yX2_aimOf, Cond.instanceMethod yX2_aimOf, Cond.selects RX2 yX2_aimOf yX2_aimOf, Cond.code yX2_aimOf cX2_aimOf 2 (some .int), Cond.fieldLink RX2 37 "FarReach$Placing" "aims" "[I", Cond.methodLink RX2 145 yX2_goesStraight, Cond.instanceMethod yX2_goesStraight, Cond.selects RX2 yX2_goesStraight yX2_goesStraight, Cond.code yX2_goesStraight cX2_goesStraight 3 (some .boolean), Cond.fieldLink RX2 54 "FarReach$Placing" "reaches" "[I", Cond.methodLink RX2 139 yX2_labelAddress, Cond.instanceMethod yX2_labelAddress, Cond.selects RX2 yX2_labelAddress yX2_labelAddress, Cond.code yX2_labelAddress cX2_labelAddress 2 (some .int), Cond.fieldLink RX2 34 "FarReach$Placing" "labelAddresses" "[I", Cond.static yX5_far, Cond.initialized RX5, Cond.code yX5_far cX5_far 2 (some .int), Cond.methodLink RX2 149 yX2_islandFor, Cond.instanceMethod yX2_islandFor, Cond.selects RX2 yX2_islandFor yX2_islandFor, Cond.code yX2_islandFor cX2_islandFor 11 (some .int), Cond.methodLink RX2 135 yX4_size]
def wsX2_hopsFrom_r3 : List Cond := [Cond.instanceMethod yX4_size, Cond.selects RX4 yX4_size yX4_size, Cond.initialized RX4, Cond.code yX4_size cX4_size 1 (some .int), Cond.fieldLink RX4 33 "FarReach$Stock" "size" "I", Cond.methodLink RX2 128 yX4_addressOf, Cond.instanceMethod yX4_addressOf, Cond.selects RX4 yX4_addressOf yX4_addressOf, Cond.code yX4_addressOf cX4_addressOf 3 (some .int), Cond.fieldLink RX4 27 "FarReach$Stock" "returns" "[I", Cond.fieldLink RX4 15 "FarReach$Stock" "starts" "[I", Cond.fieldLink RX4 30 "FarReach$Stock" "places" "[I", Cond.methodLink RX4 41 yX4_has, Cond.instanceMethod yX4_has, Cond.selects RX4 yX4_has yX4_has, Cond.code yX4_has cX4_has 2 (some .boolean), Cond.fieldLink RX4 24 "FarReach$Stock" "names" "[I", Cond.methodLink RX4 37 yX4_isItem, Cond.static yX4_isItem, Cond.code yX4_isItem cX4_isItem 1 (some .boolean), Cond.methodLink RX2 136 yX4_nameOf, Cond.instanceMethod yX4_nameOf, Cond.selects RX4 yX4_nameOf yX4_nameOf, Cond.code yX4_nameOf cX4_nameOf 2 (some .int)]
def wsX2_hopsFrom : List Cond := .code yX2_hopsFrom cX2_hopsFrom 6 (some .int) :: ((wsX2_hopsFrom_r1 ++ (wsX2_hopsFrom_r2 ++ wsX2_hopsFrom_r3)) ++ wsX20 ++ wsX00 ++ wsX40)
def wsX3_init : List Cond := .code yX3_init cX3_init 1 none :: ([.methodLink RX3 3 objectInit, .instanceMethod objectInit, .code objectInit ⟨#[0xb1]⟩ 1 none, .classLink RX3 9 RX0, .instantiable RX0 4, .initialized RX0, .fieldLink RX3 12 "FarReach$Reader" "items" "LFarReach$Items;", .instanceMethod yX0_init, .code yX0_init cX0_init 1 none, .methodLink RX0 3 objectInit, .arrayClass .int, .fieldLink RX0 9 "FarReach$Items" "kinds" "[I", .fieldLink RX0 15 "FarReach$Items" "told" "[I"] ++ wsX00 ++ wsX30)
def wsX3_kindBegunBy : List Cond := .code yX3_kindBegunBy cX3_kindBegunBy 1 (some .int) :: ([])
def wsX3_begins : List Cond := .code yX3_begins cX3_begins 3 (some .boolean) :: ([.fieldLink RX3 12 "FarReach$Reader" "items" "LFarReach$Items;", .fieldLink RX3 25 "FarReach$Reader" "labelsMet" "I", .fieldLink RX3 21 "FarReach$Reader" "open" "I", .methodLink RX3 51 yX3_kindBegunBy, .static yX3_kindBegunBy, .initialized RX3, .code yX3_kindBegunBy cX3_kindBegunBy 1 (some .int), .methodLink RX3 48 yX0_size, .instanceMethod yX0_size, .selects RX0 yX0_size yX0_size, .initialized RX0, .code yX0_size cX0_size 1 (some .int), .fieldLink RX0 18 "FarReach$Items" "size" "I", .methodLink RX3 54 yX0_add, .instanceMethod yX0_add, .selects RX0 yX0_add yX0_add, .code yX0_add cX0_add 3 (some .boolean), .fieldLink RX0 9 "FarReach$Items" "kinds" "[I", .fieldLink RX0 15 "FarReach$Items" "told" "[I", .fieldLink RX0 22 "FarReach$Items" "gaps" "I"] ++ wsX30 ++ wsX00)
def wsX3_endsWithLabel : List Cond := .code yX3_endsWithLabel cX3_endsWithLabel 4 (some .boolean) :: ([.fieldLink RX3 28 "FarReach$Reader" "labelsWanted" "I", .fieldLink RX3 12 "FarReach$Reader" "items" "LFarReach$Items;", .fieldLink RX3 25 "FarReach$Reader" "labelsMet" "I", .methodLink RX3 54 yX0_add, .instanceMethod yX0_add, .selects RX0 yX0_add yX0_add, .initialized RX0, .code yX0_add cX0_add 3 (some .boolean), .fieldLink RX0 18 "FarReach$Items" "size" "I", .fieldLink RX0 9 "FarReach$Items" "kinds" "[I", .fieldLink RX0 15 "FarReach$Items" "told" "[I", .fieldLink RX0 22 "FarReach$Items" "gaps" "I"] ++ wsX30 ++ wsX00)
def wsX3_ends : List Cond := .code yX3_ends cX3_ends 3 (some .boolean) :: ([.fieldLink RX3 21 "FarReach$Reader" "open" "I", .fieldLink RX3 12 "FarReach$Reader" "items" "LFarReach$Items;", .methodLink RX3 54 yX0_add, .instanceMethod yX0_add, .selects RX0 yX0_add yX0_add, .initialized RX0, .code yX0_add cX0_add 3 (some .boolean), .fieldLink RX0 18 "FarReach$Items" "size" "I", .fieldLink RX0 9 "FarReach$Items" "kinds" "[I", .fieldLink RX0 15 "FarReach$Items" "told" "[I", .fieldLink RX0 22 "FarReach$Items" "gaps" "I", .methodLink RX3 58 yX3_endsWithLabel, .instanceMethod yX3_endsWithLabel, .selects RX3 yX3_endsWithLabel yX3_endsWithLabel, .initialized RX3, .code yX3_endsWithLabel cX3_endsWithLabel 4 (some .boolean), .fieldLink RX3 28 "FarReach$Reader" "labelsWanted" "I", .fieldLink RX3 25 "FarReach$Reader" "labelsMet" "I"] ++ wsX30 ++ wsX00)
def wsX3_read_r1 : List Cond := [Cond.fieldLink RX3 12 "FarReach$Reader" "items" "LFarReach$Items;", Cond.fieldLink RX3 21 "FarReach$Reader" "open" "I", Cond.fieldLink RX3 25 "FarReach$Reader" "labelsMet" "I", Cond.fieldLink RX3 28 "FarReach$Reader" "labelsWanted" "I", Cond.methodLink RX3 18 yX0_clear, Cond.instanceMethod yX0_clear, Cond.selects RX0 yX0_clear yX0_clear, Cond.initialized RX0, Cond.code yX0_clear cX0_clear 1 none, Cond.fieldLink RX0 18 "FarReach$Items" "size" "I", Cond.fieldLink RX0 22 "FarReach$Items" "gaps" "I", Cond.methodLink RX3 31 yX1_length, Cond.instanceMethod yX1_length, Cond.selects RX1 yX1_length yX1_length, Cond.initialized RX1, Cond.code yX1_length cX1_length 1 (some .int), Cond.fieldLink RX1 15 "FarReach$Page" "length" "I", Cond.methodLink RX3 37 yX1_letterAt, Cond.instanceMethod yX1_letterAt, Cond.selects RX1 yX1_letterAt yX1_letterAt, Cond.code yX1_letterAt cX1_letterAt 2 (some .int), Cond.fieldLink RX1 9 "FarReach$Page" "letters" "[I", Cond.methodLink RX3 41 yX3_begins, Cond.instanceMethod yX3_begins]
def wsX3_read_r2 : List Cond := [Cond.selects RX3 yX3_begins yX3_begins, Cond.initialized RX3, Cond.code yX3_begins cX3_begins 3 (some .boolean), Cond.methodLink RX3 51 yX3_kindBegunBy, Cond.static yX3_kindBegunBy, Cond.code yX3_kindBegunBy cX3_kindBegunBy 1 (some .int), Cond.methodLink RX3 48 yX0_size, Cond.instanceMethod yX0_size, Cond.selects RX0 yX0_size yX0_size, Cond.code yX0_size cX0_size 1 (some .int), Cond.methodLink RX3 54 yX0_add, Cond.instanceMethod yX0_add, Cond.selects RX0 yX0_add yX0_add, Cond.code yX0_add cX0_add 3 (some .boolean), Cond.fieldLink RX0 9 "FarReach$Items" "kinds" "[I", Cond.fieldLink RX0 15 "FarReach$Items" "told" "[I", Cond.methodLink RX3 45 yX3_ends, Cond.instanceMethod yX3_ends, Cond.selects RX3 yX3_ends yX3_ends, Cond.code yX3_ends cX3_ends 3 (some .boolean), Cond.methodLink RX3 58 yX3_endsWithLabel, Cond.instanceMethod yX3_endsWithLabel, Cond.selects RX3 yX3_endsWithLabel yX3_endsWithLabel, Cond.code yX3_endsWithLabel cX3_endsWithLabel 4 (some .boolean)]
def wsX3_read : List Cond := .code yX3_read cX3_read 5 (some .int) :: ((wsX3_read_r1 ++ wsX3_read_r2) ++ wsX30 ++ wsX00 ++ wsX10)
def wsX3_isWhole : List Cond := .code yX3_isWhole cX3_isWhole 1 (some .boolean) :: ([.fieldLink RX3 12 "FarReach$Reader" "items" "LFarReach$Items;", .fieldLink RX3 21 "FarReach$Reader" "open" "I", .fieldLink RX3 28 "FarReach$Reader" "labelsWanted" "I", .fieldLink RX3 25 "FarReach$Reader" "labelsMet" "I", .methodLink RX3 48 yX0_size, .instanceMethod yX0_size, .selects RX0 yX0_size yX0_size, .initialized RX0, .code yX0_size cX0_size 1 (some .int), .fieldLink RX0 18 "FarReach$Items" "size" "I"] ++ wsX30 ++ wsX00)
def wsX4_returnOf : List Cond := .code yX4_returnOf cX4_returnOf 2 (some .int) :: ([.fieldLink RX4 27 "FarReach$Stock" "returns" "[I", .methodLink RX4 41 yX4_has, .instanceMethod yX4_has, .selects RX4 yX4_has yX4_has, .initialized RX4, .code yX4_has cX4_has 2 (some .boolean), .fieldLink RX4 33 "FarReach$Stock" "size" "I", .fieldLink RX4 24 "FarReach$Stock" "names" "[I"] ++ wsX40)
def wsX5_init_r1 : List Cond := [Cond.methodLink RX5 3 objectInit, Cond.instanceMethod objectInit, Cond.code objectInit ⟨#[0xb1]⟩ 1 none, Cond.classLink RX5 9 RX1, Cond.instantiable RX1 2, Cond.initialized RX1, Cond.fieldLink RX5 12 "FarReach" "page" "LFarReach$Page;", Cond.classLink RX5 16 RX3, Cond.instantiable RX3 4, Cond.initialized RX3, Cond.fieldLink RX5 19 "FarReach" "reader" "LFarReach$Reader;", Cond.classLink RX5 23 RX0, Cond.instantiable RX0 4, Cond.initialized RX0, Cond.fieldLink RX5 26 "FarReach" "program" "LFarReach$Items;", Cond.arrayClass .int, Cond.fieldLink RX5 30 "FarReach" "reaches" "[I", Cond.classLink RX5 34 RX2, Cond.instantiable RX2 16, Cond.initialized RX2, Cond.fieldLink RX5 39 "FarReach" "placing" "LFarReach$Placing;", Cond.instanceMethod yX1_init, Cond.code yX1_init cX1_init 1 none, Cond.methodLink RX1 3 objectInit]
def wsX5_init_r2 : List Cond := [Cond.fieldLink RX1 9 "FarReach$Page" "letters" "[I", Cond.instanceMethod yX3_init, Cond.code yX3_init cX3_init 1 none, Cond.methodLink RX3 3 objectInit, Cond.classLink RX3 9 RX0, Cond.fieldLink RX3 12 "FarReach$Reader" "items" "LFarReach$Items;", Cond.instanceMethod yX0_init, Cond.code yX0_init cX0_init 1 none, Cond.methodLink RX0 3 objectInit, Cond.fieldLink RX0 9 "FarReach$Items" "kinds" "[I", Cond.fieldLink RX0 15 "FarReach$Items" "told" "[I", Cond.methodLink RX5 36 yX2_init, Cond.instanceMethod yX2_init, Cond.code yX2_init cX2_init 3 none, Cond.methodLink RX2 3 objectInit, Cond.classLink RX2 9 RX4, Cond.instantiable RX4 6, Cond.initialized RX4, Cond.fieldLink RX2 14 "FarReach$Placing" "islands" "LFarReach$Stock;", Cond.fieldLink RX2 20 "FarReach$Placing" "constants" "LFarReach$Stock;", Cond.arrayClass .boolean, Cond.fieldLink RX2 23 "FarReach$Placing" "longs" "[Z", Cond.fieldLink RX2 27 "FarReach$Placing" "addresses" "[I", Cond.fieldLink RX2 31 "FarReach$Placing" "sizes" "[I"]
def wsX5_init_r3 : List Cond := [Cond.fieldLink RX2 34 "FarReach$Placing" "labelAddresses" "[I", Cond.fieldLink RX2 37 "FarReach$Placing" "aims" "[I", Cond.fieldLink RX2 40 "FarReach$Placing" "islandAims" "[I", Cond.fieldLink RX2 43 "FarReach$Placing" "failedAt" "I", Cond.fieldLink RX2 47 "FarReach$Placing" "failedNumber" "I", Cond.fieldLink RX2 50 "FarReach$Placing" "program" "LFarReach$Items;", Cond.fieldLink RX2 54 "FarReach$Placing" "reaches" "[I", Cond.methodLink RX2 11 yX4_init, Cond.instanceMethod yX4_init, Cond.code yX4_init cX4_init 3 none, Cond.methodLink RX4 3 objectInit, Cond.fieldLink RX4 9 "FarReach$Stock" "inGap" "[I", Cond.fieldLink RX4 15 "FarReach$Stock" "starts" "[I", Cond.methodLink RX4 18 Lib.Math.max.name, Cond.static Lib.Math.max.name, Cond.initialized "java/lang/Math", Cond.code Lib.Math.max.name Lib.Math.max.code 2 (some .int), Cond.fieldLink RX4 24 "FarReach$Stock" "names" "[I", Cond.fieldLink RX4 27 "FarReach$Stock" "returns" "[I", Cond.fieldLink RX4 30 "FarReach$Stock" "places" "[I"]
def wsX5_init : List Cond := .code yX5_init cX5_init 1 none :: ((wsX5_init_r1 ++ (wsX5_init_r2 ++ wsX5_init_r3)) ++ wsX10 ++ wsX50 ++ wsX30 ++ wsX00 ++ wsX20 ++ wsX40)
def wsX5_letter : List Cond := .code yX5_letter cX5_letter 2 (some .int) :: ([.fieldLink RX5 12 "FarReach" "page" "LFarReach$Page;", .methodLink RX5 43 yX1_append, .instanceMethod yX1_append, .selects RX1 yX1_append yX1_append, .initialized RX1, .code yX1_append cX1_append 2 (some .boolean), .fieldLink RX1 15 "FarReach$Page" "length" "I", .fieldLink RX1 9 "FarReach$Page" "letters" "[I", .methodLink RX5 47 yX1_length, .instanceMethod yX1_length, .selects RX1 yX1_length yX1_length, .code yX1_length cX1_length 1 (some .int)] ++ wsX50 ++ wsX10)
def wsX5_blank : List Cond := .code yX5_blank cX5_blank 2 (some .int) :: ([.fieldLink RX5 12 "FarReach" "page" "LFarReach$Page;", .methodLink RX5 47 yX1_length, .instanceMethod yX1_length, .selects RX1 yX1_length yX1_length, .initialized RX1, .code yX1_length cX1_length 1 (some .int), .fieldLink RX1 15 "FarReach$Page" "length" "I", .methodLink RX5 51 yX1_clear, .instanceMethod yX1_clear, .selects RX1 yX1_clear yX1_clear, .code yX1_clear cX1_clear 1 none] ++ wsX50 ++ wsX10)
def wsX5_fault_r1 : List Cond := [Cond.fieldLink RX5 19 "FarReach" "reader" "LFarReach$Reader;", Cond.fieldLink RX5 12 "FarReach" "page" "LFarReach$Page;", Cond.methodLink RX5 54 yX3_read, Cond.instanceMethod yX3_read, Cond.selects RX3 yX3_read yX3_read, Cond.initialized RX3, Cond.code yX3_read cX3_read 5 (some .int), Cond.fieldLink RX3 12 "FarReach$Reader" "items" "LFarReach$Items;", Cond.fieldLink RX3 21 "FarReach$Reader" "open" "I", Cond.fieldLink RX3 25 "FarReach$Reader" "labelsMet" "I", Cond.fieldLink RX3 28 "FarReach$Reader" "labelsWanted" "I", Cond.methodLink RX3 18 yX0_clear, Cond.instanceMethod yX0_clear, Cond.selects RX0 yX0_clear yX0_clear, Cond.initialized RX0, Cond.code yX0_clear cX0_clear 1 none, Cond.fieldLink RX0 18 "FarReach$Items" "size" "I", Cond.fieldLink RX0 22 "FarReach$Items" "gaps" "I", Cond.methodLink RX3 31 yX1_length, Cond.instanceMethod yX1_length, Cond.selects RX1 yX1_length yX1_length, Cond.initialized RX1, Cond.code yX1_length cX1_length 1 (some .int), Cond.fieldLink RX1 15 "FarReach$Page" "length" "I"]
def wsX5_fault_r2 : List Cond := [Cond.methodLink RX3 37 yX1_letterAt, Cond.instanceMethod yX1_letterAt, Cond.selects RX1 yX1_letterAt yX1_letterAt, Cond.code yX1_letterAt cX1_letterAt 2 (some .int), Cond.fieldLink RX1 9 "FarReach$Page" "letters" "[I", Cond.methodLink RX3 41 yX3_begins, Cond.instanceMethod yX3_begins, Cond.selects RX3 yX3_begins yX3_begins, Cond.code yX3_begins cX3_begins 3 (some .boolean), Cond.methodLink RX3 51 yX3_kindBegunBy, Cond.static yX3_kindBegunBy, Cond.code yX3_kindBegunBy cX3_kindBegunBy 1 (some .int), Cond.methodLink RX3 48 yX0_size, Cond.instanceMethod yX0_size, Cond.selects RX0 yX0_size yX0_size, Cond.code yX0_size cX0_size 1 (some .int), Cond.methodLink RX3 54 yX0_add, Cond.instanceMethod yX0_add, Cond.selects RX0 yX0_add yX0_add, Cond.code yX0_add cX0_add 3 (some .boolean), Cond.fieldLink RX0 9 "FarReach$Items" "kinds" "[I", Cond.fieldLink RX0 15 "FarReach$Items" "told" "[I", Cond.methodLink RX3 45 yX3_ends, Cond.instanceMethod yX3_ends]
def wsX5_fault_r3 : List Cond := [Cond.selects RX3 yX3_ends yX3_ends, Cond.code yX3_ends cX3_ends 3 (some .boolean), Cond.methodLink RX3 58 yX3_endsWithLabel, Cond.instanceMethod yX3_endsWithLabel, Cond.selects RX3 yX3_endsWithLabel yX3_endsWithLabel, Cond.code yX3_endsWithLabel cX3_endsWithLabel 4 (some .boolean)]
def wsX5_fault : List Cond := .code yX5_fault cX5_fault 1 (some .int) :: ((wsX5_fault_r1 ++ (wsX5_fault_r2 ++ wsX5_fault_r3)) ++ wsX50 ++ wsX30 ++ wsX00 ++ wsX10)
def wsX5_code_r1 : List Cond := [Cond.fieldLink RX5 19 "FarReach" "reader" "LFarReach$Reader;", Cond.fieldLink RX5 12 "FarReach" "page" "LFarReach$Page;", Cond.fieldLink RX5 26 "FarReach" "program" "LFarReach$Items;", Cond.fieldLink RX5 69 "FarReach" "timesRead" "I", Cond.fieldLink RX5 39 "FarReach" "placing" "LFarReach$Placing;", Cond.methodLink RX5 54 yX3_read, Cond.instanceMethod yX3_read, Cond.selects RX3 yX3_read yX3_read, Cond.initialized RX3, Cond.code yX3_read cX3_read 5 (some .int), Cond.fieldLink RX3 12 "FarReach$Reader" "items" "LFarReach$Items;", Cond.fieldLink RX3 21 "FarReach$Reader" "open" "I", Cond.fieldLink RX3 25 "FarReach$Reader" "labelsMet" "I", Cond.fieldLink RX3 28 "FarReach$Reader" "labelsWanted" "I", Cond.methodLink RX3 18 yX0_clear, Cond.instanceMethod yX0_clear, Cond.selects RX0 yX0_clear yX0_clear, Cond.initialized RX0, Cond.code yX0_clear cX0_clear 1 none, Cond.fieldLink RX0 18 "FarReach$Items" "size" "I", Cond.fieldLink RX0 22 "FarReach$Items" "gaps" "I", Cond.methodLink RX3 31 yX1_length, Cond.instanceMethod yX1_length, Cond.selects RX1 yX1_length yX1_length]
def wsX5_code_r2 : List Cond := [Cond.initialized RX1, Cond.code yX1_length cX1_length 1 (some .int), Cond.fieldLink RX1 15 "FarReach$Page" "length" "I", Cond.methodLink RX3 37 yX1_letterAt, Cond.instanceMethod yX1_letterAt, Cond.selects RX1 yX1_letterAt yX1_letterAt, Cond.code yX1_letterAt cX1_letterAt 2 (some .int), Cond.fieldLink RX1 9 "FarReach$Page" "letters" "[I", Cond.methodLink RX3 41 yX3_begins, Cond.instanceMethod yX3_begins, Cond.selects RX3 yX3_begins yX3_begins, Cond.code yX3_begins cX3_begins 3 (some .boolean), Cond.methodLink RX3 51 yX3_kindBegunBy, Cond.static yX3_kindBegunBy, Cond.code yX3_kindBegunBy cX3_kindBegunBy 1 (some .int), Cond.methodLink RX3 48 yX0_size, Cond.instanceMethod yX0_size, Cond.selects RX0 yX0_size yX0_size, Cond.code yX0_size cX0_size 1 (some .int), Cond.methodLink RX3 54 yX0_add, Cond.instanceMethod yX0_add, Cond.selects RX0 yX0_add yX0_add, Cond.code yX0_add cX0_add 3 (some .boolean), Cond.fieldLink RX0 9 "FarReach$Items" "kinds" "[I"]
def wsX5_code_r3 : List Cond := [Cond.fieldLink RX0 15 "FarReach$Items" "told" "[I", Cond.methodLink RX3 45 yX3_ends, Cond.instanceMethod yX3_ends, Cond.selects RX3 yX3_ends yX3_ends, Cond.code yX3_ends cX3_ends 3 (some .boolean), Cond.methodLink RX3 58 yX3_endsWithLabel, Cond.instanceMethod yX3_endsWithLabel, Cond.selects RX3 yX3_endsWithLabel yX3_endsWithLabel, Cond.code yX3_endsWithLabel cX3_endsWithLabel 4 (some .boolean), Cond.methodLink RX5 47 yX1_length, Cond.methodLink RX5 58 yX3_isWhole, Cond.instanceMethod yX3_isWhole, Cond.selects RX3 yX3_isWhole yX3_isWhole, Cond.code yX3_isWhole cX3_isWhole 1 (some .boolean), Cond.methodLink RX5 65 yX0_takeFrom, Cond.instanceMethod yX0_takeFrom, Cond.selects RX0 yX0_takeFrom yX0_takeFrom, Cond.code yX0_takeFrom cX0_takeFrom 3 none, Cond.methodLink RX0 25 yX0_clear, Cond.methodLink RX0 28 yX0_size, Cond.methodLink RX0 31 yX0_kindOf, Cond.instanceMethod yX0_kindOf, Cond.selects RX0 yX0_kindOf yX0_kindOf, Cond.code yX0_kindOf cX0_kindOf 2 (some .int)]
def wsX5_code_r4 : List Cond := [Cond.methodLink RX0 42 yX0_has, Cond.instanceMethod yX0_has, Cond.selects RX0 yX0_has yX0_has, Cond.code yX0_has cX0_has 2 (some .boolean), Cond.methodLink RX0 35 yX0_toldOf, Cond.instanceMethod yX0_toldOf, Cond.selects RX0 yX0_toldOf yX0_toldOf, Cond.code yX0_toldOf cX0_toldOf 2 (some .int), Cond.methodLink RX0 38 yX0_add, Cond.methodLink RX5 51 yX1_clear, Cond.instanceMethod yX1_clear, Cond.selects RX1 yX1_clear yX1_clear, Cond.code yX1_clear cX1_clear 1 none, Cond.methodLink RX5 73 yX2_placeAll, Cond.instanceMethod yX2_placeAll, Cond.selects RX2 yX2_placeAll yX2_placeAll, Cond.initialized RX2, Cond.code yX2_placeAll cX2_placeAll 2 none, Cond.fieldLink RX2 50 "FarReach$Placing" "program" "LFarReach$Items;", Cond.fieldLink RX2 66 "FarReach$Placing" "rounds" "I", Cond.methodLink RX2 57 yX2_clear, Cond.instanceMethod yX2_clear, Cond.selects RX2 yX2_clear yX2_clear, Cond.code yX2_clear cX2_clear 2 none]
def wsX5_code_r5 : List Cond := [Cond.fieldLink RX2 14 "FarReach$Placing" "islands" "LFarReach$Stock;", Cond.fieldLink RX2 20 "FarReach$Placing" "constants" "LFarReach$Stock;", Cond.fieldLink RX2 23 "FarReach$Placing" "longs" "[Z", Cond.fieldLink RX2 83 "FarReach$Placing" "longBranches" "I", Cond.fieldLink RX2 86 "FarReach$Placing" "bytes" "I", Cond.fieldLink RX2 89 "FarReach$Placing" "filled" "I", Cond.fieldLink RX2 43 "FarReach$Placing" "failedAt" "I", Cond.fieldLink RX2 47 "FarReach$Placing" "failedNumber" "I", Cond.methodLink RX2 82 yX4_clear, Cond.instanceMethod yX4_clear, Cond.selects RX4 yX4_clear yX4_clear, Cond.initialized RX4, Cond.code yX4_clear cX4_clear 2 none, Cond.fieldLink RX4 33 "FarReach$Stock" "size" "I", Cond.fieldLink RX4 9 "FarReach$Stock" "inGap" "[I", Cond.fieldLink RX4 15 "FarReach$Stock" "starts" "[I", Cond.methodLink RX2 60 yX0_size, Cond.methodLink RX2 69 yX2_lay, Cond.instanceMethod yX2_lay, Cond.selects RX2 yX2_lay yX2_lay, Cond.code yX2_lay cX2_lay 5 none, Cond.fieldLink RX2 27 "FarReach$Placing" "addresses" "[I", Cond.fieldLink RX2 31 "FarReach$Placing" "sizes" "[I", Cond.methodLink RX2 92 yX0_kindOf]
def wsX5_code_r6 : List Cond := [Cond.methodLink RX2 96 yX2_sizeAt, Cond.instanceMethod yX2_sizeAt, Cond.selects RX2 yX2_sizeAt yX2_sizeAt, Cond.code yX2_sizeAt cX2_sizeAt 3 (some .int), Cond.methodLink RX2 100 yX0_toldOf, Cond.methodLink RX2 110 yX2_isLong, Cond.instanceMethod yX2_isLong, Cond.selects RX2 yX2_isLong yX2_isLong, Cond.code yX2_isLong cX2_isLong 2 (some .boolean), Cond.static yX5_fillTo, Cond.initialized RX5, Cond.code yX5_fillTo cX5_fillTo 2 (some .int), Cond.methodLink RX2 103 yX2_noteLabel, Cond.instanceMethod yX2_noteLabel, Cond.selects RX2 yX2_noteLabel yX2_noteLabel, Cond.code yX2_noteLabel cX2_noteLabel 3 none, Cond.fieldLink RX2 34 "FarReach$Placing" "labelAddresses" "[I", Cond.methodLink RX2 107 yX2_layGap, Cond.instanceMethod yX2_layGap, Cond.selects RX2 yX2_layGap yX2_layGap, Cond.code yX2_layGap cX2_layGap 5 (some .int), Cond.methodLink RX2 117 yX4_lay, Cond.instanceMethod yX4_lay, Cond.selects RX4 yX4_lay yX4_lay]
def wsX5_code_r7 : List Cond := [Cond.code yX4_lay cX4_lay 3 (some .int), Cond.methodLink RX4 37 yX4_isItem, Cond.static yX4_isItem, Cond.code yX4_isItem cX4_isItem 1 (some .boolean), Cond.methodLink RX2 119 yX4_isIn, Cond.instanceMethod yX4_isIn, Cond.selects RX4 yX4_isIn yX4_isIn, Cond.code yX4_isIn cX4_isIn 2 (some .boolean), Cond.methodLink RX2 72 yX2_aimItems, Cond.instanceMethod yX2_aimItems, Cond.selects RX2 yX2_aimItems yX2_aimItems, Cond.code yX2_aimItems cX2_aimItems 3 none, Cond.fieldLink RX2 37 "FarReach$Placing" "aims" "[I", Cond.methodLink RX2 122 yX2_addressOf, Cond.instanceMethod yX2_addressOf, Cond.selects RX2 yX2_addressOf yX2_addressOf, Cond.code yX2_addressOf cX2_addressOf 2 (some .int), Cond.methodLink RX2 125 yX2_constantFor, Cond.instanceMethod yX2_constantFor, Cond.selects RX2 yX2_constantFor yX2_constantFor, Cond.code yX2_constantFor cX2_constantFor 6 (some .int), Cond.methodLink RX2 135 yX4_size, Cond.instanceMethod yX4_size, Cond.selects RX4 yX4_size yX4_size]
def wsX5_code_r8 : List Cond := [Cond.code yX4_size cX4_size 1 (some .int), Cond.methodLink RX2 128 yX4_addressOf, Cond.instanceMethod yX4_addressOf, Cond.selects RX4 yX4_addressOf yX4_addressOf, Cond.code yX4_addressOf cX4_addressOf 3 (some .int), Cond.fieldLink RX4 27 "FarReach$Stock" "returns" "[I", Cond.fieldLink RX4 30 "FarReach$Stock" "places" "[I", Cond.methodLink RX4 41 yX4_has, Cond.instanceMethod yX4_has, Cond.selects RX4 yX4_has yX4_has, Cond.code yX4_has cX4_has 2 (some .boolean), Cond.fieldLink RX4 24 "FarReach$Stock" "names" "[I", Cond.methodLink RX2 136 yX4_nameOf, Cond.instanceMethod yX4_nameOf, Cond.selects RX4 yX4_nameOf yX4_nameOf, Cond.code yX4_nameOf cX4_nameOf 2 (some .int), Cond.methodLink RX2 152 yX2_isInLoadReach, Cond.instanceMethod yX2_isInLoadReach, Cond.selects RX2 yX2_isInLoadReach yX2_isInLoadReach, Cond.code yX2_isInLoadReach cX2_isInLoadReach 3 (some .boolean), Cond.fieldLink RX2 54 "FarReach$Placing" "reaches" "[I", Cond.methodLink RX2 129 yX2_longAim, Cond.instanceMethod yX2_longAim, Cond.selects RX2 yX2_longAim yX2_longAim]
def wsX5_code_r9 : List Cond := [Cond.code yX2_longAim cX2_longAim 3 (some .int), Cond.methodLink RX2 145 yX2_goesStraight, Cond.instanceMethod yX2_goesStraight, Cond.selects RX2 yX2_goesStraight yX2_goesStraight, Cond.code yX2_goesStraight cX2_goesStraight 3 (some .boolean), Cond.methodLink RX2 139 yX2_labelAddress, Cond.instanceMethod yX2_labelAddress, Cond.selects RX2 yX2_labelAddress yX2_labelAddress, Cond.code yX2_labelAddress cX2_labelAddress 2 (some .int), Cond.static yX5_far, Cond.code yX5_far cX5_far 2 (some .int), Cond.methodLink RX2 149 yX2_islandFor, Cond.instanceMethod yX2_islandFor, Cond.selects RX2 yX2_islandFor yX2_islandFor, Cond.code yX2_islandFor cX2_islandFor 11 (some .int), Cond.methodLink RX2 132 yX2_shortAim, Cond.instanceMethod yX2_shortAim, Cond.selects RX2 yX2_shortAim yX2_shortAim, Cond.code yX2_shortAim cX2_shortAim 4 (some .int), Cond.methodLink RX2 75 yX2_aimIslands, Cond.instanceMethod yX2_aimIslands, Cond.selects RX2 yX2_aimIslands yX2_aimIslands, Cond.code yX2_aimIslands cX2_aimIslands 2 none, Cond.fieldLink RX2 40 "FarReach$Placing" "islandAims" "[I"]
def wsX5_code_r10 : List Cond := [Cond.methodLink RX2 78 yX2_mendsOne, Cond.instanceMethod yX2_mendsOne, Cond.selects RX2 yX2_mendsOne yX2_mendsOne, Cond.code yX2_mendsOne cX2_mendsOne 2 (some .boolean), Cond.methodLink RX2 158 yX2_firstAstray, Cond.instanceMethod yX2_firstAstray, Cond.selects RX2 yX2_firstAstray yX2_firstAstray, Cond.code yX2_firstAstray cX2_firstAstray 4 (some .int), Cond.methodLink RX2 155 yX2_aimOf, Cond.instanceMethod yX2_aimOf, Cond.selects RX2 yX2_aimOf yX2_aimOf, Cond.code yX2_aimOf cX2_aimOf 2 (some .int), Cond.methodLink RX2 162 yX2_lengthens, Cond.instanceMethod yX2_lengthens, Cond.selects RX2 yX2_lengthens yX2_lengthens, Cond.code yX2_lengthens cX2_lengthens 2 (some .boolean), Cond.methodLink RX2 165 yX2_bringsConstant, Cond.instanceMethod yX2_bringsConstant, Cond.selects RX2 yX2_bringsConstant yX2_bringsConstant, Cond.code yX2_bringsConstant cX2_bringsConstant 5 (some .boolean), Cond.methodLink RX2 180 yX2_nextConstantIn, Cond.instanceMethod yX2_nextConstantIn, Cond.selects RX2 yX2_nextConstantIn yX2_nextConstantIn, Cond.code yX2_nextConstantIn cX2_nextConstantIn 3 (some .int)]
def wsX5_code_r11 : List Cond := [Cond.methodLink RX2 186 yX4_endOf, Cond.instanceMethod yX4_endOf, Cond.selects RX4 yX4_endOf yX4_endOf, Cond.code yX4_endOf cX4_endOf 2 (some .int), Cond.methodLink RX2 183 yX4_add, Cond.instanceMethod yX4_add, Cond.selects RX4 yX4_add yX4_add, Cond.code yX4_add cX4_add 3 (some .boolean), Cond.methodLink RX2 168 yX2_fails, Cond.instanceMethod yX2_fails, Cond.selects RX2 yX2_fails yX2_fails, Cond.code yX2_fails cX2_fails 3 (some .boolean), Cond.methodLink RX2 171 yX2_bringsIsland, Cond.instanceMethod yX2_bringsIsland, Cond.selects RX2 yX2_bringsIsland yX2_bringsIsland, Cond.code yX2_bringsIsland cX2_bringsIsland 9 (some .boolean), Cond.methodLink RX2 174 yX2_firstIslandAstray, Cond.instanceMethod yX2_firstIslandAstray, Cond.selects RX2 yX2_firstIslandAstray yX2_firstIslandAstray, Cond.code yX2_firstIslandAstray cX2_firstIslandAstray 2 (some .int), Cond.methodLink RX2 177 yX2_islandAimOf, Cond.instanceMethod yX2_islandAimOf, Cond.selects RX2 yX2_islandAimOf yX2_islandAimOf, Cond.code yX2_islandAimOf cX2_islandAimOf 2 (some .int)]
def wsX5_code_r12 : List Cond := [Cond.methodLink RX5 76 yX0_size]
def wsX5_code : List Cond := .code yX5_code cX5_code 1 (some .int) :: ((wsX5_code_r1 ++ (wsX5_code_r2 ++ (wsX5_code_r3 ++ (wsX5_code_r4 ++ (wsX5_code_r5 ++ (wsX5_code_r6 ++ (wsX5_code_r7 ++ (wsX5_code_r8 ++ (wsX5_code_r9 ++ (wsX5_code_r10 ++ (wsX5_code_r11 ++ wsX5_code_r12))))))))))) ++ wsX50 ++ wsX30 ++ wsX00 ++ wsX10 ++ wsX20 ++ wsX40)
def wsX5_reach_r1 : List Cond := [Cond.fieldLink RX5 79 "FarReach" "LEAST_REACH" "[I", Cond.fieldLink RX5 82 "FarReach" "MOST_REACH" "[I", Cond.fieldLink RX5 30 "FarReach" "reaches" "[I", Cond.fieldLink RX5 85 "FarReach" "timesAltered" "I", Cond.fieldLink RX5 39 "FarReach" "placing" "LFarReach$Placing;", Cond.methodLink RX5 73 yX2_placeAll, Cond.instanceMethod yX2_placeAll, Cond.selects RX2 yX2_placeAll yX2_placeAll, Cond.initialized RX2, Cond.code yX2_placeAll cX2_placeAll 2 none, Cond.fieldLink RX2 50 "FarReach$Placing" "program" "LFarReach$Items;", Cond.fieldLink RX2 66 "FarReach$Placing" "rounds" "I", Cond.methodLink RX2 57 yX2_clear, Cond.instanceMethod yX2_clear, Cond.selects RX2 yX2_clear yX2_clear, Cond.code yX2_clear cX2_clear 2 none, Cond.fieldLink RX2 14 "FarReach$Placing" "islands" "LFarReach$Stock;", Cond.fieldLink RX2 20 "FarReach$Placing" "constants" "LFarReach$Stock;", Cond.fieldLink RX2 23 "FarReach$Placing" "longs" "[Z", Cond.fieldLink RX2 83 "FarReach$Placing" "longBranches" "I", Cond.fieldLink RX2 86 "FarReach$Placing" "bytes" "I", Cond.fieldLink RX2 89 "FarReach$Placing" "filled" "I", Cond.fieldLink RX2 43 "FarReach$Placing" "failedAt" "I", Cond.fieldLink RX2 47 "FarReach$Placing" "failedNumber" "I"]
def wsX5_reach_r2 : List Cond := [Cond.methodLink RX2 82 yX4_clear, Cond.instanceMethod yX4_clear, Cond.selects RX4 yX4_clear yX4_clear, Cond.initialized RX4, Cond.code yX4_clear cX4_clear 2 none, Cond.fieldLink RX4 33 "FarReach$Stock" "size" "I", Cond.fieldLink RX4 9 "FarReach$Stock" "inGap" "[I", Cond.fieldLink RX4 15 "FarReach$Stock" "starts" "[I", Cond.methodLink RX2 60 yX0_size, Cond.instanceMethod yX0_size, Cond.selects RX0 yX0_size yX0_size, Cond.initialized RX0, Cond.code yX0_size cX0_size 1 (some .int), Cond.fieldLink RX0 18 "FarReach$Items" "size" "I", Cond.methodLink RX2 69 yX2_lay, Cond.instanceMethod yX2_lay, Cond.selects RX2 yX2_lay yX2_lay, Cond.code yX2_lay cX2_lay 5 none, Cond.fieldLink RX2 27 "FarReach$Placing" "addresses" "[I", Cond.fieldLink RX2 31 "FarReach$Placing" "sizes" "[I", Cond.methodLink RX2 92 yX0_kindOf, Cond.instanceMethod yX0_kindOf, Cond.selects RX0 yX0_kindOf yX0_kindOf, Cond.code yX0_kindOf cX0_kindOf 2 (some .int)]
def wsX5_reach_r3 : List Cond := [Cond.fieldLink RX0 9 "FarReach$Items" "kinds" "[I", Cond.methodLink RX0 42 yX0_has, Cond.instanceMethod yX0_has, Cond.selects RX0 yX0_has yX0_has, Cond.code yX0_has cX0_has 2 (some .boolean), Cond.fieldLink RX0 15 "FarReach$Items" "told" "[I", Cond.methodLink RX2 96 yX2_sizeAt, Cond.instanceMethod yX2_sizeAt, Cond.selects RX2 yX2_sizeAt yX2_sizeAt, Cond.code yX2_sizeAt cX2_sizeAt 3 (some .int), Cond.methodLink RX2 100 yX0_toldOf, Cond.instanceMethod yX0_toldOf, Cond.selects RX0 yX0_toldOf yX0_toldOf, Cond.code yX0_toldOf cX0_toldOf 2 (some .int), Cond.methodLink RX2 110 yX2_isLong, Cond.instanceMethod yX2_isLong, Cond.selects RX2 yX2_isLong yX2_isLong, Cond.code yX2_isLong cX2_isLong 2 (some .boolean), Cond.static yX5_fillTo, Cond.initialized RX5, Cond.code yX5_fillTo cX5_fillTo 2 (some .int), Cond.methodLink RX2 103 yX2_noteLabel, Cond.instanceMethod yX2_noteLabel, Cond.selects RX2 yX2_noteLabel yX2_noteLabel]
def wsX5_reach_r4 : List Cond := [Cond.code yX2_noteLabel cX2_noteLabel 3 none, Cond.fieldLink RX2 34 "FarReach$Placing" "labelAddresses" "[I", Cond.methodLink RX2 107 yX2_layGap, Cond.instanceMethod yX2_layGap, Cond.selects RX2 yX2_layGap yX2_layGap, Cond.code yX2_layGap cX2_layGap 5 (some .int), Cond.methodLink RX2 117 yX4_lay, Cond.instanceMethod yX4_lay, Cond.selects RX4 yX4_lay yX4_lay, Cond.code yX4_lay cX4_lay 3 (some .int), Cond.methodLink RX4 37 yX4_isItem, Cond.static yX4_isItem, Cond.code yX4_isItem cX4_isItem 1 (some .boolean), Cond.methodLink RX2 119 yX4_isIn, Cond.instanceMethod yX4_isIn, Cond.selects RX4 yX4_isIn yX4_isIn, Cond.code yX4_isIn cX4_isIn 2 (some .boolean), Cond.methodLink RX2 72 yX2_aimItems, Cond.instanceMethod yX2_aimItems, Cond.selects RX2 yX2_aimItems yX2_aimItems, Cond.code yX2_aimItems cX2_aimItems 3 none, Cond.fieldLink RX2 37 "FarReach$Placing" "aims" "[I", Cond.methodLink RX2 122 yX2_addressOf, Cond.instanceMethod yX2_addressOf]
def wsX5_reach_r5 : List Cond := [Cond.selects RX2 yX2_addressOf yX2_addressOf, Cond.code yX2_addressOf cX2_addressOf 2 (some .int), Cond.methodLink RX2 125 yX2_constantFor, Cond.instanceMethod yX2_constantFor, Cond.selects RX2 yX2_constantFor yX2_constantFor, Cond.code yX2_constantFor cX2_constantFor 6 (some .int), Cond.methodLink RX2 135 yX4_size, Cond.instanceMethod yX4_size, Cond.selects RX4 yX4_size yX4_size, Cond.code yX4_size cX4_size 1 (some .int), Cond.methodLink RX2 128 yX4_addressOf, Cond.instanceMethod yX4_addressOf, Cond.selects RX4 yX4_addressOf yX4_addressOf, Cond.code yX4_addressOf cX4_addressOf 3 (some .int), Cond.fieldLink RX4 27 "FarReach$Stock" "returns" "[I", Cond.fieldLink RX4 30 "FarReach$Stock" "places" "[I", Cond.methodLink RX4 41 yX4_has, Cond.instanceMethod yX4_has, Cond.selects RX4 yX4_has yX4_has, Cond.code yX4_has cX4_has 2 (some .boolean), Cond.fieldLink RX4 24 "FarReach$Stock" "names" "[I", Cond.methodLink RX2 136 yX4_nameOf, Cond.instanceMethod yX4_nameOf, Cond.selects RX4 yX4_nameOf yX4_nameOf]
def wsX5_reach_r6 : List Cond := [Cond.code yX4_nameOf cX4_nameOf 2 (some .int), Cond.methodLink RX2 152 yX2_isInLoadReach, Cond.instanceMethod yX2_isInLoadReach, Cond.selects RX2 yX2_isInLoadReach yX2_isInLoadReach, Cond.code yX2_isInLoadReach cX2_isInLoadReach 3 (some .boolean), Cond.fieldLink RX2 54 "FarReach$Placing" "reaches" "[I", Cond.methodLink RX2 129 yX2_longAim, Cond.instanceMethod yX2_longAim, Cond.selects RX2 yX2_longAim yX2_longAim, Cond.code yX2_longAim cX2_longAim 3 (some .int), Cond.methodLink RX2 145 yX2_goesStraight, Cond.instanceMethod yX2_goesStraight, Cond.selects RX2 yX2_goesStraight yX2_goesStraight, Cond.code yX2_goesStraight cX2_goesStraight 3 (some .boolean), Cond.methodLink RX2 139 yX2_labelAddress, Cond.instanceMethod yX2_labelAddress, Cond.selects RX2 yX2_labelAddress yX2_labelAddress, Cond.code yX2_labelAddress cX2_labelAddress 2 (some .int), Cond.static yX5_far, Cond.code yX5_far cX5_far 2 (some .int), Cond.methodLink RX2 149 yX2_islandFor, Cond.instanceMethod yX2_islandFor, Cond.selects RX2 yX2_islandFor yX2_islandFor, Cond.code yX2_islandFor cX2_islandFor 11 (some .int)]
def wsX5_reach_r7 : List Cond := [Cond.methodLink RX2 132 yX2_shortAim, Cond.instanceMethod yX2_shortAim, Cond.selects RX2 yX2_shortAim yX2_shortAim, Cond.code yX2_shortAim cX2_shortAim 4 (some .int), Cond.methodLink RX2 75 yX2_aimIslands, Cond.instanceMethod yX2_aimIslands, Cond.selects RX2 yX2_aimIslands yX2_aimIslands, Cond.code yX2_aimIslands cX2_aimIslands 2 none, Cond.fieldLink RX2 40 "FarReach$Placing" "islandAims" "[I", Cond.methodLink RX2 78 yX2_mendsOne, Cond.instanceMethod yX2_mendsOne, Cond.selects RX2 yX2_mendsOne yX2_mendsOne, Cond.code yX2_mendsOne cX2_mendsOne 2 (some .boolean), Cond.methodLink RX2 158 yX2_firstAstray, Cond.instanceMethod yX2_firstAstray, Cond.selects RX2 yX2_firstAstray yX2_firstAstray, Cond.code yX2_firstAstray cX2_firstAstray 4 (some .int), Cond.methodLink RX2 155 yX2_aimOf, Cond.instanceMethod yX2_aimOf, Cond.selects RX2 yX2_aimOf yX2_aimOf, Cond.code yX2_aimOf cX2_aimOf 2 (some .int), Cond.methodLink RX2 162 yX2_lengthens, Cond.instanceMethod yX2_lengthens, Cond.selects RX2 yX2_lengthens yX2_lengthens]
def wsX5_reach_r8 : List Cond := [Cond.code yX2_lengthens cX2_lengthens 2 (some .boolean), Cond.methodLink RX2 165 yX2_bringsConstant, Cond.instanceMethod yX2_bringsConstant, Cond.selects RX2 yX2_bringsConstant yX2_bringsConstant, Cond.code yX2_bringsConstant cX2_bringsConstant 5 (some .boolean), Cond.methodLink RX2 180 yX2_nextConstantIn, Cond.instanceMethod yX2_nextConstantIn, Cond.selects RX2 yX2_nextConstantIn yX2_nextConstantIn, Cond.code yX2_nextConstantIn cX2_nextConstantIn 3 (some .int), Cond.methodLink RX2 186 yX4_endOf, Cond.instanceMethod yX4_endOf, Cond.selects RX4 yX4_endOf yX4_endOf, Cond.code yX4_endOf cX4_endOf 2 (some .int), Cond.methodLink RX2 183 yX4_add, Cond.instanceMethod yX4_add, Cond.selects RX4 yX4_add yX4_add, Cond.code yX4_add cX4_add 3 (some .boolean), Cond.methodLink RX2 168 yX2_fails, Cond.instanceMethod yX2_fails, Cond.selects RX2 yX2_fails yX2_fails, Cond.code yX2_fails cX2_fails 3 (some .boolean), Cond.methodLink RX2 171 yX2_bringsIsland, Cond.instanceMethod yX2_bringsIsland, Cond.selects RX2 yX2_bringsIsland yX2_bringsIsland]
def wsX5_reach_r9 : List Cond := [Cond.code yX2_bringsIsland cX2_bringsIsland 9 (some .boolean), Cond.methodLink RX2 174 yX2_firstIslandAstray, Cond.instanceMethod yX2_firstIslandAstray, Cond.selects RX2 yX2_firstIslandAstray yX2_firstIslandAstray, Cond.code yX2_firstIslandAstray cX2_firstIslandAstray 2 (some .int), Cond.methodLink RX2 177 yX2_islandAimOf, Cond.instanceMethod yX2_islandAimOf, Cond.selects RX2 yX2_islandAimOf yX2_islandAimOf, Cond.code yX2_islandAimOf cX2_islandAimOf 2 (some .int)]
def wsX5_reach : List Cond := .code yX5_reach cX5_reach 4 (some .int) :: ((wsX5_reach_r1 ++ (wsX5_reach_r2 ++ (wsX5_reach_r3 ++ (wsX5_reach_r4 ++ (wsX5_reach_r5 ++ (wsX5_reach_r6 ++ (wsX5_reach_r7 ++ (wsX5_reach_r8 ++ wsX5_reach_r9)))))))) ++ wsX50 ++ wsX20 ++ wsX40 ++ wsX00)
def wsX5_grow_r1 : List Cond := [Cond.fieldLink RX5 26 "FarReach" "program" "LFarReach$Items;", Cond.fieldLink RX5 85 "FarReach" "timesAltered" "I", Cond.fieldLink RX5 39 "FarReach" "placing" "LFarReach$Placing;", Cond.methodLink RX5 88 yX0_has, Cond.instanceMethod yX0_has, Cond.selects RX0 yX0_has yX0_has, Cond.initialized RX0, Cond.code yX0_has cX0_has 2 (some .boolean), Cond.fieldLink RX0 18 "FarReach$Items" "size" "I", Cond.fieldLink RX0 9 "FarReach$Items" "kinds" "[I", Cond.fieldLink RX0 15 "FarReach$Items" "told" "[I", Cond.methodLink RX5 91 yX0_kindOf, Cond.instanceMethod yX0_kindOf, Cond.selects RX0 yX0_kindOf yX0_kindOf, Cond.code yX0_kindOf cX0_kindOf 2 (some .int), Cond.methodLink RX0 42 yX0_has, Cond.methodLink RX5 95 yX0_toldOf, Cond.instanceMethod yX0_toldOf, Cond.selects RX0 yX0_toldOf yX0_toldOf, Cond.code yX0_toldOf cX0_toldOf 2 (some .int), Cond.methodLink RX5 98 yX0_tell, Cond.instanceMethod yX0_tell, Cond.selects RX0 yX0_tell yX0_tell, Cond.code yX0_tell cX0_tell 3 none]
def wsX5_grow_r2 : List Cond := [Cond.methodLink RX5 73 yX2_placeAll, Cond.instanceMethod yX2_placeAll, Cond.selects RX2 yX2_placeAll yX2_placeAll, Cond.initialized RX2, Cond.code yX2_placeAll cX2_placeAll 2 none, Cond.fieldLink RX2 50 "FarReach$Placing" "program" "LFarReach$Items;", Cond.fieldLink RX2 66 "FarReach$Placing" "rounds" "I", Cond.methodLink RX2 57 yX2_clear, Cond.instanceMethod yX2_clear, Cond.selects RX2 yX2_clear yX2_clear, Cond.code yX2_clear cX2_clear 2 none, Cond.fieldLink RX2 14 "FarReach$Placing" "islands" "LFarReach$Stock;", Cond.fieldLink RX2 20 "FarReach$Placing" "constants" "LFarReach$Stock;", Cond.fieldLink RX2 23 "FarReach$Placing" "longs" "[Z", Cond.fieldLink RX2 83 "FarReach$Placing" "longBranches" "I", Cond.fieldLink RX2 86 "FarReach$Placing" "bytes" "I", Cond.fieldLink RX2 89 "FarReach$Placing" "filled" "I", Cond.fieldLink RX2 43 "FarReach$Placing" "failedAt" "I", Cond.fieldLink RX2 47 "FarReach$Placing" "failedNumber" "I", Cond.methodLink RX2 82 yX4_clear, Cond.instanceMethod yX4_clear, Cond.selects RX4 yX4_clear yX4_clear, Cond.initialized RX4, Cond.code yX4_clear cX4_clear 2 none]
def wsX5_grow_r3 : List Cond := [Cond.fieldLink RX4 33 "FarReach$Stock" "size" "I", Cond.fieldLink RX4 9 "FarReach$Stock" "inGap" "[I", Cond.fieldLink RX4 15 "FarReach$Stock" "starts" "[I", Cond.methodLink RX2 60 yX0_size, Cond.instanceMethod yX0_size, Cond.selects RX0 yX0_size yX0_size, Cond.code yX0_size cX0_size 1 (some .int), Cond.methodLink RX2 69 yX2_lay, Cond.instanceMethod yX2_lay, Cond.selects RX2 yX2_lay yX2_lay, Cond.code yX2_lay cX2_lay 5 none, Cond.fieldLink RX2 27 "FarReach$Placing" "addresses" "[I", Cond.fieldLink RX2 31 "FarReach$Placing" "sizes" "[I", Cond.methodLink RX2 92 yX0_kindOf, Cond.methodLink RX2 96 yX2_sizeAt, Cond.instanceMethod yX2_sizeAt, Cond.selects RX2 yX2_sizeAt yX2_sizeAt, Cond.code yX2_sizeAt cX2_sizeAt 3 (some .int), Cond.methodLink RX2 100 yX0_toldOf, Cond.methodLink RX2 110 yX2_isLong, Cond.instanceMethod yX2_isLong, Cond.selects RX2 yX2_isLong yX2_isLong, Cond.code yX2_isLong cX2_isLong 2 (some .boolean), Cond.static yX5_fillTo]
def wsX5_grow_r4 : List Cond := [Cond.initialized RX5, Cond.code yX5_fillTo cX5_fillTo 2 (some .int), Cond.methodLink RX2 103 yX2_noteLabel, Cond.instanceMethod yX2_noteLabel, Cond.selects RX2 yX2_noteLabel yX2_noteLabel, Cond.code yX2_noteLabel cX2_noteLabel 3 none, Cond.fieldLink RX2 34 "FarReach$Placing" "labelAddresses" "[I", Cond.methodLink RX2 107 yX2_layGap, Cond.instanceMethod yX2_layGap, Cond.selects RX2 yX2_layGap yX2_layGap, Cond.code yX2_layGap cX2_layGap 5 (some .int), Cond.methodLink RX2 117 yX4_lay, Cond.instanceMethod yX4_lay, Cond.selects RX4 yX4_lay yX4_lay, Cond.code yX4_lay cX4_lay 3 (some .int), Cond.methodLink RX4 37 yX4_isItem, Cond.static yX4_isItem, Cond.code yX4_isItem cX4_isItem 1 (some .boolean), Cond.methodLink RX2 119 yX4_isIn, Cond.instanceMethod yX4_isIn, Cond.selects RX4 yX4_isIn yX4_isIn, Cond.code yX4_isIn cX4_isIn 2 (some .boolean), Cond.methodLink RX2 72 yX2_aimItems, Cond.instanceMethod yX2_aimItems]
def wsX5_grow_r5 : List Cond := [Cond.selects RX2 yX2_aimItems yX2_aimItems, Cond.code yX2_aimItems cX2_aimItems 3 none, Cond.fieldLink RX2 37 "FarReach$Placing" "aims" "[I", Cond.methodLink RX2 122 yX2_addressOf, Cond.instanceMethod yX2_addressOf, Cond.selects RX2 yX2_addressOf yX2_addressOf, Cond.code yX2_addressOf cX2_addressOf 2 (some .int), Cond.methodLink RX2 125 yX2_constantFor, Cond.instanceMethod yX2_constantFor, Cond.selects RX2 yX2_constantFor yX2_constantFor, Cond.code yX2_constantFor cX2_constantFor 6 (some .int), Cond.methodLink RX2 135 yX4_size, Cond.instanceMethod yX4_size, Cond.selects RX4 yX4_size yX4_size, Cond.code yX4_size cX4_size 1 (some .int), Cond.methodLink RX2 128 yX4_addressOf, Cond.instanceMethod yX4_addressOf, Cond.selects RX4 yX4_addressOf yX4_addressOf, Cond.code yX4_addressOf cX4_addressOf 3 (some .int), Cond.fieldLink RX4 27 "FarReach$Stock" "returns" "[I", Cond.fieldLink RX4 30 "FarReach$Stock" "places" "[I", Cond.methodLink RX4 41 yX4_has, Cond.instanceMethod yX4_has, Cond.selects RX4 yX4_has yX4_has]
def wsX5_grow_r6 : List Cond := [Cond.code yX4_has cX4_has 2 (some .boolean), Cond.fieldLink RX4 24 "FarReach$Stock" "names" "[I", Cond.methodLink RX2 136 yX4_nameOf, Cond.instanceMethod yX4_nameOf, Cond.selects RX4 yX4_nameOf yX4_nameOf, Cond.code yX4_nameOf cX4_nameOf 2 (some .int), Cond.methodLink RX2 152 yX2_isInLoadReach, Cond.instanceMethod yX2_isInLoadReach, Cond.selects RX2 yX2_isInLoadReach yX2_isInLoadReach, Cond.code yX2_isInLoadReach cX2_isInLoadReach 3 (some .boolean), Cond.fieldLink RX2 54 "FarReach$Placing" "reaches" "[I", Cond.methodLink RX2 129 yX2_longAim, Cond.instanceMethod yX2_longAim, Cond.selects RX2 yX2_longAim yX2_longAim, Cond.code yX2_longAim cX2_longAim 3 (some .int), Cond.methodLink RX2 145 yX2_goesStraight, Cond.instanceMethod yX2_goesStraight, Cond.selects RX2 yX2_goesStraight yX2_goesStraight, Cond.code yX2_goesStraight cX2_goesStraight 3 (some .boolean), Cond.methodLink RX2 139 yX2_labelAddress, Cond.instanceMethod yX2_labelAddress, Cond.selects RX2 yX2_labelAddress yX2_labelAddress, Cond.code yX2_labelAddress cX2_labelAddress 2 (some .int), Cond.static yX5_far]
def wsX5_grow_r7 : List Cond := [Cond.code yX5_far cX5_far 2 (some .int), Cond.methodLink RX2 149 yX2_islandFor, Cond.instanceMethod yX2_islandFor, Cond.selects RX2 yX2_islandFor yX2_islandFor, Cond.code yX2_islandFor cX2_islandFor 11 (some .int), Cond.methodLink RX2 132 yX2_shortAim, Cond.instanceMethod yX2_shortAim, Cond.selects RX2 yX2_shortAim yX2_shortAim, Cond.code yX2_shortAim cX2_shortAim 4 (some .int), Cond.methodLink RX2 75 yX2_aimIslands, Cond.instanceMethod yX2_aimIslands, Cond.selects RX2 yX2_aimIslands yX2_aimIslands, Cond.code yX2_aimIslands cX2_aimIslands 2 none, Cond.fieldLink RX2 40 "FarReach$Placing" "islandAims" "[I", Cond.methodLink RX2 78 yX2_mendsOne, Cond.instanceMethod yX2_mendsOne, Cond.selects RX2 yX2_mendsOne yX2_mendsOne, Cond.code yX2_mendsOne cX2_mendsOne 2 (some .boolean), Cond.methodLink RX2 158 yX2_firstAstray, Cond.instanceMethod yX2_firstAstray, Cond.selects RX2 yX2_firstAstray yX2_firstAstray, Cond.code yX2_firstAstray cX2_firstAstray 4 (some .int), Cond.methodLink RX2 155 yX2_aimOf, Cond.instanceMethod yX2_aimOf]
def wsX5_grow_r8 : List Cond := [Cond.selects RX2 yX2_aimOf yX2_aimOf, Cond.code yX2_aimOf cX2_aimOf 2 (some .int), Cond.methodLink RX2 162 yX2_lengthens, Cond.instanceMethod yX2_lengthens, Cond.selects RX2 yX2_lengthens yX2_lengthens, Cond.code yX2_lengthens cX2_lengthens 2 (some .boolean), Cond.methodLink RX2 165 yX2_bringsConstant, Cond.instanceMethod yX2_bringsConstant, Cond.selects RX2 yX2_bringsConstant yX2_bringsConstant, Cond.code yX2_bringsConstant cX2_bringsConstant 5 (some .boolean), Cond.methodLink RX2 180 yX2_nextConstantIn, Cond.instanceMethod yX2_nextConstantIn, Cond.selects RX2 yX2_nextConstantIn yX2_nextConstantIn, Cond.code yX2_nextConstantIn cX2_nextConstantIn 3 (some .int), Cond.methodLink RX2 186 yX4_endOf, Cond.instanceMethod yX4_endOf, Cond.selects RX4 yX4_endOf yX4_endOf, Cond.code yX4_endOf cX4_endOf 2 (some .int), Cond.methodLink RX2 183 yX4_add, Cond.instanceMethod yX4_add, Cond.selects RX4 yX4_add yX4_add, Cond.code yX4_add cX4_add 3 (some .boolean), Cond.methodLink RX2 168 yX2_fails, Cond.instanceMethod yX2_fails]
def wsX5_grow_r9 : List Cond := [Cond.selects RX2 yX2_fails yX2_fails, Cond.code yX2_fails cX2_fails 3 (some .boolean), Cond.methodLink RX2 171 yX2_bringsIsland, Cond.instanceMethod yX2_bringsIsland, Cond.selects RX2 yX2_bringsIsland yX2_bringsIsland, Cond.code yX2_bringsIsland cX2_bringsIsland 9 (some .boolean), Cond.methodLink RX2 174 yX2_firstIslandAstray, Cond.instanceMethod yX2_firstIslandAstray, Cond.selects RX2 yX2_firstIslandAstray yX2_firstIslandAstray, Cond.code yX2_firstIslandAstray cX2_firstIslandAstray 2 (some .int), Cond.methodLink RX2 177 yX2_islandAimOf, Cond.instanceMethod yX2_islandAimOf, Cond.selects RX2 yX2_islandAimOf yX2_islandAimOf, Cond.code yX2_islandAimOf cX2_islandAimOf 2 (some .int)]
def wsX5_grow : List Cond := .code yX5_grow cX5_grow 4 (some .int) :: ((wsX5_grow_r1 ++ (wsX5_grow_r2 ++ (wsX5_grow_r3 ++ (wsX5_grow_r4 ++ (wsX5_grow_r5 ++ (wsX5_grow_r6 ++ (wsX5_grow_r7 ++ (wsX5_grow_r8 ++ wsX5_grow_r9)))))))) ++ wsX50 ++ wsX00 ++ wsX20 ++ wsX40)
def wsX5_item_r1 : List Cond := [Cond.fieldLink RX5 26 "FarReach" "program" "LFarReach$Items;", Cond.fieldLink RX5 39 "FarReach" "placing" "LFarReach$Placing;", Cond.methodLink RX5 88 yX0_has, Cond.instanceMethod yX0_has, Cond.selects RX0 yX0_has yX0_has, Cond.initialized RX0, Cond.code yX0_has cX0_has 2 (some .boolean), Cond.fieldLink RX0 18 "FarReach$Items" "size" "I", Cond.fieldLink RX0 9 "FarReach$Items" "kinds" "[I", Cond.fieldLink RX0 15 "FarReach$Items" "told" "[I", Cond.methodLink RX5 91 yX0_kindOf, Cond.instanceMethod yX0_kindOf, Cond.selects RX0 yX0_kindOf yX0_kindOf, Cond.code yX0_kindOf cX0_kindOf 2 (some .int), Cond.methodLink RX0 42 yX0_has, Cond.methodLink RX5 95 yX0_toldOf, Cond.instanceMethod yX0_toldOf, Cond.selects RX0 yX0_toldOf yX0_toldOf, Cond.code yX0_toldOf cX0_toldOf 2 (some .int), Cond.methodLink RX5 102 yX2_addressOf, Cond.instanceMethod yX2_addressOf, Cond.selects RX2 yX2_addressOf yX2_addressOf, Cond.initialized RX2, Cond.code yX2_addressOf cX2_addressOf 2 (some .int)]
def wsX5_item_r2 : List Cond := [Cond.fieldLink RX2 27 "FarReach$Placing" "addresses" "[I", Cond.methodLink RX5 105 yX2_sizeOf, Cond.instanceMethod yX2_sizeOf, Cond.selects RX2 yX2_sizeOf yX2_sizeOf, Cond.code yX2_sizeOf cX2_sizeOf 2 (some .int), Cond.fieldLink RX2 31 "FarReach$Placing" "sizes" "[I", Cond.methodLink RX5 108 yX2_isLong, Cond.instanceMethod yX2_isLong, Cond.selects RX2 yX2_isLong yX2_isLong, Cond.code yX2_isLong cX2_isLong 2 (some .boolean), Cond.fieldLink RX2 23 "FarReach$Placing" "longs" "[Z", Cond.methodLink RX5 111 yX2_aimOf, Cond.instanceMethod yX2_aimOf, Cond.selects RX2 yX2_aimOf yX2_aimOf, Cond.code yX2_aimOf cX2_aimOf 2 (some .int), Cond.fieldLink RX2 37 "FarReach$Placing" "aims" "[I"]
def wsX5_item : List Cond := .code yX5_item cX5_item 3 (some .int) :: ((wsX5_item_r1 ++ wsX5_item_r2) ++ wsX50 ++ wsX00 ++ wsX20)
def wsX5_island_r1 : List Cond := [Cond.fieldLink RX5 39 "FarReach" "placing" "LFarReach$Placing;", Cond.methodLink RX5 118 yX4_has, Cond.instanceMethod yX4_has, Cond.selects RX4 yX4_has yX4_has, Cond.initialized RX4, Cond.code yX4_has cX4_has 2 (some .boolean), Cond.fieldLink RX4 33 "FarReach$Stock" "size" "I", Cond.fieldLink RX4 24 "FarReach$Stock" "names" "[I", Cond.methodLink RX5 121 yX4_nameOf, Cond.instanceMethod yX4_nameOf, Cond.selects RX4 yX4_nameOf yX4_nameOf, Cond.code yX4_nameOf cX4_nameOf 2 (some .int), Cond.methodLink RX4 41 yX4_has, Cond.methodLink RX5 124 yX4_returnOf, Cond.instanceMethod yX4_returnOf, Cond.selects RX4 yX4_returnOf yX4_returnOf, Cond.code yX4_returnOf cX4_returnOf 2 (some .int), Cond.fieldLink RX4 27 "FarReach$Stock" "returns" "[I", Cond.methodLink RX5 127 yX4_addressOf, Cond.instanceMethod yX4_addressOf, Cond.selects RX4 yX4_addressOf yX4_addressOf, Cond.code yX4_addressOf cX4_addressOf 3 (some .int), Cond.fieldLink RX4 15 "FarReach$Stock" "starts" "[I", Cond.fieldLink RX4 30 "FarReach$Stock" "places" "[I"]
def wsX5_island_r2 : List Cond := [Cond.methodLink RX4 37 yX4_isItem, Cond.static yX4_isItem, Cond.code yX4_isItem cX4_isItem 1 (some .boolean), Cond.methodLink RX5 128 yX2_islandAimOf, Cond.instanceMethod yX2_islandAimOf, Cond.selects RX2 yX2_islandAimOf yX2_islandAimOf, Cond.initialized RX2, Cond.code yX2_islandAimOf cX2_islandAimOf 2 (some .int), Cond.fieldLink RX2 40 "FarReach$Placing" "islandAims" "[I"]
def wsX5_island : List Cond := .code yX5_island cX5_island 4 (some .int) :: ((wsX5_island_r1 ++ wsX5_island_r2) ++ wsX50 ++ wsX20 ++ wsX40)
def wsX5_constant_r1 : List Cond := [Cond.fieldLink RX5 39 "FarReach" "placing" "LFarReach$Placing;", Cond.methodLink RX5 118 yX4_has, Cond.instanceMethod yX4_has, Cond.selects RX4 yX4_has yX4_has, Cond.initialized RX4, Cond.code yX4_has cX4_has 2 (some .boolean), Cond.fieldLink RX4 33 "FarReach$Stock" "size" "I", Cond.fieldLink RX4 24 "FarReach$Stock" "names" "[I", Cond.methodLink RX5 121 yX4_nameOf, Cond.instanceMethod yX4_nameOf, Cond.selects RX4 yX4_nameOf yX4_nameOf, Cond.code yX4_nameOf cX4_nameOf 2 (some .int), Cond.methodLink RX4 41 yX4_has, Cond.methodLink RX5 124 yX4_returnOf, Cond.instanceMethod yX4_returnOf, Cond.selects RX4 yX4_returnOf yX4_returnOf, Cond.code yX4_returnOf cX4_returnOf 2 (some .int), Cond.fieldLink RX4 27 "FarReach$Stock" "returns" "[I", Cond.methodLink RX5 127 yX4_addressOf, Cond.instanceMethod yX4_addressOf, Cond.selects RX4 yX4_addressOf yX4_addressOf, Cond.code yX4_addressOf cX4_addressOf 3 (some .int), Cond.fieldLink RX4 15 "FarReach$Stock" "starts" "[I", Cond.fieldLink RX4 30 "FarReach$Stock" "places" "[I"]
def wsX5_constant_r2 : List Cond := [Cond.methodLink RX4 37 yX4_isItem, Cond.static yX4_isItem, Cond.code yX4_isItem cX4_isItem 1 (some .boolean), Cond.methodLink RX5 134 yX2_loadsOf, Cond.instanceMethod yX2_loadsOf, Cond.selects RX2 yX2_loadsOf yX2_loadsOf, Cond.initialized RX2, Cond.code yX2_loadsOf cX2_loadsOf 5 (some .int), Cond.fieldLink RX2 20 "FarReach$Placing" "constants" "LFarReach$Stock;", Cond.fieldLink RX2 50 "FarReach$Placing" "program" "LFarReach$Items;", Cond.methodLink RX2 128 yX4_addressOf, Cond.methodLink RX2 60 yX0_size, Cond.instanceMethod yX0_size, Cond.selects RX0 yX0_size yX0_size, Cond.initialized RX0, Cond.code yX0_size cX0_size 1 (some .int), Cond.fieldLink RX0 18 "FarReach$Items" "size" "I", Cond.methodLink RX2 92 yX0_kindOf, Cond.instanceMethod yX0_kindOf, Cond.selects RX0 yX0_kindOf yX0_kindOf, Cond.code yX0_kindOf cX0_kindOf 2 (some .int), Cond.fieldLink RX0 9 "FarReach$Items" "kinds" "[I", Cond.methodLink RX0 42 yX0_has, Cond.instanceMethod yX0_has]
def wsX5_constant_r3 : List Cond := [Cond.selects RX0 yX0_has yX0_has, Cond.code yX0_has cX0_has 2 (some .boolean), Cond.fieldLink RX0 15 "FarReach$Items" "told" "[I", Cond.methodLink RX2 155 yX2_aimOf, Cond.instanceMethod yX2_aimOf, Cond.selects RX2 yX2_aimOf yX2_aimOf, Cond.code yX2_aimOf cX2_aimOf 2 (some .int), Cond.fieldLink RX2 37 "FarReach$Placing" "aims" "[I"]
def wsX5_constant : List Cond := .code yX5_constant cX5_constant 4 (some .int) :: ((wsX5_constant_r1 ++ (wsX5_constant_r2 ++ wsX5_constant_r3)) ++ wsX50 ++ wsX20 ++ wsX40 ++ wsX00)
def wsX5_hops_r1 : List Cond := [Cond.fieldLink RX5 26 "FarReach" "program" "LFarReach$Items;", Cond.fieldLink RX5 39 "FarReach" "placing" "LFarReach$Placing;", Cond.methodLink RX5 88 yX0_has, Cond.instanceMethod yX0_has, Cond.selects RX0 yX0_has yX0_has, Cond.initialized RX0, Cond.code yX0_has cX0_has 2 (some .boolean), Cond.fieldLink RX0 18 "FarReach$Items" "size" "I", Cond.fieldLink RX0 9 "FarReach$Items" "kinds" "[I", Cond.fieldLink RX0 15 "FarReach$Items" "told" "[I", Cond.methodLink RX5 91 yX0_kindOf, Cond.instanceMethod yX0_kindOf, Cond.selects RX0 yX0_kindOf yX0_kindOf, Cond.code yX0_kindOf cX0_kindOf 2 (some .int), Cond.methodLink RX0 42 yX0_has, Cond.methodLink RX5 137 yX2_hopsFrom, Cond.instanceMethod yX2_hopsFrom, Cond.selects RX2 yX2_hopsFrom yX2_hopsFrom, Cond.initialized RX2, Cond.code yX2_hopsFrom cX2_hopsFrom 6 (some .int), Cond.fieldLink RX2 50 "FarReach$Placing" "program" "LFarReach$Items;", Cond.fieldLink RX2 14 "FarReach$Placing" "islands" "LFarReach$Stock;", Cond.methodLink RX2 100 yX0_toldOf, Cond.instanceMethod yX0_toldOf]
def wsX5_hops_r2 : List Cond := [Cond.selects RX0 yX0_toldOf yX0_toldOf, Cond.code yX0_toldOf cX0_toldOf 2 (some .int), Cond.methodLink RX2 122 yX2_addressOf, Cond.instanceMethod yX2_addressOf, Cond.selects RX2 yX2_addressOf yX2_addressOf, Cond.code yX2_addressOf cX2_addressOf 2 (some .int), Cond.fieldLink RX2 27 "FarReach$Placing" "addresses" "[I", Cond.methodLink RX2 110 yX2_isLong, Cond.instanceMethod yX2_isLong, Cond.selects RX2 yX2_isLong yX2_isLong, Cond.code yX2_isLong cX2_isLong 2 (some .boolean), Cond.fieldLink RX2 23 "FarReach$Placing" "longs" "[Z", Cond.methodLink RX2 155 yX2_aimOf, Cond.instanceMethod yX2_aimOf, Cond.selects RX2 yX2_aimOf yX2_aimOf, Cond.code yX2_aimOf cX2_aimOf 2 (some .int), Cond.fieldLink RX2 37 "FarReach$Placing" "aims" "[I", Cond.methodLink RX2 145 yX2_goesStraight, Cond.instanceMethod yX2_goesStraight, Cond.selects RX2 yX2_goesStraight yX2_goesStraight, Cond.code yX2_goesStraight cX2_goesStraight 3 (some .boolean), Cond.fieldLink RX2 54 "FarReach$Placing" "reaches" "[I", Cond.methodLink RX2 139 yX2_labelAddress, Cond.instanceMethod yX2_labelAddress]
def wsX5_hops_r3 : List Cond := [Cond.selects RX2 yX2_labelAddress yX2_labelAddress, Cond.code yX2_labelAddress cX2_labelAddress 2 (some .int), Cond.fieldLink RX2 34 "FarReach$Placing" "labelAddresses" "[I", Cond.static yX5_far, Cond.initialized RX5, Cond.code yX5_far cX5_far 2 (some .int), Cond.methodLink RX2 149 yX2_islandFor, Cond.instanceMethod yX2_islandFor, Cond.selects RX2 yX2_islandFor yX2_islandFor, Cond.code yX2_islandFor cX2_islandFor 11 (some .int), Cond.methodLink RX2 135 yX4_size, Cond.instanceMethod yX4_size, Cond.selects RX4 yX4_size yX4_size, Cond.initialized RX4, Cond.code yX4_size cX4_size 1 (some .int), Cond.fieldLink RX4 33 "FarReach$Stock" "size" "I", Cond.methodLink RX2 128 yX4_addressOf, Cond.instanceMethod yX4_addressOf, Cond.selects RX4 yX4_addressOf yX4_addressOf, Cond.code yX4_addressOf cX4_addressOf 3 (some .int), Cond.fieldLink RX4 27 "FarReach$Stock" "returns" "[I", Cond.fieldLink RX4 15 "FarReach$Stock" "starts" "[I", Cond.fieldLink RX4 30 "FarReach$Stock" "places" "[I", Cond.methodLink RX4 41 yX4_has]
def wsX5_hops_r4 : List Cond := [Cond.instanceMethod yX4_has, Cond.selects RX4 yX4_has yX4_has, Cond.code yX4_has cX4_has 2 (some .boolean), Cond.fieldLink RX4 24 "FarReach$Stock" "names" "[I", Cond.methodLink RX4 37 yX4_isItem, Cond.static yX4_isItem, Cond.code yX4_isItem cX4_isItem 1 (some .boolean), Cond.methodLink RX2 136 yX4_nameOf, Cond.instanceMethod yX4_nameOf, Cond.selects RX4 yX4_nameOf yX4_nameOf, Cond.code yX4_nameOf cX4_nameOf 2 (some .int)]
def wsX5_hops : List Cond := .code yX5_hops cX5_hops 2 (some .int) :: ((wsX5_hops_r1 ++ (wsX5_hops_r2 ++ (wsX5_hops_r3 ++ wsX5_hops_r4))) ++ wsX50 ++ wsX00 ++ wsX20 ++ wsX40)
def wsX5_placed : List Cond := .code yX5_placed cX5_placed 2 (some .int) :: ([.fieldLink RX5 39 "FarReach" "placing" "LFarReach$Placing;", .methodLink RX5 155 yX4_size, .instanceMethod yX4_size, .selects RX4 yX4_size yX4_size, .initialized RX4, .code yX4_size cX4_size 1 (some .int), .fieldLink RX4 33 "FarReach$Stock" "size" "I"] ++ wsX50 ++ wsX20 ++ wsX40)
def wsX5_count : List Cond := .code yX5_count cX5_count 2 (some .int) :: ([.fieldLink RX5 26 "FarReach" "program" "LFarReach$Items;", .fieldLink RX5 12 "FarReach" "page" "LFarReach$Page;", .fieldLink RX5 30 "FarReach" "reaches" "[I", .fieldLink RX5 69 "FarReach" "timesRead" "I", .fieldLink RX5 85 "FarReach" "timesAltered" "I", .methodLink RX5 76 yX0_size, .instanceMethod yX0_size, .selects RX0 yX0_size yX0_size, .initialized RX0, .code yX0_size cX0_size 1 (some .int), .fieldLink RX0 18 "FarReach$Items" "size" "I", .methodLink RX5 47 yX1_length, .instanceMethod yX1_length, .selects RX1 yX1_length yX1_length, .initialized RX1, .code yX1_length cX1_length 1 (some .int), .fieldLink RX1 15 "FarReach$Page" "length" "I", .methodLink RX5 159 yX0_gaps, .instanceMethod yX0_gaps, .selects RX0 yX0_gaps yX0_gaps, .code yX0_gaps cX0_gaps 1 (some .int), .fieldLink RX0 22 "FarReach$Items" "gaps" "I"] ++ wsX50 ++ wsX00 ++ wsX10)
def wsX5_digestItems_r1 : List Cond := [Cond.fieldLink RX5 26 "FarReach" "program" "LFarReach$Items;", Cond.constantLong RX5 174 (31), Cond.methodLink RX5 76 yX0_size, Cond.instanceMethod yX0_size, Cond.selects RX0 yX0_size yX0_size, Cond.initialized RX0, Cond.code yX0_size cX0_size 1 (some .int), Cond.fieldLink RX0 18 "FarReach$Items" "size" "I", Cond.methodLink RX5 185 yX5_item, Cond.instanceMethod yX5_item, Cond.selects RX5 yX5_item yX5_item, Cond.initialized RX5, Cond.code yX5_item cX5_item 3 (some .int), Cond.fieldLink RX5 39 "FarReach" "placing" "LFarReach$Placing;", Cond.methodLink RX5 88 yX0_has, Cond.instanceMethod yX0_has, Cond.selects RX0 yX0_has yX0_has, Cond.code yX0_has cX0_has 2 (some .boolean), Cond.fieldLink RX0 9 "FarReach$Items" "kinds" "[I", Cond.fieldLink RX0 15 "FarReach$Items" "told" "[I", Cond.methodLink RX5 91 yX0_kindOf, Cond.instanceMethod yX0_kindOf, Cond.selects RX0 yX0_kindOf yX0_kindOf, Cond.code yX0_kindOf cX0_kindOf 2 (some .int)]
def wsX5_digestItems_r2 : List Cond := [Cond.methodLink RX0 42 yX0_has, Cond.methodLink RX5 95 yX0_toldOf, Cond.instanceMethod yX0_toldOf, Cond.selects RX0 yX0_toldOf yX0_toldOf, Cond.code yX0_toldOf cX0_toldOf 2 (some .int), Cond.methodLink RX5 102 yX2_addressOf, Cond.instanceMethod yX2_addressOf, Cond.selects RX2 yX2_addressOf yX2_addressOf, Cond.initialized RX2, Cond.code yX2_addressOf cX2_addressOf 2 (some .int), Cond.fieldLink RX2 27 "FarReach$Placing" "addresses" "[I", Cond.methodLink RX5 105 yX2_sizeOf, Cond.instanceMethod yX2_sizeOf, Cond.selects RX2 yX2_sizeOf yX2_sizeOf, Cond.code yX2_sizeOf cX2_sizeOf 2 (some .int), Cond.fieldLink RX2 31 "FarReach$Placing" "sizes" "[I", Cond.methodLink RX5 108 yX2_isLong, Cond.instanceMethod yX2_isLong, Cond.selects RX2 yX2_isLong yX2_isLong, Cond.code yX2_isLong cX2_isLong 2 (some .boolean), Cond.fieldLink RX2 23 "FarReach$Placing" "longs" "[Z", Cond.methodLink RX5 111 yX2_aimOf, Cond.instanceMethod yX2_aimOf, Cond.selects RX2 yX2_aimOf yX2_aimOf]
def wsX5_digestItems_r3 : List Cond := [Cond.code yX2_aimOf cX2_aimOf 2 (some .int), Cond.fieldLink RX2 37 "FarReach$Placing" "aims" "[I"]
def wsX5_digestItems : List Cond := .code yX5_digestItems cX5_digestItems 7 (some .long) :: ((wsX5_digestItems_r1 ++ (wsX5_digestItems_r2 ++ wsX5_digestItems_r3)) ++ wsX50 ++ wsX00 ++ wsX20)
def wsX5_digestIslands_r1 : List Cond := [Cond.fieldLink RX5 39 "FarReach" "placing" "LFarReach$Placing;", Cond.constantLong RX5 174 (31), Cond.methodLink RX5 155 yX4_size, Cond.instanceMethod yX4_size, Cond.selects RX4 yX4_size yX4_size, Cond.initialized RX4, Cond.code yX4_size cX4_size 1 (some .int), Cond.fieldLink RX4 33 "FarReach$Stock" "size" "I", Cond.methodLink RX5 189 yX5_island, Cond.instanceMethod yX5_island, Cond.selects RX5 yX5_island yX5_island, Cond.initialized RX5, Cond.code yX5_island cX5_island 4 (some .int), Cond.methodLink RX5 118 yX4_has, Cond.instanceMethod yX4_has, Cond.selects RX4 yX4_has yX4_has, Cond.code yX4_has cX4_has 2 (some .boolean), Cond.fieldLink RX4 24 "FarReach$Stock" "names" "[I", Cond.methodLink RX5 121 yX4_nameOf, Cond.instanceMethod yX4_nameOf, Cond.selects RX4 yX4_nameOf yX4_nameOf, Cond.code yX4_nameOf cX4_nameOf 2 (some .int), Cond.methodLink RX4 41 yX4_has, Cond.methodLink RX5 124 yX4_returnOf]
def wsX5_digestIslands_r2 : List Cond := [Cond.instanceMethod yX4_returnOf, Cond.selects RX4 yX4_returnOf yX4_returnOf, Cond.code yX4_returnOf cX4_returnOf 2 (some .int), Cond.fieldLink RX4 27 "FarReach$Stock" "returns" "[I", Cond.methodLink RX5 127 yX4_addressOf, Cond.instanceMethod yX4_addressOf, Cond.selects RX4 yX4_addressOf yX4_addressOf, Cond.code yX4_addressOf cX4_addressOf 3 (some .int), Cond.fieldLink RX4 15 "FarReach$Stock" "starts" "[I", Cond.fieldLink RX4 30 "FarReach$Stock" "places" "[I", Cond.methodLink RX4 37 yX4_isItem, Cond.static yX4_isItem, Cond.code yX4_isItem cX4_isItem 1 (some .boolean), Cond.methodLink RX5 128 yX2_islandAimOf, Cond.instanceMethod yX2_islandAimOf, Cond.selects RX2 yX2_islandAimOf yX2_islandAimOf, Cond.initialized RX2, Cond.code yX2_islandAimOf cX2_islandAimOf 2 (some .int), Cond.fieldLink RX2 40 "FarReach$Placing" "islandAims" "[I"]
def wsX5_digestIslands : List Cond := .code yX5_digestIslands cX5_digestIslands 7 (some .long) :: ((wsX5_digestIslands_r1 ++ wsX5_digestIslands_r2) ++ wsX50 ++ wsX20 ++ wsX40)
def wsX5_digestConstants_r1 : List Cond := [Cond.fieldLink RX5 39 "FarReach" "placing" "LFarReach$Placing;", Cond.constantLong RX5 174 (31), Cond.methodLink RX5 155 yX4_size, Cond.instanceMethod yX4_size, Cond.selects RX4 yX4_size yX4_size, Cond.initialized RX4, Cond.code yX4_size cX4_size 1 (some .int), Cond.fieldLink RX4 33 "FarReach$Stock" "size" "I", Cond.methodLink RX5 192 yX5_constant, Cond.instanceMethod yX5_constant, Cond.selects RX5 yX5_constant yX5_constant, Cond.initialized RX5, Cond.code yX5_constant cX5_constant 4 (some .int), Cond.methodLink RX5 118 yX4_has, Cond.instanceMethod yX4_has, Cond.selects RX4 yX4_has yX4_has, Cond.code yX4_has cX4_has 2 (some .boolean), Cond.fieldLink RX4 24 "FarReach$Stock" "names" "[I", Cond.methodLink RX5 121 yX4_nameOf, Cond.instanceMethod yX4_nameOf, Cond.selects RX4 yX4_nameOf yX4_nameOf, Cond.code yX4_nameOf cX4_nameOf 2 (some .int), Cond.methodLink RX4 41 yX4_has, Cond.methodLink RX5 124 yX4_returnOf]
def wsX5_digestConstants_r2 : List Cond := [Cond.instanceMethod yX4_returnOf, Cond.selects RX4 yX4_returnOf yX4_returnOf, Cond.code yX4_returnOf cX4_returnOf 2 (some .int), Cond.fieldLink RX4 27 "FarReach$Stock" "returns" "[I", Cond.methodLink RX5 127 yX4_addressOf, Cond.instanceMethod yX4_addressOf, Cond.selects RX4 yX4_addressOf yX4_addressOf, Cond.code yX4_addressOf cX4_addressOf 3 (some .int), Cond.fieldLink RX4 15 "FarReach$Stock" "starts" "[I", Cond.fieldLink RX4 30 "FarReach$Stock" "places" "[I", Cond.methodLink RX4 37 yX4_isItem, Cond.static yX4_isItem, Cond.code yX4_isItem cX4_isItem 1 (some .boolean), Cond.methodLink RX5 134 yX2_loadsOf, Cond.instanceMethod yX2_loadsOf, Cond.selects RX2 yX2_loadsOf yX2_loadsOf, Cond.initialized RX2, Cond.code yX2_loadsOf cX2_loadsOf 5 (some .int), Cond.fieldLink RX2 20 "FarReach$Placing" "constants" "LFarReach$Stock;", Cond.fieldLink RX2 50 "FarReach$Placing" "program" "LFarReach$Items;", Cond.methodLink RX2 128 yX4_addressOf, Cond.methodLink RX2 60 yX0_size, Cond.instanceMethod yX0_size, Cond.selects RX0 yX0_size yX0_size]
def wsX5_digestConstants_r3 : List Cond := [Cond.initialized RX0, Cond.code yX0_size cX0_size 1 (some .int), Cond.fieldLink RX0 18 "FarReach$Items" "size" "I", Cond.methodLink RX2 92 yX0_kindOf, Cond.instanceMethod yX0_kindOf, Cond.selects RX0 yX0_kindOf yX0_kindOf, Cond.code yX0_kindOf cX0_kindOf 2 (some .int), Cond.fieldLink RX0 9 "FarReach$Items" "kinds" "[I", Cond.methodLink RX0 42 yX0_has, Cond.instanceMethod yX0_has, Cond.selects RX0 yX0_has yX0_has, Cond.code yX0_has cX0_has 2 (some .boolean), Cond.fieldLink RX0 15 "FarReach$Items" "told" "[I", Cond.methodLink RX2 155 yX2_aimOf, Cond.instanceMethod yX2_aimOf, Cond.selects RX2 yX2_aimOf yX2_aimOf, Cond.code yX2_aimOf cX2_aimOf 2 (some .int), Cond.fieldLink RX2 37 "FarReach$Placing" "aims" "[I"]
def wsX5_digestConstants : List Cond := .code yX5_digestConstants cX5_digestConstants 7 (some .long) :: ((wsX5_digestConstants_r1 ++ (wsX5_digestConstants_r2 ++ wsX5_digestConstants_r3)) ++ wsX50 ++ wsX20 ++ wsX40 ++ wsX00)
def wsX5_digest_r1 : List Cond := [Cond.constantLong RX5 162 (1637), Cond.constantLong RX5 174 (31), Cond.fieldLink RX5 12 "FarReach" "page" "LFarReach$Page;", Cond.methodLink RX5 164 yX5_digestItems, Cond.instanceMethod yX5_digestItems, Cond.selects RX5 yX5_digestItems yX5_digestItems, Cond.initialized RX5, Cond.code yX5_digestItems cX5_digestItems 7 (some .long), Cond.fieldLink RX5 26 "FarReach" "program" "LFarReach$Items;", Cond.methodLink RX5 76 yX0_size, Cond.instanceMethod yX0_size, Cond.selects RX0 yX0_size yX0_size, Cond.initialized RX0, Cond.code yX0_size cX0_size 1 (some .int), Cond.fieldLink RX0 18 "FarReach$Items" "size" "I", Cond.methodLink RX5 185 yX5_item, Cond.instanceMethod yX5_item, Cond.selects RX5 yX5_item yX5_item, Cond.code yX5_item cX5_item 3 (some .int), Cond.fieldLink RX5 39 "FarReach" "placing" "LFarReach$Placing;", Cond.methodLink RX5 88 yX0_has, Cond.instanceMethod yX0_has, Cond.selects RX0 yX0_has yX0_has, Cond.code yX0_has cX0_has 2 (some .boolean)]
def wsX5_digest_r2 : List Cond := [Cond.fieldLink RX0 9 "FarReach$Items" "kinds" "[I", Cond.fieldLink RX0 15 "FarReach$Items" "told" "[I", Cond.methodLink RX5 91 yX0_kindOf, Cond.instanceMethod yX0_kindOf, Cond.selects RX0 yX0_kindOf yX0_kindOf, Cond.code yX0_kindOf cX0_kindOf 2 (some .int), Cond.methodLink RX0 42 yX0_has, Cond.methodLink RX5 95 yX0_toldOf, Cond.instanceMethod yX0_toldOf, Cond.selects RX0 yX0_toldOf yX0_toldOf, Cond.code yX0_toldOf cX0_toldOf 2 (some .int), Cond.methodLink RX5 102 yX2_addressOf, Cond.instanceMethod yX2_addressOf, Cond.selects RX2 yX2_addressOf yX2_addressOf, Cond.initialized RX2, Cond.code yX2_addressOf cX2_addressOf 2 (some .int), Cond.fieldLink RX2 27 "FarReach$Placing" "addresses" "[I", Cond.methodLink RX5 105 yX2_sizeOf, Cond.instanceMethod yX2_sizeOf, Cond.selects RX2 yX2_sizeOf yX2_sizeOf, Cond.code yX2_sizeOf cX2_sizeOf 2 (some .int), Cond.fieldLink RX2 31 "FarReach$Placing" "sizes" "[I", Cond.methodLink RX5 108 yX2_isLong, Cond.instanceMethod yX2_isLong]
def wsX5_digest_r3 : List Cond := [Cond.selects RX2 yX2_isLong yX2_isLong, Cond.code yX2_isLong cX2_isLong 2 (some .boolean), Cond.fieldLink RX2 23 "FarReach$Placing" "longs" "[Z", Cond.methodLink RX5 111 yX2_aimOf, Cond.instanceMethod yX2_aimOf, Cond.selects RX2 yX2_aimOf yX2_aimOf, Cond.code yX2_aimOf cX2_aimOf 2 (some .int), Cond.fieldLink RX2 37 "FarReach$Placing" "aims" "[I", Cond.methodLink RX5 168 yX5_digestIslands, Cond.instanceMethod yX5_digestIslands, Cond.selects RX5 yX5_digestIslands yX5_digestIslands, Cond.code yX5_digestIslands cX5_digestIslands 7 (some .long), Cond.methodLink RX5 155 yX4_size, Cond.instanceMethod yX4_size, Cond.selects RX4 yX4_size yX4_size, Cond.initialized RX4, Cond.code yX4_size cX4_size 1 (some .int), Cond.fieldLink RX4 33 "FarReach$Stock" "size" "I", Cond.methodLink RX5 189 yX5_island, Cond.instanceMethod yX5_island, Cond.selects RX5 yX5_island yX5_island, Cond.code yX5_island cX5_island 4 (some .int), Cond.methodLink RX5 118 yX4_has, Cond.instanceMethod yX4_has]
def wsX5_digest_r4 : List Cond := [Cond.selects RX4 yX4_has yX4_has, Cond.code yX4_has cX4_has 2 (some .boolean), Cond.fieldLink RX4 24 "FarReach$Stock" "names" "[I", Cond.methodLink RX5 121 yX4_nameOf, Cond.instanceMethod yX4_nameOf, Cond.selects RX4 yX4_nameOf yX4_nameOf, Cond.code yX4_nameOf cX4_nameOf 2 (some .int), Cond.methodLink RX4 41 yX4_has, Cond.methodLink RX5 124 yX4_returnOf, Cond.instanceMethod yX4_returnOf, Cond.selects RX4 yX4_returnOf yX4_returnOf, Cond.code yX4_returnOf cX4_returnOf 2 (some .int), Cond.fieldLink RX4 27 "FarReach$Stock" "returns" "[I", Cond.methodLink RX5 127 yX4_addressOf, Cond.instanceMethod yX4_addressOf, Cond.selects RX4 yX4_addressOf yX4_addressOf, Cond.code yX4_addressOf cX4_addressOf 3 (some .int), Cond.fieldLink RX4 15 "FarReach$Stock" "starts" "[I", Cond.fieldLink RX4 30 "FarReach$Stock" "places" "[I", Cond.methodLink RX4 37 yX4_isItem, Cond.static yX4_isItem, Cond.code yX4_isItem cX4_isItem 1 (some .boolean), Cond.methodLink RX5 128 yX2_islandAimOf, Cond.instanceMethod yX2_islandAimOf]
def wsX5_digest_r5 : List Cond := [Cond.selects RX2 yX2_islandAimOf yX2_islandAimOf, Cond.code yX2_islandAimOf cX2_islandAimOf 2 (some .int), Cond.fieldLink RX2 40 "FarReach$Placing" "islandAims" "[I", Cond.methodLink RX5 171 yX5_digestConstants, Cond.instanceMethod yX5_digestConstants, Cond.selects RX5 yX5_digestConstants yX5_digestConstants, Cond.code yX5_digestConstants cX5_digestConstants 7 (some .long), Cond.methodLink RX5 192 yX5_constant, Cond.instanceMethod yX5_constant, Cond.selects RX5 yX5_constant yX5_constant, Cond.code yX5_constant cX5_constant 4 (some .int), Cond.methodLink RX5 134 yX2_loadsOf, Cond.instanceMethod yX2_loadsOf, Cond.selects RX2 yX2_loadsOf yX2_loadsOf, Cond.code yX2_loadsOf cX2_loadsOf 5 (some .int), Cond.fieldLink RX2 20 "FarReach$Placing" "constants" "LFarReach$Stock;", Cond.fieldLink RX2 50 "FarReach$Placing" "program" "LFarReach$Items;", Cond.methodLink RX2 128 yX4_addressOf, Cond.methodLink RX2 60 yX0_size, Cond.methodLink RX2 92 yX0_kindOf, Cond.methodLink RX2 155 yX2_aimOf, Cond.methodLink RX5 176 yX5_placed, Cond.instanceMethod yX5_placed, Cond.selects RX5 yX5_placed yX5_placed]
def wsX5_digest_r6 : List Cond := [Cond.code yX5_placed cX5_placed 2 (some .int), Cond.methodLink RX5 47 yX1_length, Cond.instanceMethod yX1_length, Cond.selects RX1 yX1_length yX1_length, Cond.initialized RX1, Cond.code yX1_length cX1_length 1 (some .int), Cond.fieldLink RX1 15 "FarReach$Page" "length" "I", Cond.methodLink RX5 179 yX1_letterAt, Cond.instanceMethod yX1_letterAt, Cond.selects RX1 yX1_letterAt yX1_letterAt, Cond.code yX1_letterAt cX1_letterAt 2 (some .int), Cond.fieldLink RX1 9 "FarReach$Page" "letters" "[I", Cond.methodLink RX5 182 yX5_count, Cond.instanceMethod yX5_count, Cond.selects RX5 yX5_count yX5_count, Cond.code yX5_count cX5_count 2 (some .int), Cond.fieldLink RX5 30 "FarReach" "reaches" "[I", Cond.fieldLink RX5 69 "FarReach" "timesRead" "I", Cond.fieldLink RX5 85 "FarReach" "timesAltered" "I", Cond.methodLink RX5 159 yX0_gaps, Cond.instanceMethod yX0_gaps, Cond.selects RX0 yX0_gaps yX0_gaps, Cond.code yX0_gaps cX0_gaps 1 (some .int), Cond.fieldLink RX0 22 "FarReach$Items" "gaps" "I"]
def wsX5_digest : List Cond := .code yX5_digest cX5_digest 4 (some .long) :: ((wsX5_digest_r1 ++ (wsX5_digest_r2 ++ (wsX5_digest_r3 ++ (wsX5_digest_r4 ++ (wsX5_digest_r5 ++ wsX5_digest_r6))))) ++ wsX50 ++ wsX00 ++ wsX20 ++ wsX40 ++ wsX10)
def wsX6_init : List Cond := .code yX6_init cX6_init 1 none :: ([.methodLink RX6 1 objectInit, .instanceMethod objectInit, .code objectInit ⟨#[0xb1]⟩ 1 none, .arrayClass .int, .fieldLink RX6 7 "FarReachModel" "page" "[I", .fieldLink RX6 13 "FarReachModel" "kindOf" "[I", .fieldLink RX6 16 "FarReachModel" "toldOf" "[I", .fieldLink RX6 19 "FarReachModel" "reaches" "[I", .fieldLink RX6 22 "FarReachModel" "newKind" "[I", .fieldLink RX6 25 "FarReachModel" "newTold" "[I", .arrayClass .boolean, .fieldLink RX6 28 "FarReachModel" "isLong" "[Z", .fieldLink RX6 32 "FarReachModel" "islandLabel" "[I", .fieldLink RX6 35 "FarReachModel" "islandGap" "[I", .fieldLink RX6 38 "FarReachModel" "constantValue" "[I", .fieldLink RX6 41 "FarReachModel" "constantGap" "[I", .fieldLink RX6 44 "FarReachModel" "addressOf" "[I", .fieldLink RX6 47 "FarReachModel" "islandAt" "[I", .fieldLink RX6 50 "FarReachModel" "constantAt" "[I", .fieldLink RX6 53 "FarReachModel" "islandsEnd" "[I", .fieldLink RX6 56 "FarReachModel" "constantsEnd" "[I", .fieldLink RX6 59 "FarReachModel" "labelAt" "[I", .fieldLink RX6 62 "FarReachModel" "isGood" "Z", .fieldLink RX6 66 "FarReachModel" "failsAt" "I"] ++ wsX60)
def wsX6_within : List Cond := .code yX6_within cX6_within 3 (some .boolean) :: ([])
def wsX6_letter : List Cond := .code yX6_letter cX6_letter 2 (some .int) :: ([.fieldLink RX6 74 "FarReachModel" "pageLength" "I", .fieldLink RX6 7 "FarReachModel" "page" "[I", .methodLink RX6 70 yX6_within, .static yX6_within, .initialized RX6, .code yX6_within cX6_within 3 (some .boolean)] ++ wsX60)
def wsX6_blank : List Cond := .code yX6_blank cX6_blank 2 (some .int) :: ([.fieldLink RX6 74 "FarReachModel" "pageLength" "I"] ++ wsX60)
def wsX6_kindBy : List Cond := .code yX6_kindBy cX6_kindBy 1 (some .int) :: ([])
def wsX6_keepItem : List Cond := .code yX6_keepItem cX6_keepItem 3 none :: ([.fieldLink RX6 22 "FarReachModel" "newKind" "[I", .fieldLink RX6 77 "FarReachModel" "newItems" "I", .fieldLink RX6 25 "FarReachModel" "newTold" "[I", .fieldLink RX6 80 "FarReachModel" "begun" "I"] ++ wsX60)
def wsX6_takesFirst : List Cond := .code yX6_takesFirst cX6_takesFirst 3 (some .boolean) :: ([.fieldLink RX6 77 "FarReachModel" "newItems" "I", .fieldLink RX6 80 "FarReachModel" "begun" "I", .methodLink RX6 83 yX6_kindBy, .static yX6_kindBy, .initialized RX6, .code yX6_kindBy cX6_kindBy 1 (some .int), .methodLink RX6 87 yX6_keepItem, .instanceMethod yX6_keepItem, .selects RX6 yX6_keepItem yX6_keepItem, .code yX6_keepItem cX6_keepItem 3 none, .fieldLink RX6 22 "FarReachModel" "newKind" "[I", .fieldLink RX6 25 "FarReachModel" "newTold" "[I"] ++ wsX60)
def wsX6_takesLetter : List Cond := .code yX6_takesLetter cX6_takesLetter 3 (some .boolean) :: ([.fieldLink RX6 80 "FarReachModel" "begun" "I", .fieldLink RX6 91 "FarReachModel" "cameLabels" "I", .fieldLink RX6 94 "FarReachModel" "ledLabels" "I", .methodLink RX6 70 yX6_within, .static yX6_within, .initialized RX6, .code yX6_within cX6_within 3 (some .boolean), .methodLink RX6 87 yX6_keepItem, .instanceMethod yX6_keepItem, .selects RX6 yX6_keepItem yX6_keepItem, .code yX6_keepItem cX6_keepItem 3 none, .fieldLink RX6 22 "FarReachModel" "newKind" "[I", .fieldLink RX6 77 "FarReachModel" "newItems" "I", .fieldLink RX6 25 "FarReachModel" "newTold" "[I"] ++ wsX60)
def wsX6_takesFigure : List Cond := .code yX6_takesFigure cX6_takesFigure 3 (some .boolean) :: ([.fieldLink RX6 80 "FarReachModel" "begun" "I", .methodLink RX6 70 yX6_within, .static yX6_within, .initialized RX6, .code yX6_within cX6_within 3 (some .boolean), .methodLink RX6 87 yX6_keepItem, .instanceMethod yX6_keepItem, .selects RX6 yX6_keepItem yX6_keepItem, .code yX6_keepItem cX6_keepItem 3 none, .fieldLink RX6 22 "FarReachModel" "newKind" "[I", .fieldLink RX6 77 "FarReachModel" "newItems" "I", .fieldLink RX6 25 "FarReachModel" "newTold" "[I"] ++ wsX60)
def wsX6_takes_r1 : List Cond := [Cond.fieldLink RX6 80 "FarReachModel" "begun" "I", Cond.methodLink RX6 97 yX6_takesFirst, Cond.instanceMethod yX6_takesFirst, Cond.selects RX6 yX6_takesFirst yX6_takesFirst, Cond.initialized RX6, Cond.code yX6_takesFirst cX6_takesFirst 3 (some .boolean), Cond.fieldLink RX6 77 "FarReachModel" "newItems" "I", Cond.methodLink RX6 83 yX6_kindBy, Cond.static yX6_kindBy, Cond.code yX6_kindBy cX6_kindBy 1 (some .int), Cond.methodLink RX6 87 yX6_keepItem, Cond.instanceMethod yX6_keepItem, Cond.selects RX6 yX6_keepItem yX6_keepItem, Cond.code yX6_keepItem cX6_keepItem 3 none, Cond.fieldLink RX6 22 "FarReachModel" "newKind" "[I", Cond.fieldLink RX6 25 "FarReachModel" "newTold" "[I", Cond.methodLink RX6 101 yX6_takesLetter, Cond.instanceMethod yX6_takesLetter, Cond.selects RX6 yX6_takesLetter yX6_takesLetter, Cond.code yX6_takesLetter cX6_takesLetter 3 (some .boolean), Cond.fieldLink RX6 91 "FarReachModel" "cameLabels" "I", Cond.fieldLink RX6 94 "FarReachModel" "ledLabels" "I", Cond.methodLink RX6 70 yX6_within, Cond.static yX6_within]
def wsX6_takes_r2 : List Cond := [Cond.code yX6_within cX6_within 3 (some .boolean), Cond.methodLink RX6 104 yX6_takesFigure, Cond.instanceMethod yX6_takesFigure, Cond.selects RX6 yX6_takesFigure yX6_takesFigure, Cond.code yX6_takesFigure cX6_takesFigure 3 (some .boolean)]
def wsX6_takes : List Cond := .code yX6_takes cX6_takes 2 (some .boolean) :: ((wsX6_takes_r1 ++ wsX6_takes_r2) ++ wsX60)
def wsX6_goAlong_r1 : List Cond := [Cond.fieldLink RX6 77 "FarReachModel" "newItems" "I", Cond.fieldLink RX6 80 "FarReachModel" "begun" "I", Cond.fieldLink RX6 91 "FarReachModel" "cameLabels" "I", Cond.fieldLink RX6 94 "FarReachModel" "ledLabels" "I", Cond.fieldLink RX6 74 "FarReachModel" "pageLength" "I", Cond.fieldLink RX6 7 "FarReachModel" "page" "[I", Cond.methodLink RX6 107 yX6_takes, Cond.instanceMethod yX6_takes, Cond.selects RX6 yX6_takes yX6_takes, Cond.initialized RX6, Cond.code yX6_takes cX6_takes 2 (some .boolean), Cond.methodLink RX6 97 yX6_takesFirst, Cond.instanceMethod yX6_takesFirst, Cond.selects RX6 yX6_takesFirst yX6_takesFirst, Cond.code yX6_takesFirst cX6_takesFirst 3 (some .boolean), Cond.methodLink RX6 83 yX6_kindBy, Cond.static yX6_kindBy, Cond.code yX6_kindBy cX6_kindBy 1 (some .int), Cond.methodLink RX6 87 yX6_keepItem, Cond.instanceMethod yX6_keepItem, Cond.selects RX6 yX6_keepItem yX6_keepItem, Cond.code yX6_keepItem cX6_keepItem 3 none, Cond.fieldLink RX6 22 "FarReachModel" "newKind" "[I", Cond.fieldLink RX6 25 "FarReachModel" "newTold" "[I"]
def wsX6_goAlong_r2 : List Cond := [Cond.methodLink RX6 101 yX6_takesLetter, Cond.instanceMethod yX6_takesLetter, Cond.selects RX6 yX6_takesLetter yX6_takesLetter, Cond.code yX6_takesLetter cX6_takesLetter 3 (some .boolean), Cond.methodLink RX6 70 yX6_within, Cond.static yX6_within, Cond.code yX6_within cX6_within 3 (some .boolean), Cond.methodLink RX6 104 yX6_takesFigure, Cond.instanceMethod yX6_takesFigure, Cond.selects RX6 yX6_takesFigure yX6_takesFigure, Cond.code yX6_takesFigure cX6_takesFigure 3 (some .boolean)]
def wsX6_goAlong : List Cond := .code yX6_goAlong cX6_goAlong 2 (some .int) :: ((wsX6_goAlong_r1 ++ wsX6_goAlong_r2) ++ wsX60)
def wsX6_fault_r1 : List Cond := [Cond.methodLink RX6 110 yX6_goAlong, Cond.instanceMethod yX6_goAlong, Cond.selects RX6 yX6_goAlong yX6_goAlong, Cond.initialized RX6, Cond.code yX6_goAlong cX6_goAlong 2 (some .int), Cond.fieldLink RX6 77 "FarReachModel" "newItems" "I", Cond.fieldLink RX6 80 "FarReachModel" "begun" "I", Cond.fieldLink RX6 91 "FarReachModel" "cameLabels" "I", Cond.fieldLink RX6 94 "FarReachModel" "ledLabels" "I", Cond.fieldLink RX6 74 "FarReachModel" "pageLength" "I", Cond.fieldLink RX6 7 "FarReachModel" "page" "[I", Cond.methodLink RX6 107 yX6_takes, Cond.instanceMethod yX6_takes, Cond.selects RX6 yX6_takes yX6_takes, Cond.code yX6_takes cX6_takes 2 (some .boolean), Cond.methodLink RX6 97 yX6_takesFirst, Cond.instanceMethod yX6_takesFirst, Cond.selects RX6 yX6_takesFirst yX6_takesFirst, Cond.code yX6_takesFirst cX6_takesFirst 3 (some .boolean), Cond.methodLink RX6 83 yX6_kindBy, Cond.static yX6_kindBy, Cond.code yX6_kindBy cX6_kindBy 1 (some .int), Cond.methodLink RX6 87 yX6_keepItem, Cond.instanceMethod yX6_keepItem]
def wsX6_fault_r2 : List Cond := [Cond.selects RX6 yX6_keepItem yX6_keepItem, Cond.code yX6_keepItem cX6_keepItem 3 none, Cond.fieldLink RX6 22 "FarReachModel" "newKind" "[I", Cond.fieldLink RX6 25 "FarReachModel" "newTold" "[I", Cond.methodLink RX6 101 yX6_takesLetter, Cond.instanceMethod yX6_takesLetter, Cond.selects RX6 yX6_takesLetter yX6_takesLetter, Cond.code yX6_takesLetter cX6_takesLetter 3 (some .boolean), Cond.methodLink RX6 70 yX6_within, Cond.static yX6_within, Cond.code yX6_within cX6_within 3 (some .boolean), Cond.methodLink RX6 104 yX6_takesFigure, Cond.instanceMethod yX6_takesFigure, Cond.selects RX6 yX6_takesFigure yX6_takesFigure, Cond.code yX6_takesFigure cX6_takesFigure 3 (some .boolean)]
def wsX6_fault : List Cond := .code yX6_fault cX6_fault 1 (some .int) :: ((wsX6_fault_r1 ++ wsX6_fault_r2) ++ wsX60)
def wsX6_up : List Cond := .code yX6_up cX6_up 2 (some .int) :: ([])
def wsX6_sizeOf : List Cond := .code yX6_sizeOf cX6_sizeOf 3 (some .int) :: ([.fieldLink RX6 13 "FarReachModel" "kindOf" "[I", .fieldLink RX6 16 "FarReachModel" "toldOf" "[I", .fieldLink RX6 28 "FarReachModel" "isLong" "[Z", .methodLink RX6 129 yX6_up, .static yX6_up, .initialized RX6, .code yX6_up cX6_up 2 (some .int)] ++ wsX60)
def wsX6_layGap : List Cond := .code yX6_layGap cX6_layGap 6 (some .int) :: ([.fieldLink RX6 133 "FarReachModel" "islands" "I", .fieldLink RX6 35 "FarReachModel" "islandGap" "[I", .fieldLink RX6 47 "FarReachModel" "islandAt" "[I", .fieldLink RX6 53 "FarReachModel" "islandsEnd" "[I", .fieldLink RX6 136 "FarReachModel" "constants" "I", .fieldLink RX6 41 "FarReachModel" "constantGap" "[I", .fieldLink RX6 139 "FarReachModel" "filled" "I", .fieldLink RX6 50 "FarReachModel" "constantAt" "[I", .fieldLink RX6 56 "FarReachModel" "constantsEnd" "[I", .methodLink RX6 129 yX6_up, .static yX6_up, .initialized RX6, .code yX6_up cX6_up 2 (some .int)] ++ wsX60)
def wsX6_layAll_r1 : List Cond := [Cond.fieldLink RX6 139 "FarReachModel" "filled" "I", Cond.fieldLink RX6 114 "FarReachModel" "items" "I", Cond.fieldLink RX6 44 "FarReachModel" "addressOf" "[I", Cond.fieldLink RX6 13 "FarReachModel" "kindOf" "[I", Cond.fieldLink RX6 59 "FarReachModel" "labelAt" "[I", Cond.fieldLink RX6 16 "FarReachModel" "toldOf" "[I", Cond.fieldLink RX6 148 "FarReachModel" "bytesAll" "I", Cond.methodLink RX6 142 yX6_sizeOf, Cond.instanceMethod yX6_sizeOf, Cond.selects RX6 yX6_sizeOf yX6_sizeOf, Cond.initialized RX6, Cond.code yX6_sizeOf cX6_sizeOf 3 (some .int), Cond.fieldLink RX6 28 "FarReachModel" "isLong" "[Z", Cond.methodLink RX6 129 yX6_up, Cond.static yX6_up, Cond.code yX6_up cX6_up 2 (some .int), Cond.methodLink RX6 145 yX6_layGap, Cond.instanceMethod yX6_layGap, Cond.selects RX6 yX6_layGap yX6_layGap, Cond.code yX6_layGap cX6_layGap 6 (some .int), Cond.fieldLink RX6 133 "FarReachModel" "islands" "I", Cond.fieldLink RX6 35 "FarReachModel" "islandGap" "[I", Cond.fieldLink RX6 47 "FarReachModel" "islandAt" "[I", Cond.fieldLink RX6 53 "FarReachModel" "islandsEnd" "[I"]
def wsX6_layAll_r2 : List Cond := [Cond.fieldLink RX6 136 "FarReachModel" "constants" "I", Cond.fieldLink RX6 41 "FarReachModel" "constantGap" "[I", Cond.fieldLink RX6 50 "FarReachModel" "constantAt" "[I", Cond.fieldLink RX6 56 "FarReachModel" "constantsEnd" "[I"]
def wsX6_layAll : List Cond := .code yX6_layAll cX6_layAll 3 none :: ((wsX6_layAll_r1 ++ wsX6_layAll_r2) ++ wsX60)
def wsX6_constantFor : List Cond := .code yX6_constantFor cX6_constantFor 5 (some .int) :: ([.fieldLink RX6 136 "FarReachModel" "constants" "I", .fieldLink RX6 50 "FarReachModel" "constantAt" "[I", .fieldLink RX6 44 "FarReachModel" "addressOf" "[I", .fieldLink RX6 38 "FarReachModel" "constantValue" "[I", .fieldLink RX6 16 "FarReachModel" "toldOf" "[I", .fieldLink RX6 19 "FarReachModel" "reaches" "[I"] ++ wsX60)
def wsX6_apart : List Cond := .code yX6_apart cX6_apart 2 (some .int) :: ([])
def wsX6_reachesLabel : List Cond := .code yX6_reachesLabel cX6_reachesLabel 3 (some .boolean) :: ([.fieldLink RX6 59 "FarReachModel" "labelAt" "[I", .fieldLink RX6 19 "FarReachModel" "reaches" "[I", .methodLink RX6 151 yX6_apart, .static yX6_apart, .initialized RX6, .code yX6_apart cX6_apart 2 (some .int)] ++ wsX60)
def wsX6_islandFor : List Cond := .code yX6_islandFor cX6_islandFor 7 (some .int) :: ([.fieldLink RX6 133 "FarReachModel" "islands" "I", .fieldLink RX6 47 "FarReachModel" "islandAt" "[I", .fieldLink RX6 59 "FarReachModel" "labelAt" "[I", .fieldLink RX6 32 "FarReachModel" "islandLabel" "[I", .fieldLink RX6 19 "FarReachModel" "reaches" "[I", .constant RX6 154 (1048576), .methodLink RX6 151 yX6_apart, .static yX6_apart, .initialized RX6, .code yX6_apart cX6_apart 2 (some .int)] ++ wsX60)
def wsX6_goesFrom : List Cond := .code yX6_goesFrom cX6_goesFrom 4 (some .int) :: ([.fieldLink RX6 59 "FarReachModel" "labelAt" "[I", .fieldLink RX6 47 "FarReachModel" "islandAt" "[I", .methodLink RX6 155 yX6_reachesLabel, .instanceMethod yX6_reachesLabel, .selects RX6 yX6_reachesLabel yX6_reachesLabel, .initialized RX6, .code yX6_reachesLabel cX6_reachesLabel 3 (some .boolean), .fieldLink RX6 19 "FarReachModel" "reaches" "[I", .methodLink RX6 151 yX6_apart, .static yX6_apart, .code yX6_apart cX6_apart 2 (some .int), .methodLink RX6 159 yX6_islandFor, .instanceMethod yX6_islandFor, .selects RX6 yX6_islandFor yX6_islandFor, .code yX6_islandFor cX6_islandFor 7 (some .int), .fieldLink RX6 133 "FarReachModel" "islands" "I", .fieldLink RX6 32 "FarReachModel" "islandLabel" "[I", .constant RX6 154 (1048576)] ++ wsX60)
def wsX6_shortGoes : List Cond := .code yX6_shortGoes cX6_shortGoes 3 (some .int) :: ([.fieldLink RX6 59 "FarReachModel" "labelAt" "[I", .fieldLink RX6 16 "FarReachModel" "toldOf" "[I", .fieldLink RX6 44 "FarReachModel" "addressOf" "[I", .fieldLink RX6 19 "FarReachModel" "reaches" "[I", .methodLink RX6 151 yX6_apart, .static yX6_apart, .initialized RX6, .code yX6_apart cX6_apart 2 (some .int)] ++ wsX60)
def wsX6_goesTo_r1 : List Cond := [Cond.fieldLink RX6 13 "FarReachModel" "kindOf" "[I", Cond.fieldLink RX6 50 "FarReachModel" "constantAt" "[I", Cond.fieldLink RX6 28 "FarReachModel" "isLong" "[Z", Cond.fieldLink RX6 44 "FarReachModel" "addressOf" "[I", Cond.fieldLink RX6 16 "FarReachModel" "toldOf" "[I", Cond.methodLink RX6 162 yX6_constantFor, Cond.instanceMethod yX6_constantFor, Cond.selects RX6 yX6_constantFor yX6_constantFor, Cond.initialized RX6, Cond.code yX6_constantFor cX6_constantFor 5 (some .int), Cond.fieldLink RX6 136 "FarReachModel" "constants" "I", Cond.fieldLink RX6 38 "FarReachModel" "constantValue" "[I", Cond.fieldLink RX6 19 "FarReachModel" "reaches" "[I", Cond.methodLink RX6 165 yX6_goesFrom, Cond.instanceMethod yX6_goesFrom, Cond.selects RX6 yX6_goesFrom yX6_goesFrom, Cond.code yX6_goesFrom cX6_goesFrom 4 (some .int), Cond.fieldLink RX6 59 "FarReachModel" "labelAt" "[I", Cond.fieldLink RX6 47 "FarReachModel" "islandAt" "[I", Cond.methodLink RX6 155 yX6_reachesLabel, Cond.instanceMethod yX6_reachesLabel, Cond.selects RX6 yX6_reachesLabel yX6_reachesLabel, Cond.code yX6_reachesLabel cX6_reachesLabel 3 (some .boolean), Cond.methodLink RX6 151 yX6_apart]
def wsX6_goesTo_r2 : List Cond := [Cond.static yX6_apart, Cond.code yX6_apart cX6_apart 2 (some .int), Cond.methodLink RX6 159 yX6_islandFor, Cond.instanceMethod yX6_islandFor, Cond.selects RX6 yX6_islandFor yX6_islandFor, Cond.code yX6_islandFor cX6_islandFor 7 (some .int), Cond.fieldLink RX6 133 "FarReachModel" "islands" "I", Cond.fieldLink RX6 32 "FarReachModel" "islandLabel" "[I", Cond.constant RX6 154 (1048576), Cond.methodLink RX6 168 yX6_shortGoes, Cond.instanceMethod yX6_shortGoes, Cond.selects RX6 yX6_shortGoes yX6_shortGoes, Cond.code yX6_shortGoes cX6_shortGoes 3 (some .int)]
def wsX6_goesTo : List Cond := .code yX6_goesTo cX6_goesTo 3 (some .int) :: ((wsX6_goesTo_r1 ++ wsX6_goesTo_r2) ++ wsX60)
def wsX6_firstStuck_r1 : List Cond := [Cond.fieldLink RX6 114 "FarReachModel" "items" "I", Cond.fieldLink RX6 13 "FarReachModel" "kindOf" "[I", Cond.fieldLink RX6 28 "FarReachModel" "isLong" "[Z", Cond.methodLink RX6 174 yX6_goesTo, Cond.instanceMethod yX6_goesTo, Cond.selects RX6 yX6_goesTo yX6_goesTo, Cond.initialized RX6, Cond.code yX6_goesTo cX6_goesTo 3 (some .int), Cond.fieldLink RX6 50 "FarReachModel" "constantAt" "[I", Cond.fieldLink RX6 44 "FarReachModel" "addressOf" "[I", Cond.fieldLink RX6 16 "FarReachModel" "toldOf" "[I", Cond.methodLink RX6 162 yX6_constantFor, Cond.instanceMethod yX6_constantFor, Cond.selects RX6 yX6_constantFor yX6_constantFor, Cond.code yX6_constantFor cX6_constantFor 5 (some .int), Cond.fieldLink RX6 136 "FarReachModel" "constants" "I", Cond.fieldLink RX6 38 "FarReachModel" "constantValue" "[I", Cond.fieldLink RX6 19 "FarReachModel" "reaches" "[I", Cond.methodLink RX6 165 yX6_goesFrom, Cond.instanceMethod yX6_goesFrom, Cond.selects RX6 yX6_goesFrom yX6_goesFrom, Cond.code yX6_goesFrom cX6_goesFrom 4 (some .int), Cond.fieldLink RX6 59 "FarReachModel" "labelAt" "[I", Cond.fieldLink RX6 47 "FarReachModel" "islandAt" "[I"]
def wsX6_firstStuck_r2 : List Cond := [Cond.methodLink RX6 155 yX6_reachesLabel, Cond.instanceMethod yX6_reachesLabel, Cond.selects RX6 yX6_reachesLabel yX6_reachesLabel, Cond.code yX6_reachesLabel cX6_reachesLabel 3 (some .boolean), Cond.methodLink RX6 151 yX6_apart, Cond.static yX6_apart, Cond.code yX6_apart cX6_apart 2 (some .int), Cond.methodLink RX6 159 yX6_islandFor, Cond.instanceMethod yX6_islandFor, Cond.selects RX6 yX6_islandFor yX6_islandFor, Cond.code yX6_islandFor cX6_islandFor 7 (some .int), Cond.fieldLink RX6 133 "FarReachModel" "islands" "I", Cond.fieldLink RX6 32 "FarReachModel" "islandLabel" "[I", Cond.constant RX6 154 (1048576), Cond.methodLink RX6 168 yX6_shortGoes, Cond.instanceMethod yX6_shortGoes, Cond.selects RX6 yX6_shortGoes yX6_shortGoes, Cond.code yX6_shortGoes cX6_shortGoes 3 (some .int)]
def wsX6_firstStuck : List Cond := .code yX6_firstStuck cX6_firstStuck 6 (some .int) :: ((wsX6_firstStuck_r1 ++ wsX6_firstStuck_r2) ++ wsX60)
def wsX6_fails : List Cond := .code yX6_fails cX6_fails 3 (some .boolean) :: ([.fieldLink RX6 62 "FarReachModel" "isGood" "Z", .fieldLink RX6 171 "FarReachModel" "failsBy" "I", .fieldLink RX6 66 "FarReachModel" "failsAt" "I"] ++ wsX60)
def wsX6_putConstant : List Cond := .code yX6_putConstant cX6_putConstant 4 (some .boolean) :: ([.fieldLink RX6 114 "FarReachModel" "items" "I", .fieldLink RX6 13 "FarReachModel" "kindOf" "[I", .fieldLink RX6 56 "FarReachModel" "constantsEnd" "[I", .fieldLink RX6 44 "FarReachModel" "addressOf" "[I", .fieldLink RX6 19 "FarReachModel" "reaches" "[I", .fieldLink RX6 136 "FarReachModel" "constants" "I", .fieldLink RX6 38 "FarReachModel" "constantValue" "[I", .fieldLink RX6 16 "FarReachModel" "toldOf" "[I", .fieldLink RX6 41 "FarReachModel" "constantGap" "[I", .methodLink RX6 177 yX6_fails, .instanceMethod yX6_fails, .selects RX6 yX6_fails yX6_fails, .initialized RX6, .code yX6_fails cX6_fails 3 (some .boolean), .fieldLink RX6 62 "FarReachModel" "isGood" "Z", .fieldLink RX6 171 "FarReachModel" "failsBy" "I", .fieldLink RX6 66 "FarReachModel" "failsAt" "I"] ++ wsX60)
def wsX6_gapFor : List Cond := .code yX6_gapFor cX6_gapFor 6 (some .int) :: ([.fieldLink RX6 59 "FarReachModel" "labelAt" "[I", .fieldLink RX6 114 "FarReachModel" "items" "I", .fieldLink RX6 13 "FarReachModel" "kindOf" "[I", .fieldLink RX6 53 "FarReachModel" "islandsEnd" "[I", .fieldLink RX6 19 "FarReachModel" "reaches" "[I", .methodLink RX6 151 yX6_apart, .static yX6_apart, .initialized RX6, .code yX6_apart cX6_apart 2 (some .int)] ++ wsX60)
def wsX6_putIsland : List Cond := .code yX6_putIsland cX6_putIsland 6 (some .boolean) :: ([.fieldLink RX6 133 "FarReachModel" "islands" "I", .fieldLink RX6 32 "FarReachModel" "islandLabel" "[I", .fieldLink RX6 35 "FarReachModel" "islandGap" "[I", .methodLink RX6 180 yX6_gapFor, .instanceMethod yX6_gapFor, .selects RX6 yX6_gapFor yX6_gapFor, .initialized RX6, .code yX6_gapFor cX6_gapFor 6 (some .int), .fieldLink RX6 59 "FarReachModel" "labelAt" "[I", .fieldLink RX6 114 "FarReachModel" "items" "I", .fieldLink RX6 13 "FarReachModel" "kindOf" "[I", .fieldLink RX6 53 "FarReachModel" "islandsEnd" "[I", .fieldLink RX6 19 "FarReachModel" "reaches" "[I", .methodLink RX6 151 yX6_apart, .static yX6_apart, .code yX6_apart cX6_apart 2 (some .int), .methodLink RX6 177 yX6_fails, .instanceMethod yX6_fails, .selects RX6 yX6_fails yX6_fails, .code yX6_fails cX6_fails 3 (some .boolean), .fieldLink RX6 62 "FarReachModel" "isGood" "Z", .fieldLink RX6 171 "FarReachModel" "failsBy" "I", .fieldLink RX6 66 "FarReachModel" "failsAt" "I"] ++ wsX60)
def wsX6_firstStuckIsland : List Cond := .code yX6_firstStuckIsland cX6_firstStuckIsland 3 (some .int) :: ([.fieldLink RX6 133 "FarReachModel" "islands" "I", .fieldLink RX6 47 "FarReachModel" "islandAt" "[I", .fieldLink RX6 32 "FarReachModel" "islandLabel" "[I", .methodLink RX6 165 yX6_goesFrom, .instanceMethod yX6_goesFrom, .selects RX6 yX6_goesFrom yX6_goesFrom, .initialized RX6, .code yX6_goesFrom cX6_goesFrom 4 (some .int), .fieldLink RX6 59 "FarReachModel" "labelAt" "[I", .methodLink RX6 155 yX6_reachesLabel, .instanceMethod yX6_reachesLabel, .selects RX6 yX6_reachesLabel yX6_reachesLabel, .code yX6_reachesLabel cX6_reachesLabel 3 (some .boolean), .fieldLink RX6 19 "FarReachModel" "reaches" "[I", .methodLink RX6 151 yX6_apart, .static yX6_apart, .code yX6_apart cX6_apart 2 (some .int), .methodLink RX6 159 yX6_islandFor, .instanceMethod yX6_islandFor, .selects RX6 yX6_islandFor yX6_islandFor, .code yX6_islandFor cX6_islandFor 7 (some .int), .constant RX6 154 (1048576)] ++ wsX60)
def wsX6_mends_r1 : List Cond := [Cond.fieldLink RX6 28 "FarReachModel" "isLong" "[Z", Cond.fieldLink RX6 44 "FarReachModel" "addressOf" "[I", Cond.fieldLink RX6 16 "FarReachModel" "toldOf" "[I", Cond.fieldLink RX6 47 "FarReachModel" "islandAt" "[I", Cond.fieldLink RX6 32 "FarReachModel" "islandLabel" "[I", Cond.methodLink RX6 183 yX6_firstStuck, Cond.instanceMethod yX6_firstStuck, Cond.selects RX6 yX6_firstStuck yX6_firstStuck, Cond.initialized RX6, Cond.code yX6_firstStuck cX6_firstStuck 6 (some .int), Cond.fieldLink RX6 114 "FarReachModel" "items" "I", Cond.fieldLink RX6 13 "FarReachModel" "kindOf" "[I", Cond.methodLink RX6 174 yX6_goesTo, Cond.instanceMethod yX6_goesTo, Cond.selects RX6 yX6_goesTo yX6_goesTo, Cond.code yX6_goesTo cX6_goesTo 3 (some .int), Cond.fieldLink RX6 50 "FarReachModel" "constantAt" "[I", Cond.methodLink RX6 162 yX6_constantFor, Cond.instanceMethod yX6_constantFor, Cond.selects RX6 yX6_constantFor yX6_constantFor, Cond.code yX6_constantFor cX6_constantFor 5 (some .int), Cond.fieldLink RX6 136 "FarReachModel" "constants" "I", Cond.fieldLink RX6 38 "FarReachModel" "constantValue" "[I", Cond.fieldLink RX6 19 "FarReachModel" "reaches" "[I"]
def wsX6_mends_r2 : List Cond := [Cond.methodLink RX6 165 yX6_goesFrom, Cond.instanceMethod yX6_goesFrom, Cond.selects RX6 yX6_goesFrom yX6_goesFrom, Cond.code yX6_goesFrom cX6_goesFrom 4 (some .int), Cond.fieldLink RX6 59 "FarReachModel" "labelAt" "[I", Cond.methodLink RX6 155 yX6_reachesLabel, Cond.instanceMethod yX6_reachesLabel, Cond.selects RX6 yX6_reachesLabel yX6_reachesLabel, Cond.code yX6_reachesLabel cX6_reachesLabel 3 (some .boolean), Cond.methodLink RX6 151 yX6_apart, Cond.static yX6_apart, Cond.code yX6_apart cX6_apart 2 (some .int), Cond.methodLink RX6 159 yX6_islandFor, Cond.instanceMethod yX6_islandFor, Cond.selects RX6 yX6_islandFor yX6_islandFor, Cond.code yX6_islandFor cX6_islandFor 7 (some .int), Cond.fieldLink RX6 133 "FarReachModel" "islands" "I", Cond.constant RX6 154 (1048576), Cond.methodLink RX6 168 yX6_shortGoes, Cond.instanceMethod yX6_shortGoes, Cond.selects RX6 yX6_shortGoes yX6_shortGoes, Cond.code yX6_shortGoes cX6_shortGoes 3 (some .int), Cond.methodLink RX6 187 yX6_putConstant, Cond.instanceMethod yX6_putConstant]
def wsX6_mends_r3 : List Cond := [Cond.selects RX6 yX6_putConstant yX6_putConstant, Cond.code yX6_putConstant cX6_putConstant 4 (some .boolean), Cond.fieldLink RX6 56 "FarReachModel" "constantsEnd" "[I", Cond.fieldLink RX6 41 "FarReachModel" "constantGap" "[I", Cond.methodLink RX6 177 yX6_fails, Cond.instanceMethod yX6_fails, Cond.selects RX6 yX6_fails yX6_fails, Cond.code yX6_fails cX6_fails 3 (some .boolean), Cond.fieldLink RX6 62 "FarReachModel" "isGood" "Z", Cond.fieldLink RX6 171 "FarReachModel" "failsBy" "I", Cond.fieldLink RX6 66 "FarReachModel" "failsAt" "I", Cond.methodLink RX6 190 yX6_putIsland, Cond.instanceMethod yX6_putIsland, Cond.selects RX6 yX6_putIsland yX6_putIsland, Cond.code yX6_putIsland cX6_putIsland 6 (some .boolean), Cond.fieldLink RX6 35 "FarReachModel" "islandGap" "[I", Cond.methodLink RX6 180 yX6_gapFor, Cond.instanceMethod yX6_gapFor, Cond.selects RX6 yX6_gapFor yX6_gapFor, Cond.code yX6_gapFor cX6_gapFor 6 (some .int), Cond.fieldLink RX6 53 "FarReachModel" "islandsEnd" "[I", Cond.methodLink RX6 194 yX6_firstStuckIsland, Cond.instanceMethod yX6_firstStuckIsland, Cond.selects RX6 yX6_firstStuckIsland yX6_firstStuckIsland]
def wsX6_mends_r4 : List Cond := [Cond.code yX6_firstStuckIsland cX6_firstStuckIsland 3 (some .int)]
def wsX6_mends : List Cond := .code yX6_mends cX6_mends 2 (some .boolean) :: ((wsX6_mends_r1 ++ (wsX6_mends_r2 ++ (wsX6_mends_r3 ++ wsX6_mends_r4))) ++ wsX60)
def wsX6_placeAll_r1 : List Cond := [Cond.fieldLink RX6 133 "FarReachModel" "islands" "I", Cond.fieldLink RX6 136 "FarReachModel" "constants" "I", Cond.fieldLink RX6 197 "FarReachModel" "rounds" "I", Cond.fieldLink RX6 62 "FarReachModel" "isGood" "Z", Cond.fieldLink RX6 171 "FarReachModel" "failsBy" "I", Cond.fieldLink RX6 66 "FarReachModel" "failsAt" "I", Cond.fieldLink RX6 114 "FarReachModel" "items" "I", Cond.fieldLink RX6 28 "FarReachModel" "isLong" "[Z", Cond.methodLink RX6 200 yX6_layAll, Cond.instanceMethod yX6_layAll, Cond.selects RX6 yX6_layAll yX6_layAll, Cond.initialized RX6, Cond.code yX6_layAll cX6_layAll 3 none, Cond.fieldLink RX6 139 "FarReachModel" "filled" "I", Cond.fieldLink RX6 44 "FarReachModel" "addressOf" "[I", Cond.fieldLink RX6 13 "FarReachModel" "kindOf" "[I", Cond.fieldLink RX6 59 "FarReachModel" "labelAt" "[I", Cond.fieldLink RX6 16 "FarReachModel" "toldOf" "[I", Cond.fieldLink RX6 148 "FarReachModel" "bytesAll" "I", Cond.methodLink RX6 142 yX6_sizeOf, Cond.instanceMethod yX6_sizeOf, Cond.selects RX6 yX6_sizeOf yX6_sizeOf, Cond.code yX6_sizeOf cX6_sizeOf 3 (some .int), Cond.methodLink RX6 129 yX6_up]
def wsX6_placeAll_r2 : List Cond := [Cond.static yX6_up, Cond.code yX6_up cX6_up 2 (some .int), Cond.methodLink RX6 145 yX6_layGap, Cond.instanceMethod yX6_layGap, Cond.selects RX6 yX6_layGap yX6_layGap, Cond.code yX6_layGap cX6_layGap 6 (some .int), Cond.fieldLink RX6 35 "FarReachModel" "islandGap" "[I", Cond.fieldLink RX6 47 "FarReachModel" "islandAt" "[I", Cond.fieldLink RX6 53 "FarReachModel" "islandsEnd" "[I", Cond.fieldLink RX6 41 "FarReachModel" "constantGap" "[I", Cond.fieldLink RX6 50 "FarReachModel" "constantAt" "[I", Cond.fieldLink RX6 56 "FarReachModel" "constantsEnd" "[I", Cond.methodLink RX6 203 yX6_mends, Cond.instanceMethod yX6_mends, Cond.selects RX6 yX6_mends yX6_mends, Cond.code yX6_mends cX6_mends 2 (some .boolean), Cond.fieldLink RX6 32 "FarReachModel" "islandLabel" "[I", Cond.methodLink RX6 183 yX6_firstStuck, Cond.instanceMethod yX6_firstStuck, Cond.selects RX6 yX6_firstStuck yX6_firstStuck, Cond.code yX6_firstStuck cX6_firstStuck 6 (some .int), Cond.methodLink RX6 174 yX6_goesTo, Cond.instanceMethod yX6_goesTo, Cond.selects RX6 yX6_goesTo yX6_goesTo]
def wsX6_placeAll_r3 : List Cond := [Cond.code yX6_goesTo cX6_goesTo 3 (some .int), Cond.methodLink RX6 162 yX6_constantFor, Cond.instanceMethod yX6_constantFor, Cond.selects RX6 yX6_constantFor yX6_constantFor, Cond.code yX6_constantFor cX6_constantFor 5 (some .int), Cond.fieldLink RX6 38 "FarReachModel" "constantValue" "[I", Cond.fieldLink RX6 19 "FarReachModel" "reaches" "[I", Cond.methodLink RX6 165 yX6_goesFrom, Cond.instanceMethod yX6_goesFrom, Cond.selects RX6 yX6_goesFrom yX6_goesFrom, Cond.code yX6_goesFrom cX6_goesFrom 4 (some .int), Cond.methodLink RX6 155 yX6_reachesLabel, Cond.instanceMethod yX6_reachesLabel, Cond.selects RX6 yX6_reachesLabel yX6_reachesLabel, Cond.code yX6_reachesLabel cX6_reachesLabel 3 (some .boolean), Cond.methodLink RX6 151 yX6_apart, Cond.static yX6_apart, Cond.code yX6_apart cX6_apart 2 (some .int), Cond.methodLink RX6 159 yX6_islandFor, Cond.instanceMethod yX6_islandFor, Cond.selects RX6 yX6_islandFor yX6_islandFor, Cond.code yX6_islandFor cX6_islandFor 7 (some .int), Cond.constant RX6 154 (1048576), Cond.methodLink RX6 168 yX6_shortGoes]
def wsX6_placeAll_r4 : List Cond := [Cond.instanceMethod yX6_shortGoes, Cond.selects RX6 yX6_shortGoes yX6_shortGoes, Cond.code yX6_shortGoes cX6_shortGoes 3 (some .int), Cond.methodLink RX6 187 yX6_putConstant, Cond.instanceMethod yX6_putConstant, Cond.selects RX6 yX6_putConstant yX6_putConstant, Cond.code yX6_putConstant cX6_putConstant 4 (some .boolean), Cond.methodLink RX6 177 yX6_fails, Cond.instanceMethod yX6_fails, Cond.selects RX6 yX6_fails yX6_fails, Cond.code yX6_fails cX6_fails 3 (some .boolean), Cond.methodLink RX6 190 yX6_putIsland, Cond.instanceMethod yX6_putIsland, Cond.selects RX6 yX6_putIsland yX6_putIsland, Cond.code yX6_putIsland cX6_putIsland 6 (some .boolean), Cond.methodLink RX6 180 yX6_gapFor, Cond.instanceMethod yX6_gapFor, Cond.selects RX6 yX6_gapFor yX6_gapFor, Cond.code yX6_gapFor cX6_gapFor 6 (some .int), Cond.methodLink RX6 194 yX6_firstStuckIsland, Cond.instanceMethod yX6_firstStuckIsland, Cond.selects RX6 yX6_firstStuckIsland yX6_firstStuckIsland, Cond.code yX6_firstStuckIsland cX6_firstStuckIsland 3 (some .int)]
def wsX6_placeAll : List Cond := .code yX6_placeAll cX6_placeAll 2 none :: ((wsX6_placeAll_r1 ++ (wsX6_placeAll_r2 ++ (wsX6_placeAll_r3 ++ wsX6_placeAll_r4))) ++ wsX60)
def wsX6_code_r1 : List Cond := [Cond.fieldLink RX6 74 "FarReachModel" "pageLength" "I", Cond.fieldLink RX6 80 "FarReachModel" "begun" "I", Cond.fieldLink RX6 77 "FarReachModel" "newItems" "I", Cond.fieldLink RX6 94 "FarReachModel" "ledLabels" "I", Cond.fieldLink RX6 91 "FarReachModel" "cameLabels" "I", Cond.fieldLink RX6 114 "FarReachModel" "items" "I", Cond.fieldLink RX6 13 "FarReachModel" "kindOf" "[I", Cond.fieldLink RX6 22 "FarReachModel" "newKind" "[I", Cond.fieldLink RX6 16 "FarReachModel" "toldOf" "[I", Cond.fieldLink RX6 25 "FarReachModel" "newTold" "[I", Cond.fieldLink RX6 117 "FarReachModel" "codesRead" "I", Cond.methodLink RX6 110 yX6_goAlong, Cond.instanceMethod yX6_goAlong, Cond.selects RX6 yX6_goAlong yX6_goAlong, Cond.initialized RX6, Cond.code yX6_goAlong cX6_goAlong 2 (some .int), Cond.fieldLink RX6 7 "FarReachModel" "page" "[I", Cond.methodLink RX6 107 yX6_takes, Cond.instanceMethod yX6_takes, Cond.selects RX6 yX6_takes yX6_takes, Cond.code yX6_takes cX6_takes 2 (some .boolean), Cond.methodLink RX6 97 yX6_takesFirst, Cond.instanceMethod yX6_takesFirst, Cond.selects RX6 yX6_takesFirst yX6_takesFirst]
def wsX6_code_r2 : List Cond := [Cond.code yX6_takesFirst cX6_takesFirst 3 (some .boolean), Cond.methodLink RX6 83 yX6_kindBy, Cond.static yX6_kindBy, Cond.code yX6_kindBy cX6_kindBy 1 (some .int), Cond.methodLink RX6 87 yX6_keepItem, Cond.instanceMethod yX6_keepItem, Cond.selects RX6 yX6_keepItem yX6_keepItem, Cond.code yX6_keepItem cX6_keepItem 3 none, Cond.methodLink RX6 101 yX6_takesLetter, Cond.instanceMethod yX6_takesLetter, Cond.selects RX6 yX6_takesLetter yX6_takesLetter, Cond.code yX6_takesLetter cX6_takesLetter 3 (some .boolean), Cond.methodLink RX6 70 yX6_within, Cond.static yX6_within, Cond.code yX6_within cX6_within 3 (some .boolean), Cond.methodLink RX6 104 yX6_takesFigure, Cond.instanceMethod yX6_takesFigure, Cond.selects RX6 yX6_takesFigure yX6_takesFigure, Cond.code yX6_takesFigure cX6_takesFigure 3 (some .boolean), Cond.methodLink RX6 120 yX6_placeAll, Cond.instanceMethod yX6_placeAll, Cond.selects RX6 yX6_placeAll yX6_placeAll, Cond.code yX6_placeAll cX6_placeAll 2 none, Cond.fieldLink RX6 133 "FarReachModel" "islands" "I"]
def wsX6_code_r3 : List Cond := [Cond.fieldLink RX6 136 "FarReachModel" "constants" "I", Cond.fieldLink RX6 197 "FarReachModel" "rounds" "I", Cond.fieldLink RX6 62 "FarReachModel" "isGood" "Z", Cond.fieldLink RX6 171 "FarReachModel" "failsBy" "I", Cond.fieldLink RX6 66 "FarReachModel" "failsAt" "I", Cond.fieldLink RX6 28 "FarReachModel" "isLong" "[Z", Cond.methodLink RX6 200 yX6_layAll, Cond.instanceMethod yX6_layAll, Cond.selects RX6 yX6_layAll yX6_layAll, Cond.code yX6_layAll cX6_layAll 3 none, Cond.fieldLink RX6 139 "FarReachModel" "filled" "I", Cond.fieldLink RX6 44 "FarReachModel" "addressOf" "[I", Cond.fieldLink RX6 59 "FarReachModel" "labelAt" "[I", Cond.fieldLink RX6 148 "FarReachModel" "bytesAll" "I", Cond.methodLink RX6 142 yX6_sizeOf, Cond.instanceMethod yX6_sizeOf, Cond.selects RX6 yX6_sizeOf yX6_sizeOf, Cond.code yX6_sizeOf cX6_sizeOf 3 (some .int), Cond.methodLink RX6 129 yX6_up, Cond.static yX6_up, Cond.code yX6_up cX6_up 2 (some .int), Cond.methodLink RX6 145 yX6_layGap, Cond.instanceMethod yX6_layGap, Cond.selects RX6 yX6_layGap yX6_layGap]
def wsX6_code_r4 : List Cond := [Cond.code yX6_layGap cX6_layGap 6 (some .int), Cond.fieldLink RX6 35 "FarReachModel" "islandGap" "[I", Cond.fieldLink RX6 47 "FarReachModel" "islandAt" "[I", Cond.fieldLink RX6 53 "FarReachModel" "islandsEnd" "[I", Cond.fieldLink RX6 41 "FarReachModel" "constantGap" "[I", Cond.fieldLink RX6 50 "FarReachModel" "constantAt" "[I", Cond.fieldLink RX6 56 "FarReachModel" "constantsEnd" "[I", Cond.methodLink RX6 203 yX6_mends, Cond.instanceMethod yX6_mends, Cond.selects RX6 yX6_mends yX6_mends, Cond.code yX6_mends cX6_mends 2 (some .boolean), Cond.fieldLink RX6 32 "FarReachModel" "islandLabel" "[I", Cond.methodLink RX6 183 yX6_firstStuck, Cond.instanceMethod yX6_firstStuck, Cond.selects RX6 yX6_firstStuck yX6_firstStuck, Cond.code yX6_firstStuck cX6_firstStuck 6 (some .int), Cond.methodLink RX6 174 yX6_goesTo, Cond.instanceMethod yX6_goesTo, Cond.selects RX6 yX6_goesTo yX6_goesTo, Cond.code yX6_goesTo cX6_goesTo 3 (some .int), Cond.methodLink RX6 162 yX6_constantFor, Cond.instanceMethod yX6_constantFor, Cond.selects RX6 yX6_constantFor yX6_constantFor, Cond.code yX6_constantFor cX6_constantFor 5 (some .int)]
def wsX6_code_r5 : List Cond := [Cond.fieldLink RX6 38 "FarReachModel" "constantValue" "[I", Cond.fieldLink RX6 19 "FarReachModel" "reaches" "[I", Cond.methodLink RX6 165 yX6_goesFrom, Cond.instanceMethod yX6_goesFrom, Cond.selects RX6 yX6_goesFrom yX6_goesFrom, Cond.code yX6_goesFrom cX6_goesFrom 4 (some .int), Cond.methodLink RX6 155 yX6_reachesLabel, Cond.instanceMethod yX6_reachesLabel, Cond.selects RX6 yX6_reachesLabel yX6_reachesLabel, Cond.code yX6_reachesLabel cX6_reachesLabel 3 (some .boolean), Cond.methodLink RX6 151 yX6_apart, Cond.static yX6_apart, Cond.code yX6_apart cX6_apart 2 (some .int), Cond.methodLink RX6 159 yX6_islandFor, Cond.instanceMethod yX6_islandFor, Cond.selects RX6 yX6_islandFor yX6_islandFor, Cond.code yX6_islandFor cX6_islandFor 7 (some .int), Cond.constant RX6 154 (1048576), Cond.methodLink RX6 168 yX6_shortGoes, Cond.instanceMethod yX6_shortGoes, Cond.selects RX6 yX6_shortGoes yX6_shortGoes, Cond.code yX6_shortGoes cX6_shortGoes 3 (some .int), Cond.methodLink RX6 187 yX6_putConstant, Cond.instanceMethod yX6_putConstant]
def wsX6_code_r6 : List Cond := [Cond.selects RX6 yX6_putConstant yX6_putConstant, Cond.code yX6_putConstant cX6_putConstant 4 (some .boolean), Cond.methodLink RX6 177 yX6_fails, Cond.instanceMethod yX6_fails, Cond.selects RX6 yX6_fails yX6_fails, Cond.code yX6_fails cX6_fails 3 (some .boolean), Cond.methodLink RX6 190 yX6_putIsland, Cond.instanceMethod yX6_putIsland, Cond.selects RX6 yX6_putIsland yX6_putIsland, Cond.code yX6_putIsland cX6_putIsland 6 (some .boolean), Cond.methodLink RX6 180 yX6_gapFor, Cond.instanceMethod yX6_gapFor, Cond.selects RX6 yX6_gapFor yX6_gapFor, Cond.code yX6_gapFor cX6_gapFor 6 (some .int), Cond.methodLink RX6 194 yX6_firstStuckIsland, Cond.instanceMethod yX6_firstStuckIsland, Cond.selects RX6 yX6_firstStuckIsland yX6_firstStuckIsland, Cond.code yX6_firstStuckIsland cX6_firstStuckIsland 3 (some .int)]
def wsX6_code : List Cond := .code yX6_code cX6_code 2 (some .int) :: ((wsX6_code_r1 ++ (wsX6_code_r2 ++ (wsX6_code_r3 ++ (wsX6_code_r4 ++ (wsX6_code_r5 ++ wsX6_code_r6))))) ++ wsX60)
def wsX6_isItem : List Cond := .code yX6_isItem cX6_isItem 2 (some .boolean) :: ([.fieldLink RX6 114 "FarReachModel" "items" "I", .methodLink RX6 70 yX6_within, .static yX6_within, .initialized RX6, .code yX6_within cX6_within 3 (some .boolean)] ++ wsX60)
def wsX6_reach_r1 : List Cond := [Cond.fieldLink RX6 19 "FarReachModel" "reaches" "[I", Cond.fieldLink RX6 123 "FarReachModel" "altered" "I", Cond.methodLink RX6 70 yX6_within, Cond.static yX6_within, Cond.initialized RX6, Cond.code yX6_within cX6_within 3 (some .boolean), Cond.methodLink RX6 120 yX6_placeAll, Cond.instanceMethod yX6_placeAll, Cond.selects RX6 yX6_placeAll yX6_placeAll, Cond.code yX6_placeAll cX6_placeAll 2 none, Cond.fieldLink RX6 133 "FarReachModel" "islands" "I", Cond.fieldLink RX6 136 "FarReachModel" "constants" "I", Cond.fieldLink RX6 197 "FarReachModel" "rounds" "I", Cond.fieldLink RX6 62 "FarReachModel" "isGood" "Z", Cond.fieldLink RX6 171 "FarReachModel" "failsBy" "I", Cond.fieldLink RX6 66 "FarReachModel" "failsAt" "I", Cond.fieldLink RX6 114 "FarReachModel" "items" "I", Cond.fieldLink RX6 28 "FarReachModel" "isLong" "[Z", Cond.methodLink RX6 200 yX6_layAll, Cond.instanceMethod yX6_layAll, Cond.selects RX6 yX6_layAll yX6_layAll, Cond.code yX6_layAll cX6_layAll 3 none, Cond.fieldLink RX6 139 "FarReachModel" "filled" "I", Cond.fieldLink RX6 44 "FarReachModel" "addressOf" "[I"]
def wsX6_reach_r2 : List Cond := [Cond.fieldLink RX6 13 "FarReachModel" "kindOf" "[I", Cond.fieldLink RX6 59 "FarReachModel" "labelAt" "[I", Cond.fieldLink RX6 16 "FarReachModel" "toldOf" "[I", Cond.fieldLink RX6 148 "FarReachModel" "bytesAll" "I", Cond.methodLink RX6 142 yX6_sizeOf, Cond.instanceMethod yX6_sizeOf, Cond.selects RX6 yX6_sizeOf yX6_sizeOf, Cond.code yX6_sizeOf cX6_sizeOf 3 (some .int), Cond.methodLink RX6 129 yX6_up, Cond.static yX6_up, Cond.code yX6_up cX6_up 2 (some .int), Cond.methodLink RX6 145 yX6_layGap, Cond.instanceMethod yX6_layGap, Cond.selects RX6 yX6_layGap yX6_layGap, Cond.code yX6_layGap cX6_layGap 6 (some .int), Cond.fieldLink RX6 35 "FarReachModel" "islandGap" "[I", Cond.fieldLink RX6 47 "FarReachModel" "islandAt" "[I", Cond.fieldLink RX6 53 "FarReachModel" "islandsEnd" "[I", Cond.fieldLink RX6 41 "FarReachModel" "constantGap" "[I", Cond.fieldLink RX6 50 "FarReachModel" "constantAt" "[I", Cond.fieldLink RX6 56 "FarReachModel" "constantsEnd" "[I", Cond.methodLink RX6 203 yX6_mends, Cond.instanceMethod yX6_mends, Cond.selects RX6 yX6_mends yX6_mends]
def wsX6_reach_r3 : List Cond := [Cond.code yX6_mends cX6_mends 2 (some .boolean), Cond.fieldLink RX6 32 "FarReachModel" "islandLabel" "[I", Cond.methodLink RX6 183 yX6_firstStuck, Cond.instanceMethod yX6_firstStuck, Cond.selects RX6 yX6_firstStuck yX6_firstStuck, Cond.code yX6_firstStuck cX6_firstStuck 6 (some .int), Cond.methodLink RX6 174 yX6_goesTo, Cond.instanceMethod yX6_goesTo, Cond.selects RX6 yX6_goesTo yX6_goesTo, Cond.code yX6_goesTo cX6_goesTo 3 (some .int), Cond.methodLink RX6 162 yX6_constantFor, Cond.instanceMethod yX6_constantFor, Cond.selects RX6 yX6_constantFor yX6_constantFor, Cond.code yX6_constantFor cX6_constantFor 5 (some .int), Cond.fieldLink RX6 38 "FarReachModel" "constantValue" "[I", Cond.methodLink RX6 165 yX6_goesFrom, Cond.instanceMethod yX6_goesFrom, Cond.selects RX6 yX6_goesFrom yX6_goesFrom, Cond.code yX6_goesFrom cX6_goesFrom 4 (some .int), Cond.methodLink RX6 155 yX6_reachesLabel, Cond.instanceMethod yX6_reachesLabel, Cond.selects RX6 yX6_reachesLabel yX6_reachesLabel, Cond.code yX6_reachesLabel cX6_reachesLabel 3 (some .boolean), Cond.methodLink RX6 151 yX6_apart]
def wsX6_reach_r4 : List Cond := [Cond.static yX6_apart, Cond.code yX6_apart cX6_apart 2 (some .int), Cond.methodLink RX6 159 yX6_islandFor, Cond.instanceMethod yX6_islandFor, Cond.selects RX6 yX6_islandFor yX6_islandFor, Cond.code yX6_islandFor cX6_islandFor 7 (some .int), Cond.constant RX6 154 (1048576), Cond.methodLink RX6 168 yX6_shortGoes, Cond.instanceMethod yX6_shortGoes, Cond.selects RX6 yX6_shortGoes yX6_shortGoes, Cond.code yX6_shortGoes cX6_shortGoes 3 (some .int), Cond.methodLink RX6 187 yX6_putConstant, Cond.instanceMethod yX6_putConstant, Cond.selects RX6 yX6_putConstant yX6_putConstant, Cond.code yX6_putConstant cX6_putConstant 4 (some .boolean), Cond.methodLink RX6 177 yX6_fails, Cond.instanceMethod yX6_fails, Cond.selects RX6 yX6_fails yX6_fails, Cond.code yX6_fails cX6_fails 3 (some .boolean), Cond.methodLink RX6 190 yX6_putIsland, Cond.instanceMethod yX6_putIsland, Cond.selects RX6 yX6_putIsland yX6_putIsland, Cond.code yX6_putIsland cX6_putIsland 6 (some .boolean), Cond.methodLink RX6 180 yX6_gapFor]
def wsX6_reach_r5 : List Cond := [Cond.instanceMethod yX6_gapFor, Cond.selects RX6 yX6_gapFor yX6_gapFor, Cond.code yX6_gapFor cX6_gapFor 6 (some .int), Cond.methodLink RX6 194 yX6_firstStuckIsland, Cond.instanceMethod yX6_firstStuckIsland, Cond.selects RX6 yX6_firstStuckIsland yX6_firstStuckIsland, Cond.code yX6_firstStuckIsland cX6_firstStuckIsland 3 (some .int)]
def wsX6_reach : List Cond := .code yX6_reach cX6_reach 4 (some .int) :: ((wsX6_reach_r1 ++ (wsX6_reach_r2 ++ (wsX6_reach_r3 ++ (wsX6_reach_r4 ++ wsX6_reach_r5)))) ++ wsX60)
def wsX6_grow_r1 : List Cond := [Cond.fieldLink RX6 13 "FarReachModel" "kindOf" "[I", Cond.fieldLink RX6 16 "FarReachModel" "toldOf" "[I", Cond.fieldLink RX6 123 "FarReachModel" "altered" "I", Cond.methodLink RX6 126 yX6_isItem, Cond.instanceMethod yX6_isItem, Cond.selects RX6 yX6_isItem yX6_isItem, Cond.initialized RX6, Cond.code yX6_isItem cX6_isItem 2 (some .boolean), Cond.fieldLink RX6 114 "FarReachModel" "items" "I", Cond.methodLink RX6 70 yX6_within, Cond.static yX6_within, Cond.code yX6_within cX6_within 3 (some .boolean), Cond.methodLink RX6 120 yX6_placeAll, Cond.instanceMethod yX6_placeAll, Cond.selects RX6 yX6_placeAll yX6_placeAll, Cond.code yX6_placeAll cX6_placeAll 2 none, Cond.fieldLink RX6 133 "FarReachModel" "islands" "I", Cond.fieldLink RX6 136 "FarReachModel" "constants" "I", Cond.fieldLink RX6 197 "FarReachModel" "rounds" "I", Cond.fieldLink RX6 62 "FarReachModel" "isGood" "Z", Cond.fieldLink RX6 171 "FarReachModel" "failsBy" "I", Cond.fieldLink RX6 66 "FarReachModel" "failsAt" "I", Cond.fieldLink RX6 28 "FarReachModel" "isLong" "[Z", Cond.methodLink RX6 200 yX6_layAll]
def wsX6_grow_r2 : List Cond := [Cond.instanceMethod yX6_layAll, Cond.selects RX6 yX6_layAll yX6_layAll, Cond.code yX6_layAll cX6_layAll 3 none, Cond.fieldLink RX6 139 "FarReachModel" "filled" "I", Cond.fieldLink RX6 44 "FarReachModel" "addressOf" "[I", Cond.fieldLink RX6 59 "FarReachModel" "labelAt" "[I", Cond.fieldLink RX6 148 "FarReachModel" "bytesAll" "I", Cond.methodLink RX6 142 yX6_sizeOf, Cond.instanceMethod yX6_sizeOf, Cond.selects RX6 yX6_sizeOf yX6_sizeOf, Cond.code yX6_sizeOf cX6_sizeOf 3 (some .int), Cond.methodLink RX6 129 yX6_up, Cond.static yX6_up, Cond.code yX6_up cX6_up 2 (some .int), Cond.methodLink RX6 145 yX6_layGap, Cond.instanceMethod yX6_layGap, Cond.selects RX6 yX6_layGap yX6_layGap, Cond.code yX6_layGap cX6_layGap 6 (some .int), Cond.fieldLink RX6 35 "FarReachModel" "islandGap" "[I", Cond.fieldLink RX6 47 "FarReachModel" "islandAt" "[I", Cond.fieldLink RX6 53 "FarReachModel" "islandsEnd" "[I", Cond.fieldLink RX6 41 "FarReachModel" "constantGap" "[I", Cond.fieldLink RX6 50 "FarReachModel" "constantAt" "[I", Cond.fieldLink RX6 56 "FarReachModel" "constantsEnd" "[I"]
def wsX6_grow_r3 : List Cond := [Cond.methodLink RX6 203 yX6_mends, Cond.instanceMethod yX6_mends, Cond.selects RX6 yX6_mends yX6_mends, Cond.code yX6_mends cX6_mends 2 (some .boolean), Cond.fieldLink RX6 32 "FarReachModel" "islandLabel" "[I", Cond.methodLink RX6 183 yX6_firstStuck, Cond.instanceMethod yX6_firstStuck, Cond.selects RX6 yX6_firstStuck yX6_firstStuck, Cond.code yX6_firstStuck cX6_firstStuck 6 (some .int), Cond.methodLink RX6 174 yX6_goesTo, Cond.instanceMethod yX6_goesTo, Cond.selects RX6 yX6_goesTo yX6_goesTo, Cond.code yX6_goesTo cX6_goesTo 3 (some .int), Cond.methodLink RX6 162 yX6_constantFor, Cond.instanceMethod yX6_constantFor, Cond.selects RX6 yX6_constantFor yX6_constantFor, Cond.code yX6_constantFor cX6_constantFor 5 (some .int), Cond.fieldLink RX6 38 "FarReachModel" "constantValue" "[I", Cond.fieldLink RX6 19 "FarReachModel" "reaches" "[I", Cond.methodLink RX6 165 yX6_goesFrom, Cond.instanceMethod yX6_goesFrom, Cond.selects RX6 yX6_goesFrom yX6_goesFrom, Cond.code yX6_goesFrom cX6_goesFrom 4 (some .int), Cond.methodLink RX6 155 yX6_reachesLabel]
def wsX6_grow_r4 : List Cond := [Cond.instanceMethod yX6_reachesLabel, Cond.selects RX6 yX6_reachesLabel yX6_reachesLabel, Cond.code yX6_reachesLabel cX6_reachesLabel 3 (some .boolean), Cond.methodLink RX6 151 yX6_apart, Cond.static yX6_apart, Cond.code yX6_apart cX6_apart 2 (some .int), Cond.methodLink RX6 159 yX6_islandFor, Cond.instanceMethod yX6_islandFor, Cond.selects RX6 yX6_islandFor yX6_islandFor, Cond.code yX6_islandFor cX6_islandFor 7 (some .int), Cond.constant RX6 154 (1048576), Cond.methodLink RX6 168 yX6_shortGoes, Cond.instanceMethod yX6_shortGoes, Cond.selects RX6 yX6_shortGoes yX6_shortGoes, Cond.code yX6_shortGoes cX6_shortGoes 3 (some .int), Cond.methodLink RX6 187 yX6_putConstant, Cond.instanceMethod yX6_putConstant, Cond.selects RX6 yX6_putConstant yX6_putConstant, Cond.code yX6_putConstant cX6_putConstant 4 (some .boolean), Cond.methodLink RX6 177 yX6_fails, Cond.instanceMethod yX6_fails, Cond.selects RX6 yX6_fails yX6_fails, Cond.code yX6_fails cX6_fails 3 (some .boolean), Cond.methodLink RX6 190 yX6_putIsland]
def wsX6_grow_r5 : List Cond := [Cond.instanceMethod yX6_putIsland, Cond.selects RX6 yX6_putIsland yX6_putIsland, Cond.code yX6_putIsland cX6_putIsland 6 (some .boolean), Cond.methodLink RX6 180 yX6_gapFor, Cond.instanceMethod yX6_gapFor, Cond.selects RX6 yX6_gapFor yX6_gapFor, Cond.code yX6_gapFor cX6_gapFor 6 (some .int), Cond.methodLink RX6 194 yX6_firstStuckIsland, Cond.instanceMethod yX6_firstStuckIsland, Cond.selects RX6 yX6_firstStuckIsland yX6_firstStuckIsland, Cond.code yX6_firstStuckIsland cX6_firstStuckIsland 3 (some .int)]
def wsX6_grow : List Cond := .code yX6_grow cX6_grow 4 (some .int) :: ((wsX6_grow_r1 ++ (wsX6_grow_r2 ++ (wsX6_grow_r3 ++ (wsX6_grow_r4 ++ wsX6_grow_r5)))) ++ wsX60)
def wsX6_itemNow_r1 : List Cond := [Cond.fieldLink RX6 13 "FarReachModel" "kindOf" "[I", Cond.fieldLink RX6 16 "FarReachModel" "toldOf" "[I", Cond.fieldLink RX6 44 "FarReachModel" "addressOf" "[I", Cond.fieldLink RX6 28 "FarReachModel" "isLong" "[Z", Cond.methodLink RX6 142 yX6_sizeOf, Cond.instanceMethod yX6_sizeOf, Cond.selects RX6 yX6_sizeOf yX6_sizeOf, Cond.initialized RX6, Cond.code yX6_sizeOf cX6_sizeOf 3 (some .int), Cond.methodLink RX6 129 yX6_up, Cond.static yX6_up, Cond.code yX6_up cX6_up 2 (some .int), Cond.methodLink RX6 174 yX6_goesTo, Cond.instanceMethod yX6_goesTo, Cond.selects RX6 yX6_goesTo yX6_goesTo, Cond.code yX6_goesTo cX6_goesTo 3 (some .int), Cond.fieldLink RX6 50 "FarReachModel" "constantAt" "[I", Cond.methodLink RX6 162 yX6_constantFor, Cond.instanceMethod yX6_constantFor, Cond.selects RX6 yX6_constantFor yX6_constantFor, Cond.code yX6_constantFor cX6_constantFor 5 (some .int), Cond.fieldLink RX6 136 "FarReachModel" "constants" "I", Cond.fieldLink RX6 38 "FarReachModel" "constantValue" "[I", Cond.fieldLink RX6 19 "FarReachModel" "reaches" "[I"]
def wsX6_itemNow_r2 : List Cond := [Cond.methodLink RX6 165 yX6_goesFrom, Cond.instanceMethod yX6_goesFrom, Cond.selects RX6 yX6_goesFrom yX6_goesFrom, Cond.code yX6_goesFrom cX6_goesFrom 4 (some .int), Cond.fieldLink RX6 59 "FarReachModel" "labelAt" "[I", Cond.fieldLink RX6 47 "FarReachModel" "islandAt" "[I", Cond.methodLink RX6 155 yX6_reachesLabel, Cond.instanceMethod yX6_reachesLabel, Cond.selects RX6 yX6_reachesLabel yX6_reachesLabel, Cond.code yX6_reachesLabel cX6_reachesLabel 3 (some .boolean), Cond.methodLink RX6 151 yX6_apart, Cond.static yX6_apart, Cond.code yX6_apart cX6_apart 2 (some .int), Cond.methodLink RX6 159 yX6_islandFor, Cond.instanceMethod yX6_islandFor, Cond.selects RX6 yX6_islandFor yX6_islandFor, Cond.code yX6_islandFor cX6_islandFor 7 (some .int), Cond.fieldLink RX6 133 "FarReachModel" "islands" "I", Cond.fieldLink RX6 32 "FarReachModel" "islandLabel" "[I", Cond.constant RX6 154 (1048576), Cond.methodLink RX6 168 yX6_shortGoes, Cond.instanceMethod yX6_shortGoes, Cond.selects RX6 yX6_shortGoes yX6_shortGoes, Cond.code yX6_shortGoes cX6_shortGoes 3 (some .int)]
def wsX6_itemNow : List Cond := .code yX6_itemNow cX6_itemNow 3 (some .int) :: ((wsX6_itemNow_r1 ++ wsX6_itemNow_r2) ++ wsX60)
def wsX6_item_r1 : List Cond := [Cond.methodLink RX6 126 yX6_isItem, Cond.instanceMethod yX6_isItem, Cond.selects RX6 yX6_isItem yX6_isItem, Cond.initialized RX6, Cond.code yX6_isItem cX6_isItem 2 (some .boolean), Cond.fieldLink RX6 114 "FarReachModel" "items" "I", Cond.methodLink RX6 70 yX6_within, Cond.static yX6_within, Cond.code yX6_within cX6_within 3 (some .boolean), Cond.methodLink RX6 207 yX6_itemNow, Cond.instanceMethod yX6_itemNow, Cond.selects RX6 yX6_itemNow yX6_itemNow, Cond.code yX6_itemNow cX6_itemNow 3 (some .int), Cond.fieldLink RX6 13 "FarReachModel" "kindOf" "[I", Cond.fieldLink RX6 16 "FarReachModel" "toldOf" "[I", Cond.fieldLink RX6 44 "FarReachModel" "addressOf" "[I", Cond.fieldLink RX6 28 "FarReachModel" "isLong" "[Z", Cond.methodLink RX6 142 yX6_sizeOf, Cond.instanceMethod yX6_sizeOf, Cond.selects RX6 yX6_sizeOf yX6_sizeOf, Cond.code yX6_sizeOf cX6_sizeOf 3 (some .int), Cond.methodLink RX6 129 yX6_up, Cond.static yX6_up, Cond.code yX6_up cX6_up 2 (some .int)]
def wsX6_item_r2 : List Cond := [Cond.methodLink RX6 174 yX6_goesTo, Cond.instanceMethod yX6_goesTo, Cond.selects RX6 yX6_goesTo yX6_goesTo, Cond.code yX6_goesTo cX6_goesTo 3 (some .int), Cond.fieldLink RX6 50 "FarReachModel" "constantAt" "[I", Cond.methodLink RX6 162 yX6_constantFor, Cond.instanceMethod yX6_constantFor, Cond.selects RX6 yX6_constantFor yX6_constantFor, Cond.code yX6_constantFor cX6_constantFor 5 (some .int), Cond.fieldLink RX6 136 "FarReachModel" "constants" "I", Cond.fieldLink RX6 38 "FarReachModel" "constantValue" "[I", Cond.fieldLink RX6 19 "FarReachModel" "reaches" "[I", Cond.methodLink RX6 165 yX6_goesFrom, Cond.instanceMethod yX6_goesFrom, Cond.selects RX6 yX6_goesFrom yX6_goesFrom, Cond.code yX6_goesFrom cX6_goesFrom 4 (some .int), Cond.fieldLink RX6 59 "FarReachModel" "labelAt" "[I", Cond.fieldLink RX6 47 "FarReachModel" "islandAt" "[I", Cond.methodLink RX6 155 yX6_reachesLabel, Cond.instanceMethod yX6_reachesLabel, Cond.selects RX6 yX6_reachesLabel yX6_reachesLabel, Cond.code yX6_reachesLabel cX6_reachesLabel 3 (some .boolean), Cond.methodLink RX6 151 yX6_apart, Cond.static yX6_apart]
def wsX6_item_r3 : List Cond := [Cond.code yX6_apart cX6_apart 2 (some .int), Cond.methodLink RX6 159 yX6_islandFor, Cond.instanceMethod yX6_islandFor, Cond.selects RX6 yX6_islandFor yX6_islandFor, Cond.code yX6_islandFor cX6_islandFor 7 (some .int), Cond.fieldLink RX6 133 "FarReachModel" "islands" "I", Cond.fieldLink RX6 32 "FarReachModel" "islandLabel" "[I", Cond.constant RX6 154 (1048576), Cond.methodLink RX6 168 yX6_shortGoes, Cond.instanceMethod yX6_shortGoes, Cond.selects RX6 yX6_shortGoes yX6_shortGoes, Cond.code yX6_shortGoes cX6_shortGoes 3 (some .int)]
def wsX6_item : List Cond := .code yX6_item cX6_item 3 (some .int) :: ((wsX6_item_r1 ++ (wsX6_item_r2 ++ wsX6_item_r3)) ++ wsX60)
def wsX6_islandNow : List Cond := .code yX6_islandNow cX6_islandNow 3 (some .int) :: ([.fieldLink RX6 32 "FarReachModel" "islandLabel" "[I", .fieldLink RX6 35 "FarReachModel" "islandGap" "[I", .fieldLink RX6 47 "FarReachModel" "islandAt" "[I", .methodLink RX6 165 yX6_goesFrom, .instanceMethod yX6_goesFrom, .selects RX6 yX6_goesFrom yX6_goesFrom, .initialized RX6, .code yX6_goesFrom cX6_goesFrom 4 (some .int), .fieldLink RX6 59 "FarReachModel" "labelAt" "[I", .methodLink RX6 155 yX6_reachesLabel, .instanceMethod yX6_reachesLabel, .selects RX6 yX6_reachesLabel yX6_reachesLabel, .code yX6_reachesLabel cX6_reachesLabel 3 (some .boolean), .fieldLink RX6 19 "FarReachModel" "reaches" "[I", .methodLink RX6 151 yX6_apart, .static yX6_apart, .code yX6_apart cX6_apart 2 (some .int), .methodLink RX6 159 yX6_islandFor, .instanceMethod yX6_islandFor, .selects RX6 yX6_islandFor yX6_islandFor, .code yX6_islandFor cX6_islandFor 7 (some .int), .fieldLink RX6 133 "FarReachModel" "islands" "I", .constant RX6 154 (1048576)] ++ wsX60)
def wsX6_island_r1 : List Cond := [Cond.fieldLink RX6 133 "FarReachModel" "islands" "I", Cond.methodLink RX6 70 yX6_within, Cond.static yX6_within, Cond.initialized RX6, Cond.code yX6_within cX6_within 3 (some .boolean), Cond.methodLink RX6 210 yX6_islandNow, Cond.instanceMethod yX6_islandNow, Cond.selects RX6 yX6_islandNow yX6_islandNow, Cond.code yX6_islandNow cX6_islandNow 3 (some .int), Cond.fieldLink RX6 32 "FarReachModel" "islandLabel" "[I", Cond.fieldLink RX6 35 "FarReachModel" "islandGap" "[I", Cond.fieldLink RX6 47 "FarReachModel" "islandAt" "[I", Cond.methodLink RX6 165 yX6_goesFrom, Cond.instanceMethod yX6_goesFrom, Cond.selects RX6 yX6_goesFrom yX6_goesFrom, Cond.code yX6_goesFrom cX6_goesFrom 4 (some .int), Cond.fieldLink RX6 59 "FarReachModel" "labelAt" "[I", Cond.methodLink RX6 155 yX6_reachesLabel, Cond.instanceMethod yX6_reachesLabel, Cond.selects RX6 yX6_reachesLabel yX6_reachesLabel, Cond.code yX6_reachesLabel cX6_reachesLabel 3 (some .boolean), Cond.fieldLink RX6 19 "FarReachModel" "reaches" "[I", Cond.methodLink RX6 151 yX6_apart, Cond.static yX6_apart]
def wsX6_island_r2 : List Cond := [Cond.code yX6_apart cX6_apart 2 (some .int), Cond.methodLink RX6 159 yX6_islandFor, Cond.instanceMethod yX6_islandFor, Cond.selects RX6 yX6_islandFor yX6_islandFor, Cond.code yX6_islandFor cX6_islandFor 7 (some .int), Cond.constant RX6 154 (1048576)]
def wsX6_island : List Cond := .code yX6_island cX6_island 3 (some .int) :: ((wsX6_island_r1 ++ wsX6_island_r2) ++ wsX60)
def wsX6_loadsOf : List Cond := .code yX6_loadsOf cX6_loadsOf 4 (some .int) :: ([.fieldLink RX6 114 "FarReachModel" "items" "I", .fieldLink RX6 13 "FarReachModel" "kindOf" "[I", .methodLink RX6 162 yX6_constantFor, .instanceMethod yX6_constantFor, .selects RX6 yX6_constantFor yX6_constantFor, .initialized RX6, .code yX6_constantFor cX6_constantFor 5 (some .int), .fieldLink RX6 136 "FarReachModel" "constants" "I", .fieldLink RX6 50 "FarReachModel" "constantAt" "[I", .fieldLink RX6 44 "FarReachModel" "addressOf" "[I", .fieldLink RX6 38 "FarReachModel" "constantValue" "[I", .fieldLink RX6 16 "FarReachModel" "toldOf" "[I", .fieldLink RX6 19 "FarReachModel" "reaches" "[I"] ++ wsX60)
def wsX6_constantNow : List Cond := .code yX6_constantNow cX6_constantNow 3 (some .int) :: ([.fieldLink RX6 38 "FarReachModel" "constantValue" "[I", .fieldLink RX6 41 "FarReachModel" "constantGap" "[I", .fieldLink RX6 50 "FarReachModel" "constantAt" "[I", .methodLink RX6 213 yX6_loadsOf, .instanceMethod yX6_loadsOf, .selects RX6 yX6_loadsOf yX6_loadsOf, .initialized RX6, .code yX6_loadsOf cX6_loadsOf 4 (some .int), .fieldLink RX6 114 "FarReachModel" "items" "I", .fieldLink RX6 13 "FarReachModel" "kindOf" "[I", .methodLink RX6 162 yX6_constantFor, .instanceMethod yX6_constantFor, .selects RX6 yX6_constantFor yX6_constantFor, .code yX6_constantFor cX6_constantFor 5 (some .int), .fieldLink RX6 136 "FarReachModel" "constants" "I", .fieldLink RX6 44 "FarReachModel" "addressOf" "[I", .fieldLink RX6 16 "FarReachModel" "toldOf" "[I", .fieldLink RX6 19 "FarReachModel" "reaches" "[I"] ++ wsX60)
def wsX6_constant_r1 : List Cond := [Cond.fieldLink RX6 136 "FarReachModel" "constants" "I", Cond.methodLink RX6 70 yX6_within, Cond.static yX6_within, Cond.initialized RX6, Cond.code yX6_within cX6_within 3 (some .boolean), Cond.methodLink RX6 216 yX6_constantNow, Cond.instanceMethod yX6_constantNow, Cond.selects RX6 yX6_constantNow yX6_constantNow, Cond.code yX6_constantNow cX6_constantNow 3 (some .int), Cond.fieldLink RX6 38 "FarReachModel" "constantValue" "[I", Cond.fieldLink RX6 41 "FarReachModel" "constantGap" "[I", Cond.fieldLink RX6 50 "FarReachModel" "constantAt" "[I", Cond.methodLink RX6 213 yX6_loadsOf, Cond.instanceMethod yX6_loadsOf, Cond.selects RX6 yX6_loadsOf yX6_loadsOf, Cond.code yX6_loadsOf cX6_loadsOf 4 (some .int), Cond.fieldLink RX6 114 "FarReachModel" "items" "I", Cond.fieldLink RX6 13 "FarReachModel" "kindOf" "[I", Cond.methodLink RX6 162 yX6_constantFor, Cond.instanceMethod yX6_constantFor, Cond.selects RX6 yX6_constantFor yX6_constantFor, Cond.code yX6_constantFor cX6_constantFor 5 (some .int), Cond.fieldLink RX6 44 "FarReachModel" "addressOf" "[I", Cond.fieldLink RX6 16 "FarReachModel" "toldOf" "[I"]
def wsX6_constant_r2 : List Cond := [Cond.fieldLink RX6 19 "FarReachModel" "reaches" "[I"]
def wsX6_constant : List Cond := .code yX6_constant cX6_constant 3 (some .int) :: ((wsX6_constant_r1 ++ wsX6_constant_r2) ++ wsX60)
def wsX6_hopsNow_r1 : List Cond := [Cond.fieldLink RX6 16 "FarReachModel" "toldOf" "[I", Cond.fieldLink RX6 28 "FarReachModel" "isLong" "[Z", Cond.fieldLink RX6 44 "FarReachModel" "addressOf" "[I", Cond.fieldLink RX6 47 "FarReachModel" "islandAt" "[I", Cond.methodLink RX6 168 yX6_shortGoes, Cond.instanceMethod yX6_shortGoes, Cond.selects RX6 yX6_shortGoes yX6_shortGoes, Cond.initialized RX6, Cond.code yX6_shortGoes cX6_shortGoes 3 (some .int), Cond.fieldLink RX6 59 "FarReachModel" "labelAt" "[I", Cond.fieldLink RX6 19 "FarReachModel" "reaches" "[I", Cond.methodLink RX6 151 yX6_apart, Cond.static yX6_apart, Cond.code yX6_apart cX6_apart 2 (some .int), Cond.methodLink RX6 155 yX6_reachesLabel, Cond.instanceMethod yX6_reachesLabel, Cond.selects RX6 yX6_reachesLabel yX6_reachesLabel, Cond.code yX6_reachesLabel cX6_reachesLabel 3 (some .boolean), Cond.methodLink RX6 159 yX6_islandFor, Cond.instanceMethod yX6_islandFor, Cond.selects RX6 yX6_islandFor yX6_islandFor, Cond.code yX6_islandFor cX6_islandFor 7 (some .int), Cond.fieldLink RX6 133 "FarReachModel" "islands" "I", Cond.fieldLink RX6 32 "FarReachModel" "islandLabel" "[I"]
def wsX6_hopsNow_r2 : List Cond := [Cond.constant RX6 154 (1048576)]
def wsX6_hopsNow : List Cond := .code yX6_hopsNow cX6_hopsNow 6 (some .int) :: ((wsX6_hopsNow_r1 ++ wsX6_hopsNow_r2) ++ wsX60)
def wsX6_hops_r1 : List Cond := [Cond.fieldLink RX6 13 "FarReachModel" "kindOf" "[I", Cond.methodLink RX6 126 yX6_isItem, Cond.instanceMethod yX6_isItem, Cond.selects RX6 yX6_isItem yX6_isItem, Cond.initialized RX6, Cond.code yX6_isItem cX6_isItem 2 (some .boolean), Cond.fieldLink RX6 114 "FarReachModel" "items" "I", Cond.methodLink RX6 70 yX6_within, Cond.static yX6_within, Cond.code yX6_within cX6_within 3 (some .boolean), Cond.methodLink RX6 219 yX6_hopsNow, Cond.instanceMethod yX6_hopsNow, Cond.selects RX6 yX6_hopsNow yX6_hopsNow, Cond.code yX6_hopsNow cX6_hopsNow 6 (some .int), Cond.fieldLink RX6 16 "FarReachModel" "toldOf" "[I", Cond.fieldLink RX6 28 "FarReachModel" "isLong" "[Z", Cond.fieldLink RX6 44 "FarReachModel" "addressOf" "[I", Cond.fieldLink RX6 47 "FarReachModel" "islandAt" "[I", Cond.methodLink RX6 168 yX6_shortGoes, Cond.instanceMethod yX6_shortGoes, Cond.selects RX6 yX6_shortGoes yX6_shortGoes, Cond.code yX6_shortGoes cX6_shortGoes 3 (some .int), Cond.fieldLink RX6 59 "FarReachModel" "labelAt" "[I", Cond.fieldLink RX6 19 "FarReachModel" "reaches" "[I"]
def wsX6_hops_r2 : List Cond := [Cond.methodLink RX6 151 yX6_apart, Cond.static yX6_apart, Cond.code yX6_apart cX6_apart 2 (some .int), Cond.methodLink RX6 155 yX6_reachesLabel, Cond.instanceMethod yX6_reachesLabel, Cond.selects RX6 yX6_reachesLabel yX6_reachesLabel, Cond.code yX6_reachesLabel cX6_reachesLabel 3 (some .boolean), Cond.methodLink RX6 159 yX6_islandFor, Cond.instanceMethod yX6_islandFor, Cond.selects RX6 yX6_islandFor yX6_islandFor, Cond.code yX6_islandFor cX6_islandFor 7 (some .int), Cond.fieldLink RX6 133 "FarReachModel" "islands" "I", Cond.fieldLink RX6 32 "FarReachModel" "islandLabel" "[I", Cond.constant RX6 154 (1048576)]
def wsX6_hops : List Cond := .code yX6_hops cX6_hops 2 (some .int) :: ((wsX6_hops_r1 ++ wsX6_hops_r2) ++ wsX60)
def wsX6_longMany : List Cond := .code yX6_longMany cX6_longMany 3 (some .int) :: ([.fieldLink RX6 114 "FarReachModel" "items" "I", .fieldLink RX6 28 "FarReachModel" "isLong" "[Z"] ++ wsX60)
def wsX6_placedNow : List Cond := .code yX6_placedNow cX6_placedNow 2 (some .int) :: ([.fieldLink RX6 62 "FarReachModel" "isGood" "Z", .fieldLink RX6 197 "FarReachModel" "rounds" "I", .fieldLink RX6 114 "FarReachModel" "items" "I", .fieldLink RX6 148 "FarReachModel" "bytesAll" "I", .fieldLink RX6 139 "FarReachModel" "filled" "I", .fieldLink RX6 171 "FarReachModel" "failsBy" "I", .fieldLink RX6 66 "FarReachModel" "failsAt" "I", .fieldLink RX6 133 "FarReachModel" "islands" "I", .fieldLink RX6 136 "FarReachModel" "constants" "I", .methodLink RX6 222 yX6_longMany, .instanceMethod yX6_longMany, .selects RX6 yX6_longMany yX6_longMany, .initialized RX6, .code yX6_longMany cX6_longMany 3 (some .int), .fieldLink RX6 28 "FarReachModel" "isLong" "[Z"] ++ wsX60)
def wsX6_placed : List Cond := .code yX6_placed cX6_placed 2 (some .int) :: ([.methodLink RX6 70 yX6_within, .static yX6_within, .initialized RX6, .code yX6_within cX6_within 3 (some .boolean), .methodLink RX6 225 yX6_placedNow, .instanceMethod yX6_placedNow, .selects RX6 yX6_placedNow yX6_placedNow, .code yX6_placedNow cX6_placedNow 2 (some .int), .fieldLink RX6 62 "FarReachModel" "isGood" "Z", .fieldLink RX6 197 "FarReachModel" "rounds" "I", .fieldLink RX6 114 "FarReachModel" "items" "I", .fieldLink RX6 148 "FarReachModel" "bytesAll" "I", .fieldLink RX6 139 "FarReachModel" "filled" "I", .fieldLink RX6 171 "FarReachModel" "failsBy" "I", .fieldLink RX6 66 "FarReachModel" "failsAt" "I", .fieldLink RX6 133 "FarReachModel" "islands" "I", .fieldLink RX6 136 "FarReachModel" "constants" "I", .methodLink RX6 222 yX6_longMany, .instanceMethod yX6_longMany, .selects RX6 yX6_longMany yX6_longMany, .code yX6_longMany cX6_longMany 3 (some .int), .fieldLink RX6 28 "FarReachModel" "isLong" "[Z"] ++ wsX60)
def wsX6_gaps : List Cond := .code yX6_gaps cX6_gaps 3 (some .int) :: ([.fieldLink RX6 114 "FarReachModel" "items" "I", .fieldLink RX6 13 "FarReachModel" "kindOf" "[I"] ++ wsX60)
def wsX6_howMany : List Cond := .code yX6_howMany cX6_howMany 2 (some .int) :: ([.fieldLink RX6 114 "FarReachModel" "items" "I", .fieldLink RX6 74 "FarReachModel" "pageLength" "I", .fieldLink RX6 19 "FarReachModel" "reaches" "[I", .fieldLink RX6 117 "FarReachModel" "codesRead" "I", .fieldLink RX6 123 "FarReachModel" "altered" "I", .methodLink RX6 228 yX6_gaps, .instanceMethod yX6_gaps, .selects RX6 yX6_gaps yX6_gaps, .initialized RX6, .code yX6_gaps cX6_gaps 3 (some .int), .fieldLink RX6 13 "FarReachModel" "kindOf" "[I"] ++ wsX60)
def wsX6_count : List Cond := .code yX6_count cX6_count 2 (some .int) :: ([.methodLink RX6 231 yX6_howMany, .instanceMethod yX6_howMany, .selects RX6 yX6_howMany yX6_howMany, .initialized RX6, .code yX6_howMany cX6_howMany 2 (some .int), .fieldLink RX6 114 "FarReachModel" "items" "I", .fieldLink RX6 74 "FarReachModel" "pageLength" "I", .fieldLink RX6 19 "FarReachModel" "reaches" "[I", .fieldLink RX6 117 "FarReachModel" "codesRead" "I", .fieldLink RX6 123 "FarReachModel" "altered" "I", .methodLink RX6 228 yX6_gaps, .instanceMethod yX6_gaps, .selects RX6 yX6_gaps yX6_gaps, .code yX6_gaps cX6_gaps 3 (some .int), .fieldLink RX6 13 "FarReachModel" "kindOf" "[I"] ++ wsX60)
def wsX6_mix : List Cond := .code yX6_mix cX6_mix 3 none :: ([.constantLong RX6 234 (31), .fieldLink RX6 236 "FarReachModel" "h" "J"] ++ wsX60)
def wsX6_digest_r1 : List Cond := [Cond.constantLong RX6 240 (1637), Cond.fieldLink RX6 236 "FarReachModel" "h" "J", Cond.fieldLink RX6 114 "FarReachModel" "items" "I", Cond.fieldLink RX6 133 "FarReachModel" "islands" "I", Cond.fieldLink RX6 136 "FarReachModel" "constants" "I", Cond.fieldLink RX6 74 "FarReachModel" "pageLength" "I", Cond.fieldLink RX6 7 "FarReachModel" "page" "[I", Cond.methodLink RX6 207 yX6_itemNow, Cond.instanceMethod yX6_itemNow, Cond.selects RX6 yX6_itemNow yX6_itemNow, Cond.initialized RX6, Cond.code yX6_itemNow cX6_itemNow 3 (some .int), Cond.fieldLink RX6 13 "FarReachModel" "kindOf" "[I", Cond.fieldLink RX6 16 "FarReachModel" "toldOf" "[I", Cond.fieldLink RX6 44 "FarReachModel" "addressOf" "[I", Cond.fieldLink RX6 28 "FarReachModel" "isLong" "[Z", Cond.methodLink RX6 142 yX6_sizeOf, Cond.instanceMethod yX6_sizeOf, Cond.selects RX6 yX6_sizeOf yX6_sizeOf, Cond.code yX6_sizeOf cX6_sizeOf 3 (some .int), Cond.methodLink RX6 129 yX6_up, Cond.static yX6_up, Cond.code yX6_up cX6_up 2 (some .int), Cond.methodLink RX6 174 yX6_goesTo]
def wsX6_digest_r2 : List Cond := [Cond.instanceMethod yX6_goesTo, Cond.selects RX6 yX6_goesTo yX6_goesTo, Cond.code yX6_goesTo cX6_goesTo 3 (some .int), Cond.fieldLink RX6 50 "FarReachModel" "constantAt" "[I", Cond.methodLink RX6 162 yX6_constantFor, Cond.instanceMethod yX6_constantFor, Cond.selects RX6 yX6_constantFor yX6_constantFor, Cond.code yX6_constantFor cX6_constantFor 5 (some .int), Cond.fieldLink RX6 38 "FarReachModel" "constantValue" "[I", Cond.fieldLink RX6 19 "FarReachModel" "reaches" "[I", Cond.methodLink RX6 165 yX6_goesFrom, Cond.instanceMethod yX6_goesFrom, Cond.selects RX6 yX6_goesFrom yX6_goesFrom, Cond.code yX6_goesFrom cX6_goesFrom 4 (some .int), Cond.fieldLink RX6 59 "FarReachModel" "labelAt" "[I", Cond.fieldLink RX6 47 "FarReachModel" "islandAt" "[I", Cond.methodLink RX6 155 yX6_reachesLabel, Cond.instanceMethod yX6_reachesLabel, Cond.selects RX6 yX6_reachesLabel yX6_reachesLabel, Cond.code yX6_reachesLabel cX6_reachesLabel 3 (some .boolean), Cond.methodLink RX6 151 yX6_apart, Cond.static yX6_apart, Cond.code yX6_apart cX6_apart 2 (some .int), Cond.methodLink RX6 159 yX6_islandFor]
def wsX6_digest_r3 : List Cond := [Cond.instanceMethod yX6_islandFor, Cond.selects RX6 yX6_islandFor yX6_islandFor, Cond.code yX6_islandFor cX6_islandFor 7 (some .int), Cond.fieldLink RX6 32 "FarReachModel" "islandLabel" "[I", Cond.constant RX6 154 (1048576), Cond.methodLink RX6 168 yX6_shortGoes, Cond.instanceMethod yX6_shortGoes, Cond.selects RX6 yX6_shortGoes yX6_shortGoes, Cond.code yX6_shortGoes cX6_shortGoes 3 (some .int), Cond.methodLink RX6 242 yX6_mix, Cond.instanceMethod yX6_mix, Cond.selects RX6 yX6_mix yX6_mix, Cond.code yX6_mix cX6_mix 3 none, Cond.constantLong RX6 234 (31), Cond.methodLink RX6 210 yX6_islandNow, Cond.instanceMethod yX6_islandNow, Cond.selects RX6 yX6_islandNow yX6_islandNow, Cond.code yX6_islandNow cX6_islandNow 3 (some .int), Cond.fieldLink RX6 35 "FarReachModel" "islandGap" "[I", Cond.methodLink RX6 216 yX6_constantNow, Cond.instanceMethod yX6_constantNow, Cond.selects RX6 yX6_constantNow yX6_constantNow, Cond.code yX6_constantNow cX6_constantNow 3 (some .int), Cond.fieldLink RX6 41 "FarReachModel" "constantGap" "[I"]
def wsX6_digest_r4 : List Cond := [Cond.methodLink RX6 213 yX6_loadsOf, Cond.instanceMethod yX6_loadsOf, Cond.selects RX6 yX6_loadsOf yX6_loadsOf, Cond.code yX6_loadsOf cX6_loadsOf 4 (some .int), Cond.methodLink RX6 225 yX6_placedNow, Cond.instanceMethod yX6_placedNow, Cond.selects RX6 yX6_placedNow yX6_placedNow, Cond.code yX6_placedNow cX6_placedNow 2 (some .int), Cond.fieldLink RX6 62 "FarReachModel" "isGood" "Z", Cond.fieldLink RX6 197 "FarReachModel" "rounds" "I", Cond.fieldLink RX6 148 "FarReachModel" "bytesAll" "I", Cond.fieldLink RX6 139 "FarReachModel" "filled" "I", Cond.fieldLink RX6 171 "FarReachModel" "failsBy" "I", Cond.fieldLink RX6 66 "FarReachModel" "failsAt" "I", Cond.methodLink RX6 222 yX6_longMany, Cond.instanceMethod yX6_longMany, Cond.selects RX6 yX6_longMany yX6_longMany, Cond.code yX6_longMany cX6_longMany 3 (some .int), Cond.methodLink RX6 231 yX6_howMany, Cond.instanceMethod yX6_howMany, Cond.selects RX6 yX6_howMany yX6_howMany, Cond.code yX6_howMany cX6_howMany 2 (some .int), Cond.fieldLink RX6 117 "FarReachModel" "codesRead" "I", Cond.fieldLink RX6 123 "FarReachModel" "altered" "I"]
def wsX6_digest_r5 : List Cond := [Cond.methodLink RX6 228 yX6_gaps, Cond.instanceMethod yX6_gaps, Cond.selects RX6 yX6_gaps yX6_gaps, Cond.code yX6_gaps cX6_gaps 3 (some .int)]
def wsX6_digest : List Cond := .code yX6_digest cX6_digest 2 (some .long) :: ((wsX6_digest_r1 ++ (wsX6_digest_r2 ++ (wsX6_digest_r3 ++ (wsX6_digest_r4 ++ wsX6_digest_r5)))) ++ wsX60)
def wsJ9_max_7cf53 : List Cond := .code yJ9_max_7cf53 cJ9_max_7cf53 2 (some .int) :: ([])
def wsL_law_r1 : List Cond := [Cond.classLink RL 7 RX5, Cond.instantiable RX5 7, Cond.initialized RX5, Cond.classLink RL 10 RX6, Cond.instantiable RX6 34, Cond.initialized RX6, Cond.methodLink RL 9 yX5_init, Cond.instanceMethod yX5_init, Cond.code yX5_init cX5_init 1 none, Cond.methodLink RX5 3 objectInit, Cond.instanceMethod objectInit, Cond.code objectInit ⟨#[0xb1]⟩ 1 none, Cond.classLink RX5 9 RX1, Cond.instantiable RX1 2, Cond.initialized RX1, Cond.fieldLink RX5 12 "FarReach" "page" "LFarReach$Page;", Cond.classLink RX5 16 RX3, Cond.instantiable RX3 4, Cond.initialized RX3, Cond.fieldLink RX5 19 "FarReach" "reader" "LFarReach$Reader;", Cond.classLink RX5 23 RX0, Cond.instantiable RX0 4, Cond.initialized RX0, Cond.fieldLink RX5 26 "FarReach" "program" "LFarReach$Items;"]
def wsL_law_r2 : List Cond := [Cond.arrayClass .int, Cond.fieldLink RX5 30 "FarReach" "reaches" "[I", Cond.classLink RX5 34 RX2, Cond.instantiable RX2 16, Cond.initialized RX2, Cond.fieldLink RX5 39 "FarReach" "placing" "LFarReach$Placing;", Cond.instanceMethod yX1_init, Cond.code yX1_init cX1_init 1 none, Cond.methodLink RX1 3 objectInit, Cond.fieldLink RX1 9 "FarReach$Page" "letters" "[I", Cond.instanceMethod yX3_init, Cond.code yX3_init cX3_init 1 none, Cond.methodLink RX3 3 objectInit, Cond.classLink RX3 9 RX0, Cond.fieldLink RX3 12 "FarReach$Reader" "items" "LFarReach$Items;", Cond.instanceMethod yX0_init, Cond.code yX0_init cX0_init 1 none, Cond.methodLink RX0 3 objectInit, Cond.fieldLink RX0 9 "FarReach$Items" "kinds" "[I", Cond.fieldLink RX0 15 "FarReach$Items" "told" "[I", Cond.methodLink RX5 36 yX2_init, Cond.instanceMethod yX2_init, Cond.code yX2_init cX2_init 3 none, Cond.methodLink RX2 3 objectInit]
def wsL_law_r3 : List Cond := [Cond.classLink RX2 9 RX4, Cond.instantiable RX4 6, Cond.initialized RX4, Cond.fieldLink RX2 14 "FarReach$Placing" "islands" "LFarReach$Stock;", Cond.fieldLink RX2 20 "FarReach$Placing" "constants" "LFarReach$Stock;", Cond.arrayClass .boolean, Cond.fieldLink RX2 23 "FarReach$Placing" "longs" "[Z", Cond.fieldLink RX2 27 "FarReach$Placing" "addresses" "[I", Cond.fieldLink RX2 31 "FarReach$Placing" "sizes" "[I", Cond.fieldLink RX2 34 "FarReach$Placing" "labelAddresses" "[I", Cond.fieldLink RX2 37 "FarReach$Placing" "aims" "[I", Cond.fieldLink RX2 40 "FarReach$Placing" "islandAims" "[I", Cond.fieldLink RX2 43 "FarReach$Placing" "failedAt" "I", Cond.fieldLink RX2 47 "FarReach$Placing" "failedNumber" "I", Cond.fieldLink RX2 50 "FarReach$Placing" "program" "LFarReach$Items;", Cond.fieldLink RX2 54 "FarReach$Placing" "reaches" "[I", Cond.methodLink RX2 11 yX4_init, Cond.instanceMethod yX4_init, Cond.code yX4_init cX4_init 3 none, Cond.methodLink RX4 3 objectInit, Cond.fieldLink RX4 9 "FarReach$Stock" "inGap" "[I", Cond.fieldLink RX4 15 "FarReach$Stock" "starts" "[I", Cond.methodLink RX4 18 Lib.Math.max.name, Cond.static Lib.Math.max.name]
def wsL_law_r4 : List Cond := [Cond.initialized "java/lang/Math", Cond.code Lib.Math.max.name Lib.Math.max.code 2 (some .int), Cond.fieldLink RX4 24 "FarReach$Stock" "names" "[I", Cond.fieldLink RX4 27 "FarReach$Stock" "returns" "[I", Cond.fieldLink RX4 30 "FarReach$Stock" "places" "[I", Cond.methodLink RL 12 yX6_init, Cond.instanceMethod yX6_init, Cond.code yX6_init cX6_init 1 none, Cond.methodLink RX6 1 objectInit, Cond.fieldLink RX6 7 "FarReachModel" "page" "[I", Cond.fieldLink RX6 13 "FarReachModel" "kindOf" "[I", Cond.fieldLink RX6 16 "FarReachModel" "toldOf" "[I", Cond.fieldLink RX6 19 "FarReachModel" "reaches" "[I", Cond.fieldLink RX6 22 "FarReachModel" "newKind" "[I", Cond.fieldLink RX6 25 "FarReachModel" "newTold" "[I", Cond.fieldLink RX6 28 "FarReachModel" "isLong" "[Z", Cond.fieldLink RX6 32 "FarReachModel" "islandLabel" "[I", Cond.fieldLink RX6 35 "FarReachModel" "islandGap" "[I", Cond.fieldLink RX6 38 "FarReachModel" "constantValue" "[I", Cond.fieldLink RX6 41 "FarReachModel" "constantGap" "[I", Cond.fieldLink RX6 44 "FarReachModel" "addressOf" "[I", Cond.fieldLink RX6 47 "FarReachModel" "islandAt" "[I", Cond.fieldLink RX6 50 "FarReachModel" "constantAt" "[I", Cond.fieldLink RX6 53 "FarReachModel" "islandsEnd" "[I"]
def wsL_law_r5 : List Cond := [Cond.fieldLink RX6 56 "FarReachModel" "constantsEnd" "[I", Cond.fieldLink RX6 59 "FarReachModel" "labelAt" "[I", Cond.fieldLink RX6 62 "FarReachModel" "isGood" "Z", Cond.fieldLink RX6 66 "FarReachModel" "failsAt" "I", Cond.methodLink RL 13 yX5_letter, Cond.instanceMethod yX5_letter, Cond.selects RX5 yX5_letter yX5_letter, Cond.code yX5_letter cX5_letter 2 (some .int), Cond.methodLink RX5 43 yX1_append, Cond.instanceMethod yX1_append, Cond.selects RX1 yX1_append yX1_append, Cond.code yX1_append cX1_append 2 (some .boolean), Cond.fieldLink RX1 15 "FarReach$Page" "length" "I", Cond.methodLink RX5 47 yX1_length, Cond.instanceMethod yX1_length, Cond.selects RX1 yX1_length yX1_length, Cond.code yX1_length cX1_length 1 (some .int), Cond.methodLink RL 17 yX6_letter, Cond.instanceMethod yX6_letter, Cond.selects RX6 yX6_letter yX6_letter, Cond.code yX6_letter cX6_letter 2 (some .int), Cond.fieldLink RX6 74 "FarReachModel" "pageLength" "I", Cond.methodLink RX6 70 yX6_within, Cond.static yX6_within]
def wsL_law_r6 : List Cond := [Cond.code yX6_within cX6_within 3 (some .boolean), Cond.methodLink RL 18 yX5_blank, Cond.instanceMethod yX5_blank, Cond.selects RX5 yX5_blank yX5_blank, Cond.code yX5_blank cX5_blank 2 (some .int), Cond.methodLink RX5 51 yX1_clear, Cond.instanceMethod yX1_clear, Cond.selects RX1 yX1_clear yX1_clear, Cond.code yX1_clear cX1_clear 1 none, Cond.methodLink RL 22 yX6_blank, Cond.instanceMethod yX6_blank, Cond.selects RX6 yX6_blank yX6_blank, Cond.code yX6_blank cX6_blank 2 (some .int), Cond.methodLink RL 23 yX5_fault, Cond.instanceMethod yX5_fault, Cond.selects RX5 yX5_fault yX5_fault, Cond.code yX5_fault cX5_fault 1 (some .int), Cond.methodLink RX5 54 yX3_read, Cond.instanceMethod yX3_read, Cond.selects RX3 yX3_read yX3_read, Cond.code yX3_read cX3_read 5 (some .int), Cond.fieldLink RX3 21 "FarReach$Reader" "open" "I", Cond.fieldLink RX3 25 "FarReach$Reader" "labelsMet" "I", Cond.fieldLink RX3 28 "FarReach$Reader" "labelsWanted" "I"]
def wsL_law_r7 : List Cond := [Cond.methodLink RX3 18 yX0_clear, Cond.instanceMethod yX0_clear, Cond.selects RX0 yX0_clear yX0_clear, Cond.code yX0_clear cX0_clear 1 none, Cond.fieldLink RX0 18 "FarReach$Items" "size" "I", Cond.fieldLink RX0 22 "FarReach$Items" "gaps" "I", Cond.methodLink RX3 31 yX1_length, Cond.methodLink RX3 37 yX1_letterAt, Cond.instanceMethod yX1_letterAt, Cond.selects RX1 yX1_letterAt yX1_letterAt, Cond.code yX1_letterAt cX1_letterAt 2 (some .int), Cond.methodLink RX3 41 yX3_begins, Cond.instanceMethod yX3_begins, Cond.selects RX3 yX3_begins yX3_begins, Cond.code yX3_begins cX3_begins 3 (some .boolean), Cond.methodLink RX3 51 yX3_kindBegunBy, Cond.static yX3_kindBegunBy, Cond.code yX3_kindBegunBy cX3_kindBegunBy 1 (some .int), Cond.methodLink RX3 48 yX0_size, Cond.instanceMethod yX0_size, Cond.selects RX0 yX0_size yX0_size, Cond.code yX0_size cX0_size 1 (some .int), Cond.methodLink RX3 54 yX0_add, Cond.instanceMethod yX0_add]
def wsL_law_r8 : List Cond := [Cond.selects RX0 yX0_add yX0_add, Cond.code yX0_add cX0_add 3 (some .boolean), Cond.methodLink RX3 45 yX3_ends, Cond.instanceMethod yX3_ends, Cond.selects RX3 yX3_ends yX3_ends, Cond.code yX3_ends cX3_ends 3 (some .boolean), Cond.methodLink RX3 58 yX3_endsWithLabel, Cond.instanceMethod yX3_endsWithLabel, Cond.selects RX3 yX3_endsWithLabel yX3_endsWithLabel, Cond.code yX3_endsWithLabel cX3_endsWithLabel 4 (some .boolean), Cond.methodLink RL 26 yX6_fault, Cond.instanceMethod yX6_fault, Cond.selects RX6 yX6_fault yX6_fault, Cond.code yX6_fault cX6_fault 1 (some .int), Cond.methodLink RX6 110 yX6_goAlong, Cond.instanceMethod yX6_goAlong, Cond.selects RX6 yX6_goAlong yX6_goAlong, Cond.code yX6_goAlong cX6_goAlong 2 (some .int), Cond.fieldLink RX6 77 "FarReachModel" "newItems" "I", Cond.fieldLink RX6 80 "FarReachModel" "begun" "I", Cond.fieldLink RX6 91 "FarReachModel" "cameLabels" "I", Cond.fieldLink RX6 94 "FarReachModel" "ledLabels" "I", Cond.methodLink RX6 107 yX6_takes, Cond.instanceMethod yX6_takes]
def wsL_law_r9 : List Cond := [Cond.selects RX6 yX6_takes yX6_takes, Cond.code yX6_takes cX6_takes 2 (some .boolean), Cond.methodLink RX6 97 yX6_takesFirst, Cond.instanceMethod yX6_takesFirst, Cond.selects RX6 yX6_takesFirst yX6_takesFirst, Cond.code yX6_takesFirst cX6_takesFirst 3 (some .boolean), Cond.methodLink RX6 83 yX6_kindBy, Cond.static yX6_kindBy, Cond.code yX6_kindBy cX6_kindBy 1 (some .int), Cond.methodLink RX6 87 yX6_keepItem, Cond.instanceMethod yX6_keepItem, Cond.selects RX6 yX6_keepItem yX6_keepItem, Cond.code yX6_keepItem cX6_keepItem 3 none, Cond.methodLink RX6 101 yX6_takesLetter, Cond.instanceMethod yX6_takesLetter, Cond.selects RX6 yX6_takesLetter yX6_takesLetter, Cond.code yX6_takesLetter cX6_takesLetter 3 (some .boolean), Cond.methodLink RX6 104 yX6_takesFigure, Cond.instanceMethod yX6_takesFigure, Cond.selects RX6 yX6_takesFigure yX6_takesFigure, Cond.code yX6_takesFigure cX6_takesFigure 3 (some .boolean), Cond.methodLink RL 27 yX5_code, Cond.instanceMethod yX5_code, Cond.selects RX5 yX5_code yX5_code]
def wsL_law_r10 : List Cond := [Cond.code yX5_code cX5_code 1 (some .int), Cond.fieldLink RX5 69 "FarReach" "timesRead" "I", Cond.methodLink RX5 58 yX3_isWhole, Cond.instanceMethod yX3_isWhole, Cond.selects RX3 yX3_isWhole yX3_isWhole, Cond.code yX3_isWhole cX3_isWhole 1 (some .boolean), Cond.methodLink RX5 65 yX0_takeFrom, Cond.instanceMethod yX0_takeFrom, Cond.selects RX0 yX0_takeFrom yX0_takeFrom, Cond.code yX0_takeFrom cX0_takeFrom 3 none, Cond.methodLink RX0 25 yX0_clear, Cond.methodLink RX0 28 yX0_size, Cond.methodLink RX0 31 yX0_kindOf, Cond.instanceMethod yX0_kindOf, Cond.selects RX0 yX0_kindOf yX0_kindOf, Cond.code yX0_kindOf cX0_kindOf 2 (some .int), Cond.methodLink RX0 42 yX0_has, Cond.instanceMethod yX0_has, Cond.selects RX0 yX0_has yX0_has, Cond.code yX0_has cX0_has 2 (some .boolean), Cond.methodLink RX0 35 yX0_toldOf, Cond.instanceMethod yX0_toldOf, Cond.selects RX0 yX0_toldOf yX0_toldOf, Cond.code yX0_toldOf cX0_toldOf 2 (some .int)]
def wsL_law_r11 : List Cond := [Cond.methodLink RX0 38 yX0_add, Cond.methodLink RX5 73 yX2_placeAll, Cond.instanceMethod yX2_placeAll, Cond.selects RX2 yX2_placeAll yX2_placeAll, Cond.code yX2_placeAll cX2_placeAll 2 none, Cond.fieldLink RX2 66 "FarReach$Placing" "rounds" "I", Cond.methodLink RX2 57 yX2_clear, Cond.instanceMethod yX2_clear, Cond.selects RX2 yX2_clear yX2_clear, Cond.code yX2_clear cX2_clear 2 none, Cond.fieldLink RX2 83 "FarReach$Placing" "longBranches" "I", Cond.fieldLink RX2 86 "FarReach$Placing" "bytes" "I", Cond.fieldLink RX2 89 "FarReach$Placing" "filled" "I", Cond.methodLink RX2 82 yX4_clear, Cond.instanceMethod yX4_clear, Cond.selects RX4 yX4_clear yX4_clear, Cond.code yX4_clear cX4_clear 2 none, Cond.fieldLink RX4 33 "FarReach$Stock" "size" "I", Cond.methodLink RX2 60 yX0_size, Cond.methodLink RX2 69 yX2_lay, Cond.instanceMethod yX2_lay, Cond.selects RX2 yX2_lay yX2_lay, Cond.code yX2_lay cX2_lay 5 none, Cond.methodLink RX2 92 yX0_kindOf]
def wsL_law_r12 : List Cond := [Cond.methodLink RX2 96 yX2_sizeAt, Cond.instanceMethod yX2_sizeAt, Cond.selects RX2 yX2_sizeAt yX2_sizeAt, Cond.code yX2_sizeAt cX2_sizeAt 3 (some .int), Cond.methodLink RX2 100 yX0_toldOf, Cond.methodLink RX2 110 yX2_isLong, Cond.instanceMethod yX2_isLong, Cond.selects RX2 yX2_isLong yX2_isLong, Cond.code yX2_isLong cX2_isLong 2 (some .boolean), Cond.static yX5_fillTo, Cond.code yX5_fillTo cX5_fillTo 2 (some .int), Cond.methodLink RX2 103 yX2_noteLabel, Cond.instanceMethod yX2_noteLabel, Cond.selects RX2 yX2_noteLabel yX2_noteLabel, Cond.code yX2_noteLabel cX2_noteLabel 3 none, Cond.methodLink RX2 107 yX2_layGap, Cond.instanceMethod yX2_layGap, Cond.selects RX2 yX2_layGap yX2_layGap, Cond.code yX2_layGap cX2_layGap 5 (some .int), Cond.methodLink RX2 117 yX4_lay, Cond.instanceMethod yX4_lay, Cond.selects RX4 yX4_lay yX4_lay, Cond.code yX4_lay cX4_lay 3 (some .int), Cond.methodLink RX4 37 yX4_isItem]
def wsL_law_r13 : List Cond := [Cond.static yX4_isItem, Cond.code yX4_isItem cX4_isItem 1 (some .boolean), Cond.methodLink RX2 119 yX4_isIn, Cond.instanceMethod yX4_isIn, Cond.selects RX4 yX4_isIn yX4_isIn, Cond.code yX4_isIn cX4_isIn 2 (some .boolean), Cond.methodLink RX2 72 yX2_aimItems, Cond.instanceMethod yX2_aimItems, Cond.selects RX2 yX2_aimItems yX2_aimItems, Cond.code yX2_aimItems cX2_aimItems 3 none, Cond.methodLink RX2 122 yX2_addressOf, Cond.instanceMethod yX2_addressOf, Cond.selects RX2 yX2_addressOf yX2_addressOf, Cond.code yX2_addressOf cX2_addressOf 2 (some .int), Cond.methodLink RX2 125 yX2_constantFor, Cond.instanceMethod yX2_constantFor, Cond.selects RX2 yX2_constantFor yX2_constantFor, Cond.code yX2_constantFor cX2_constantFor 6 (some .int), Cond.methodLink RX2 135 yX4_size, Cond.instanceMethod yX4_size, Cond.selects RX4 yX4_size yX4_size, Cond.code yX4_size cX4_size 1 (some .int), Cond.methodLink RX2 128 yX4_addressOf, Cond.instanceMethod yX4_addressOf]
def wsL_law_r14 : List Cond := [Cond.selects RX4 yX4_addressOf yX4_addressOf, Cond.code yX4_addressOf cX4_addressOf 3 (some .int), Cond.methodLink RX4 41 yX4_has, Cond.instanceMethod yX4_has, Cond.selects RX4 yX4_has yX4_has, Cond.code yX4_has cX4_has 2 (some .boolean), Cond.methodLink RX2 136 yX4_nameOf, Cond.instanceMethod yX4_nameOf, Cond.selects RX4 yX4_nameOf yX4_nameOf, Cond.code yX4_nameOf cX4_nameOf 2 (some .int), Cond.methodLink RX2 152 yX2_isInLoadReach, Cond.instanceMethod yX2_isInLoadReach, Cond.selects RX2 yX2_isInLoadReach yX2_isInLoadReach, Cond.code yX2_isInLoadReach cX2_isInLoadReach 3 (some .boolean), Cond.methodLink RX2 129 yX2_longAim, Cond.instanceMethod yX2_longAim, Cond.selects RX2 yX2_longAim yX2_longAim, Cond.code yX2_longAim cX2_longAim 3 (some .int), Cond.methodLink RX2 145 yX2_goesStraight, Cond.instanceMethod yX2_goesStraight, Cond.selects RX2 yX2_goesStraight yX2_goesStraight, Cond.code yX2_goesStraight cX2_goesStraight 3 (some .boolean), Cond.methodLink RX2 139 yX2_labelAddress, Cond.instanceMethod yX2_labelAddress]
def wsL_law_r15 : List Cond := [Cond.selects RX2 yX2_labelAddress yX2_labelAddress, Cond.code yX2_labelAddress cX2_labelAddress 2 (some .int), Cond.static yX5_far, Cond.code yX5_far cX5_far 2 (some .int), Cond.methodLink RX2 149 yX2_islandFor, Cond.instanceMethod yX2_islandFor, Cond.selects RX2 yX2_islandFor yX2_islandFor, Cond.code yX2_islandFor cX2_islandFor 11 (some .int), Cond.methodLink RX2 132 yX2_shortAim, Cond.instanceMethod yX2_shortAim, Cond.selects RX2 yX2_shortAim yX2_shortAim, Cond.code yX2_shortAim cX2_shortAim 4 (some .int), Cond.methodLink RX2 75 yX2_aimIslands, Cond.instanceMethod yX2_aimIslands, Cond.selects RX2 yX2_aimIslands yX2_aimIslands, Cond.code yX2_aimIslands cX2_aimIslands 2 none, Cond.methodLink RX2 78 yX2_mendsOne, Cond.instanceMethod yX2_mendsOne, Cond.selects RX2 yX2_mendsOne yX2_mendsOne, Cond.code yX2_mendsOne cX2_mendsOne 2 (some .boolean), Cond.methodLink RX2 158 yX2_firstAstray, Cond.instanceMethod yX2_firstAstray, Cond.selects RX2 yX2_firstAstray yX2_firstAstray, Cond.code yX2_firstAstray cX2_firstAstray 4 (some .int)]
def wsL_law_r16 : List Cond := [Cond.methodLink RX2 155 yX2_aimOf, Cond.instanceMethod yX2_aimOf, Cond.selects RX2 yX2_aimOf yX2_aimOf, Cond.code yX2_aimOf cX2_aimOf 2 (some .int), Cond.methodLink RX2 162 yX2_lengthens, Cond.instanceMethod yX2_lengthens, Cond.selects RX2 yX2_lengthens yX2_lengthens, Cond.code yX2_lengthens cX2_lengthens 2 (some .boolean), Cond.methodLink RX2 165 yX2_bringsConstant, Cond.instanceMethod yX2_bringsConstant, Cond.selects RX2 yX2_bringsConstant yX2_bringsConstant, Cond.code yX2_bringsConstant cX2_bringsConstant 5 (some .boolean), Cond.methodLink RX2 180 yX2_nextConstantIn, Cond.instanceMethod yX2_nextConstantIn, Cond.selects RX2 yX2_nextConstantIn yX2_nextConstantIn, Cond.code yX2_nextConstantIn cX2_nextConstantIn 3 (some .int), Cond.methodLink RX2 186 yX4_endOf, Cond.instanceMethod yX4_endOf, Cond.selects RX4 yX4_endOf yX4_endOf, Cond.code yX4_endOf cX4_endOf 2 (some .int), Cond.methodLink RX2 183 yX4_add, Cond.instanceMethod yX4_add, Cond.selects RX4 yX4_add yX4_add, Cond.code yX4_add cX4_add 3 (some .boolean)]
def wsL_law_r17 : List Cond := [Cond.methodLink RX2 168 yX2_fails, Cond.instanceMethod yX2_fails, Cond.selects RX2 yX2_fails yX2_fails, Cond.code yX2_fails cX2_fails 3 (some .boolean), Cond.methodLink RX2 171 yX2_bringsIsland, Cond.instanceMethod yX2_bringsIsland, Cond.selects RX2 yX2_bringsIsland yX2_bringsIsland, Cond.code yX2_bringsIsland cX2_bringsIsland 9 (some .boolean), Cond.methodLink RX2 174 yX2_firstIslandAstray, Cond.instanceMethod yX2_firstIslandAstray, Cond.selects RX2 yX2_firstIslandAstray yX2_firstIslandAstray, Cond.code yX2_firstIslandAstray cX2_firstIslandAstray 2 (some .int), Cond.methodLink RX2 177 yX2_islandAimOf, Cond.instanceMethod yX2_islandAimOf, Cond.selects RX2 yX2_islandAimOf yX2_islandAimOf, Cond.code yX2_islandAimOf cX2_islandAimOf 2 (some .int), Cond.methodLink RX5 76 yX0_size, Cond.methodLink RL 30 yX6_code, Cond.instanceMethod yX6_code, Cond.selects RX6 yX6_code yX6_code, Cond.code yX6_code cX6_code 2 (some .int), Cond.fieldLink RX6 114 "FarReachModel" "items" "I", Cond.fieldLink RX6 117 "FarReachModel" "codesRead" "I", Cond.methodLink RX6 120 yX6_placeAll]
def wsL_law_r18 : List Cond := [Cond.instanceMethod yX6_placeAll, Cond.selects RX6 yX6_placeAll yX6_placeAll, Cond.code yX6_placeAll cX6_placeAll 2 none, Cond.fieldLink RX6 133 "FarReachModel" "islands" "I", Cond.fieldLink RX6 136 "FarReachModel" "constants" "I", Cond.fieldLink RX6 197 "FarReachModel" "rounds" "I", Cond.fieldLink RX6 171 "FarReachModel" "failsBy" "I", Cond.methodLink RX6 200 yX6_layAll, Cond.instanceMethod yX6_layAll, Cond.selects RX6 yX6_layAll yX6_layAll, Cond.code yX6_layAll cX6_layAll 3 none, Cond.fieldLink RX6 139 "FarReachModel" "filled" "I", Cond.fieldLink RX6 148 "FarReachModel" "bytesAll" "I", Cond.methodLink RX6 142 yX6_sizeOf, Cond.instanceMethod yX6_sizeOf, Cond.selects RX6 yX6_sizeOf yX6_sizeOf, Cond.code yX6_sizeOf cX6_sizeOf 3 (some .int), Cond.methodLink RX6 129 yX6_up, Cond.static yX6_up, Cond.code yX6_up cX6_up 2 (some .int), Cond.methodLink RX6 145 yX6_layGap, Cond.instanceMethod yX6_layGap, Cond.selects RX6 yX6_layGap yX6_layGap, Cond.code yX6_layGap cX6_layGap 6 (some .int)]
def wsL_law_r19 : List Cond := [Cond.methodLink RX6 203 yX6_mends, Cond.instanceMethod yX6_mends, Cond.selects RX6 yX6_mends yX6_mends, Cond.code yX6_mends cX6_mends 2 (some .boolean), Cond.methodLink RX6 183 yX6_firstStuck, Cond.instanceMethod yX6_firstStuck, Cond.selects RX6 yX6_firstStuck yX6_firstStuck, Cond.code yX6_firstStuck cX6_firstStuck 6 (some .int), Cond.methodLink RX6 174 yX6_goesTo, Cond.instanceMethod yX6_goesTo, Cond.selects RX6 yX6_goesTo yX6_goesTo, Cond.code yX6_goesTo cX6_goesTo 3 (some .int), Cond.methodLink RX6 162 yX6_constantFor, Cond.instanceMethod yX6_constantFor, Cond.selects RX6 yX6_constantFor yX6_constantFor, Cond.code yX6_constantFor cX6_constantFor 5 (some .int), Cond.methodLink RX6 165 yX6_goesFrom, Cond.instanceMethod yX6_goesFrom, Cond.selects RX6 yX6_goesFrom yX6_goesFrom, Cond.code yX6_goesFrom cX6_goesFrom 4 (some .int), Cond.methodLink RX6 155 yX6_reachesLabel, Cond.instanceMethod yX6_reachesLabel, Cond.selects RX6 yX6_reachesLabel yX6_reachesLabel, Cond.code yX6_reachesLabel cX6_reachesLabel 3 (some .boolean)]
def wsL_law_r20 : List Cond := [Cond.methodLink RX6 151 yX6_apart, Cond.static yX6_apart, Cond.code yX6_apart cX6_apart 2 (some .int), Cond.methodLink RX6 159 yX6_islandFor, Cond.instanceMethod yX6_islandFor, Cond.selects RX6 yX6_islandFor yX6_islandFor, Cond.code yX6_islandFor cX6_islandFor 7 (some .int), Cond.constant RX6 154 (1048576), Cond.methodLink RX6 168 yX6_shortGoes, Cond.instanceMethod yX6_shortGoes, Cond.selects RX6 yX6_shortGoes yX6_shortGoes, Cond.code yX6_shortGoes cX6_shortGoes 3 (some .int), Cond.methodLink RX6 187 yX6_putConstant, Cond.instanceMethod yX6_putConstant, Cond.selects RX6 yX6_putConstant yX6_putConstant, Cond.code yX6_putConstant cX6_putConstant 4 (some .boolean), Cond.methodLink RX6 177 yX6_fails, Cond.instanceMethod yX6_fails, Cond.selects RX6 yX6_fails yX6_fails, Cond.code yX6_fails cX6_fails 3 (some .boolean), Cond.methodLink RX6 190 yX6_putIsland, Cond.instanceMethod yX6_putIsland, Cond.selects RX6 yX6_putIsland yX6_putIsland, Cond.code yX6_putIsland cX6_putIsland 6 (some .boolean)]
def wsL_law_r21 : List Cond := [Cond.methodLink RX6 180 yX6_gapFor, Cond.instanceMethod yX6_gapFor, Cond.selects RX6 yX6_gapFor yX6_gapFor, Cond.code yX6_gapFor cX6_gapFor 6 (some .int), Cond.methodLink RX6 194 yX6_firstStuckIsland, Cond.instanceMethod yX6_firstStuckIsland, Cond.selects RX6 yX6_firstStuckIsland yX6_firstStuckIsland, Cond.code yX6_firstStuckIsland cX6_firstStuckIsland 3 (some .int), Cond.methodLink RL 31 yX5_reach, Cond.instanceMethod yX5_reach, Cond.selects RX5 yX5_reach yX5_reach, Cond.code yX5_reach cX5_reach 4 (some .int), Cond.fieldLink RX5 79 "FarReach" "LEAST_REACH" "[I", Cond.fieldLink RX5 82 "FarReach" "MOST_REACH" "[I", Cond.fieldLink RX5 85 "FarReach" "timesAltered" "I", Cond.methodLink RL 35 yX6_reach, Cond.instanceMethod yX6_reach, Cond.selects RX6 yX6_reach yX6_reach, Cond.code yX6_reach cX6_reach 4 (some .int), Cond.fieldLink RX6 123 "FarReachModel" "altered" "I", Cond.methodLink RL 36 yX5_grow, Cond.instanceMethod yX5_grow, Cond.selects RX5 yX5_grow yX5_grow, Cond.code yX5_grow cX5_grow 4 (some .int)]
def wsL_law_r22 : List Cond := [Cond.methodLink RX5 88 yX0_has, Cond.methodLink RX5 91 yX0_kindOf, Cond.methodLink RX5 95 yX0_toldOf, Cond.methodLink RX5 98 yX0_tell, Cond.instanceMethod yX0_tell, Cond.selects RX0 yX0_tell yX0_tell, Cond.code yX0_tell cX0_tell 3 none, Cond.methodLink RL 39 yX6_grow, Cond.instanceMethod yX6_grow, Cond.selects RX6 yX6_grow yX6_grow, Cond.code yX6_grow cX6_grow 4 (some .int), Cond.methodLink RX6 126 yX6_isItem, Cond.instanceMethod yX6_isItem, Cond.selects RX6 yX6_isItem yX6_isItem, Cond.code yX6_isItem cX6_isItem 2 (some .boolean), Cond.methodLink RL 40 yX5_item, Cond.instanceMethod yX5_item, Cond.selects RX5 yX5_item yX5_item, Cond.code yX5_item cX5_item 3 (some .int), Cond.methodLink RX5 102 yX2_addressOf, Cond.methodLink RX5 105 yX2_sizeOf, Cond.instanceMethod yX2_sizeOf, Cond.selects RX2 yX2_sizeOf yX2_sizeOf, Cond.code yX2_sizeOf cX2_sizeOf 2 (some .int)]
def wsL_law_r23 : List Cond := [Cond.methodLink RX5 108 yX2_isLong, Cond.methodLink RX5 111 yX2_aimOf, Cond.methodLink RL 43 yX6_item, Cond.instanceMethod yX6_item, Cond.selects RX6 yX6_item yX6_item, Cond.code yX6_item cX6_item 3 (some .int), Cond.methodLink RX6 207 yX6_itemNow, Cond.instanceMethod yX6_itemNow, Cond.selects RX6 yX6_itemNow yX6_itemNow, Cond.code yX6_itemNow cX6_itemNow 3 (some .int), Cond.methodLink RL 44 yX5_island, Cond.instanceMethod yX5_island, Cond.selects RX5 yX5_island yX5_island, Cond.code yX5_island cX5_island 4 (some .int), Cond.methodLink RX5 118 yX4_has, Cond.methodLink RX5 121 yX4_nameOf, Cond.methodLink RX5 124 yX4_returnOf, Cond.instanceMethod yX4_returnOf, Cond.selects RX4 yX4_returnOf yX4_returnOf, Cond.code yX4_returnOf cX4_returnOf 2 (some .int), Cond.methodLink RX5 127 yX4_addressOf, Cond.methodLink RX5 128 yX2_islandAimOf, Cond.methodLink RL 47 yX6_island, Cond.instanceMethod yX6_island]
def wsL_law_r24 : List Cond := [Cond.selects RX6 yX6_island yX6_island, Cond.code yX6_island cX6_island 3 (some .int), Cond.methodLink RX6 210 yX6_islandNow, Cond.instanceMethod yX6_islandNow, Cond.selects RX6 yX6_islandNow yX6_islandNow, Cond.code yX6_islandNow cX6_islandNow 3 (some .int), Cond.methodLink RL 48 yX5_constant, Cond.instanceMethod yX5_constant, Cond.selects RX5 yX5_constant yX5_constant, Cond.code yX5_constant cX5_constant 4 (some .int), Cond.methodLink RX5 134 yX2_loadsOf, Cond.instanceMethod yX2_loadsOf, Cond.selects RX2 yX2_loadsOf yX2_loadsOf, Cond.code yX2_loadsOf cX2_loadsOf 5 (some .int), Cond.methodLink RL 51 yX6_constant, Cond.instanceMethod yX6_constant, Cond.selects RX6 yX6_constant yX6_constant, Cond.code yX6_constant cX6_constant 3 (some .int), Cond.methodLink RX6 216 yX6_constantNow, Cond.instanceMethod yX6_constantNow, Cond.selects RX6 yX6_constantNow yX6_constantNow, Cond.code yX6_constantNow cX6_constantNow 3 (some .int), Cond.methodLink RX6 213 yX6_loadsOf, Cond.instanceMethod yX6_loadsOf]
def wsL_law_r25 : List Cond := [Cond.selects RX6 yX6_loadsOf yX6_loadsOf, Cond.code yX6_loadsOf cX6_loadsOf 4 (some .int), Cond.methodLink RL 52 yX5_hops, Cond.instanceMethod yX5_hops, Cond.selects RX5 yX5_hops yX5_hops, Cond.code yX5_hops cX5_hops 2 (some .int), Cond.methodLink RX5 137 yX2_hopsFrom, Cond.instanceMethod yX2_hopsFrom, Cond.selects RX2 yX2_hopsFrom yX2_hopsFrom, Cond.code yX2_hopsFrom cX2_hopsFrom 6 (some .int), Cond.methodLink RL 55 yX6_hops, Cond.instanceMethod yX6_hops, Cond.selects RX6 yX6_hops yX6_hops, Cond.code yX6_hops cX6_hops 2 (some .int), Cond.methodLink RX6 219 yX6_hopsNow, Cond.instanceMethod yX6_hopsNow, Cond.selects RX6 yX6_hopsNow yX6_hopsNow, Cond.code yX6_hopsNow cX6_hopsNow 6 (some .int), Cond.methodLink RL 56 yX5_placed, Cond.instanceMethod yX5_placed, Cond.selects RX5 yX5_placed yX5_placed, Cond.code yX5_placed cX5_placed 2 (some .int), Cond.methodLink RX5 155 yX4_size, Cond.methodLink RL 59 yX6_placed]
def wsL_law_r26 : List Cond := [Cond.instanceMethod yX6_placed, Cond.selects RX6 yX6_placed yX6_placed, Cond.code yX6_placed cX6_placed 2 (some .int), Cond.methodLink RX6 225 yX6_placedNow, Cond.instanceMethod yX6_placedNow, Cond.selects RX6 yX6_placedNow yX6_placedNow, Cond.code yX6_placedNow cX6_placedNow 2 (some .int), Cond.methodLink RX6 222 yX6_longMany, Cond.instanceMethod yX6_longMany, Cond.selects RX6 yX6_longMany yX6_longMany, Cond.code yX6_longMany cX6_longMany 3 (some .int), Cond.methodLink RL 60 yX5_count, Cond.instanceMethod yX5_count, Cond.selects RX5 yX5_count yX5_count, Cond.code yX5_count cX5_count 2 (some .int), Cond.methodLink RX5 159 yX0_gaps, Cond.instanceMethod yX0_gaps, Cond.selects RX0 yX0_gaps yX0_gaps, Cond.code yX0_gaps cX0_gaps 1 (some .int), Cond.methodLink RL 63 yX6_count, Cond.instanceMethod yX6_count, Cond.selects RX6 yX6_count yX6_count, Cond.code yX6_count cX6_count 2 (some .int), Cond.methodLink RX6 231 yX6_howMany]
def wsL_law_r27 : List Cond := [Cond.instanceMethod yX6_howMany, Cond.selects RX6 yX6_howMany yX6_howMany, Cond.code yX6_howMany cX6_howMany 2 (some .int), Cond.methodLink RX6 228 yX6_gaps, Cond.instanceMethod yX6_gaps, Cond.selects RX6 yX6_gaps yX6_gaps, Cond.code yX6_gaps cX6_gaps 3 (some .int), Cond.methodLink RL 64 yX5_digest, Cond.instanceMethod yX5_digest, Cond.selects RX5 yX5_digest yX5_digest, Cond.code yX5_digest cX5_digest 4 (some .long), Cond.constantLong RX5 162 (1637), Cond.constantLong RX5 174 (31), Cond.methodLink RX5 164 yX5_digestItems, Cond.instanceMethod yX5_digestItems, Cond.selects RX5 yX5_digestItems yX5_digestItems, Cond.code yX5_digestItems cX5_digestItems 7 (some .long), Cond.methodLink RX5 185 yX5_item, Cond.methodLink RX5 168 yX5_digestIslands, Cond.instanceMethod yX5_digestIslands, Cond.selects RX5 yX5_digestIslands yX5_digestIslands, Cond.code yX5_digestIslands cX5_digestIslands 7 (some .long), Cond.methodLink RX5 189 yX5_island, Cond.methodLink RX5 171 yX5_digestConstants]
def wsL_law_r28 : List Cond := [Cond.instanceMethod yX5_digestConstants, Cond.selects RX5 yX5_digestConstants yX5_digestConstants, Cond.code yX5_digestConstants cX5_digestConstants 7 (some .long), Cond.methodLink RX5 192 yX5_constant, Cond.methodLink RX5 176 yX5_placed, Cond.methodLink RX5 179 yX1_letterAt, Cond.methodLink RX5 182 yX5_count, Cond.methodLink RL 68 yX6_digest, Cond.instanceMethod yX6_digest, Cond.selects RX6 yX6_digest yX6_digest, Cond.code yX6_digest cX6_digest 2 (some .long), Cond.constantLong RX6 240 (1637), Cond.fieldLink RX6 236 "FarReachModel" "h" "J", Cond.methodLink RX6 242 yX6_mix, Cond.instanceMethod yX6_mix, Cond.selects RX6 yX6_mix yX6_mix, Cond.code yX6_mix cX6_mix 3 none, Cond.constantLong RX6 234 (31)]
def wsL_law : List Cond := (wsL_law_r1 ++ (wsL_law_r2 ++ (wsL_law_r3 ++ (wsL_law_r4 ++ (wsL_law_r5 ++ (wsL_law_r6 ++ (wsL_law_r7 ++ (wsL_law_r8 ++ (wsL_law_r9 ++ (wsL_law_r10 ++ (wsL_law_r11 ++ (wsL_law_r12 ++ (wsL_law_r13 ++ (wsL_law_r14 ++ (wsL_law_r15 ++ (wsL_law_r16 ++ (wsL_law_r17 ++ (wsL_law_r18 ++ (wsL_law_r19 ++ (wsL_law_r20 ++ (wsL_law_r21 ++ (wsL_law_r22 ++ (wsL_law_r23 ++ (wsL_law_r24 ++ (wsL_law_r25 ++ (wsL_law_r26 ++ (wsL_law_r27 ++ wsL_law_r28))))))))))))))))))))))))))) ++ wsX50 ++ wsX60 ++ wsX10 ++ wsX30 ++ wsX00 ++ wsX20 ++ wsX40 ++ ([] : List Cond)
end
section
theorem dX0_init_0 : decode cX0_init 0 = .ok (.aload_n 0, 1) := by decide +kernel
theorem dX0_init_1 : decode cX0_init 1 = .ok (.invokespecial 3, 3) := by decide +kernel
theorem dX0_init_4 : decode cX0_init 4 = .ok (.aload_n 0, 1) := by decide +kernel
theorem dX0_init_5 : decode cX0_init 5 = .ok (.bipush 24, 2) := by decide +kernel
theorem dX0_init_7 : decode cX0_init 7 = .ok (.newarray .int, 2) := by decide +kernel
theorem dX0_init_9 : decode cX0_init 9 = .ok (.putfield 9, 3) := by decide +kernel
theorem dX0_init_12 : decode cX0_init 12 = .ok (.aload_n 0, 1) := by decide +kernel
theorem dX0_init_13 : decode cX0_init 13 = .ok (.bipush 24, 2) := by decide +kernel
theorem dX0_init_15 : decode cX0_init 15 = .ok (.newarray .int, 2) := by decide +kernel
theorem dX0_init_17 : decode cX0_init 17 = .ok (.putfield 15, 3) := by decide +kernel
theorem dX0_init_20 : decode cX0_init 20 = .ok (.return_, 1) := by decide +kernel
theorem dX0_clear_0 : decode cX0_clear 0 = .ok (.aload_n 0, 1) := by decide +kernel
theorem dX0_clear_1 : decode cX0_clear 1 = .ok (.iconst 0, 1) := by decide +kernel
theorem dX0_clear_2 : decode cX0_clear 2 = .ok (.putfield 18, 3) := by decide +kernel
theorem dX0_clear_5 : decode cX0_clear 5 = .ok (.aload_n 0, 1) := by decide +kernel
theorem dX0_clear_6 : decode cX0_clear 6 = .ok (.iconst 0, 1) := by decide +kernel
theorem dX0_clear_7 : decode cX0_clear 7 = .ok (.putfield 22, 3) := by decide +kernel
theorem dX0_clear_10 : decode cX0_clear 10 = .ok (.return_, 1) := by decide +kernel
theorem dX0_add_0 : decode cX0_add 0 = .ok (.aload_n 0, 1) := by decide +kernel
theorem dX0_add_1 : decode cX0_add 1 = .ok (.getfield 18, 3) := by decide +kernel
theorem dX0_add_4 : decode cX0_add 4 = .ok (.ifCond .lt 27, 3) := by decide +kernel
theorem dX0_add_7 : decode cX0_add 7 = .ok (.aload_n 0, 1) := by decide +kernel
theorem dX0_add_8 : decode cX0_add 8 = .ok (.getfield 18, 3) := by decide +kernel
theorem dX0_add_11 : decode cX0_add 11 = .ok (.aload_n 0, 1) := by decide +kernel
theorem dX0_add_12 : decode cX0_add 12 = .ok (.getfield 9, 3) := by decide +kernel
theorem dX0_add_15 : decode cX0_add 15 = .ok (.arraylength, 1) := by decide +kernel
theorem dX0_add_16 : decode cX0_add 16 = .ok (.if_icmp .ge 15, 3) := by decide +kernel
theorem dX0_add_19 : decode cX0_add 19 = .ok (.aload_n 0, 1) := by decide +kernel
theorem dX0_add_20 : decode cX0_add 20 = .ok (.getfield 18, 3) := by decide +kernel
theorem dX0_add_23 : decode cX0_add 23 = .ok (.aload_n 0, 1) := by decide +kernel
theorem dX0_add_24 : decode cX0_add 24 = .ok (.getfield 15, 3) := by decide +kernel
theorem dX0_add_27 : decode cX0_add 27 = .ok (.arraylength, 1) := by decide +kernel
theorem dX0_add_28 : decode cX0_add 28 = .ok (.if_icmp .lt 5, 3) := by decide +kernel
theorem dX0_add_31 : decode cX0_add 31 = .ok (.iconst 0, 1) := by decide +kernel
theorem dX0_add_32 : decode cX0_add 32 = .ok (.ireturn, 1) := by decide +kernel
theorem dX0_add_33 : decode cX0_add 33 = .ok (.aload_n 0, 1) := by decide +kernel
theorem dX0_add_34 : decode cX0_add 34 = .ok (.getfield 9, 3) := by decide +kernel
theorem dX0_add_37 : decode cX0_add 37 = .ok (.aload_n 0, 1) := by decide +kernel
theorem dX0_add_38 : decode cX0_add 38 = .ok (.getfield 18, 3) := by decide +kernel
theorem dX0_add_41 : decode cX0_add 41 = .ok (.iload_n 1, 1) := by decide +kernel
theorem dX0_add_42 : decode cX0_add 42 = .ok (.iastore, 1) := by decide +kernel
theorem dX0_add_43 : decode cX0_add 43 = .ok (.aload_n 0, 1) := by decide +kernel
theorem dX0_add_44 : decode cX0_add 44 = .ok (.getfield 15, 3) := by decide +kernel
theorem dX0_add_47 : decode cX0_add 47 = .ok (.aload_n 0, 1) := by decide +kernel
theorem dX0_add_48 : decode cX0_add 48 = .ok (.getfield 18, 3) := by decide +kernel
theorem dX0_add_51 : decode cX0_add 51 = .ok (.iload_n 2, 1) := by decide +kernel
theorem dX0_add_52 : decode cX0_add 52 = .ok (.iastore, 1) := by decide +kernel
theorem dX0_add_53 : decode cX0_add 53 = .ok (.iload_n 1, 1) := by decide +kernel
theorem dX0_add_54 : decode cX0_add 54 = .ok (.iconst 5, 1) := by decide +kernel
theorem dX0_add_55 : decode cX0_add 55 = .ok (.if_icmp .ne 13, 3) := by decide +kernel
theorem dX0_add_58 : decode cX0_add 58 = .ok (.aload_n 0, 1) := by decide +kernel
theorem dX0_add_59 : decode cX0_add 59 = .ok (.dup, 1) := by decide +kernel
theorem dX0_add_60 : decode cX0_add 60 = .ok (.getfield 22, 3) := by decide +kernel
theorem dX0_add_63 : decode cX0_add 63 = .ok (.iconst 1, 1) := by decide +kernel
theorem dX0_add_64 : decode cX0_add 64 = .ok (.iadd, 1) := by decide +kernel
theorem dX0_add_65 : decode cX0_add 65 = .ok (.putfield 22, 3) := by decide +kernel
theorem dX0_add_68 : decode cX0_add 68 = .ok (.aload_n 0, 1) := by decide +kernel
theorem dX0_add_69 : decode cX0_add 69 = .ok (.dup, 1) := by decide +kernel
theorem dX0_add_70 : decode cX0_add 70 = .ok (.getfield 18, 3) := by decide +kernel
theorem dX0_add_73 : decode cX0_add 73 = .ok (.iconst 1, 1) := by decide +kernel
theorem dX0_add_74 : decode cX0_add 74 = .ok (.iadd, 1) := by decide +kernel
theorem dX0_add_75 : decode cX0_add 75 = .ok (.putfield 18, 3) := by decide +kernel
theorem dX0_add_78 : decode cX0_add 78 = .ok (.iconst 1, 1) := by decide +kernel
theorem dX0_add_79 : decode cX0_add 79 = .ok (.ireturn, 1) := by decide +kernel
set_option maxRecDepth 20000 in
theorem ggX0_takeFrom_X0_clear : GoodIn wsX0_takeFrom wsX0_clear := goodIn_r _ [5, 6, 7, 30, 31, 32, 33] (by decide +kernel) (by decide +kernel)
set_option maxRecDepth 20000 in
theorem gX0_takeFrom_X0_clear : GoodIn wsX0_takeFrom (wsV RX0 25 RX0 yX0_clear wsX0_clear) := goodIn_app (goodIn_of _ (by decide +kernel)) ggX0_takeFrom_X0_clear
set_option maxRecDepth 20000 in
theorem ggX0_takeFrom_X0_size : GoodIn wsX0_takeFrom wsX0_size := goodIn_r _ [11, 6, 30, 31, 32, 33] (by decide +kernel) (by decide +kernel)
set_option maxRecDepth 20000 in
theorem gX0_takeFrom_X0_size : GoodIn wsX0_takeFrom (wsV RX0 28 RX0 yX0_size wsX0_size) := goodIn_app (goodIn_of _ (by decide +kernel)) ggX0_takeFrom_X0_size
set_option maxRecDepth 20000 in
theorem ggX0_takeFrom_X0_kindOf : GoodIn wsX0_takeFrom wsX0_kindOf := goodIn_r _ [15, 16, 17, 18, 19, 4, 20, 6, 21, 30, 31, 32, 33] (by decide +kernel) (by decide +kernel)
set_option maxRecDepth 20000 in
theorem gX0_takeFrom_X0_kindOf : GoodIn wsX0_takeFrom (wsV RX0 31 RX0 yX0_kindOf wsX0_kindOf) := goodIn_app (goodIn_of _ (by decide +kernel)) ggX0_takeFrom_X0_kindOf
set_option maxRecDepth 20000 in
theorem ggX0_takeFrom_X0_toldOf : GoodIn wsX0_takeFrom wsX0_toldOf := goodIn_r _ [25, 21, 17, 18, 19, 4, 20, 6, 16, 30, 31, 32, 33] (by decide +kernel) (by decide +kernel)
set_option maxRecDepth 20000 in
theorem gX0_takeFrom_X0_toldOf : GoodIn wsX0_takeFrom (wsV RX0 35 RX0 yX0_toldOf wsX0_toldOf) := goodIn_app (goodIn_of _ (by decide +kernel)) ggX0_takeFrom_X0_toldOf
set_option maxRecDepth 20000 in
theorem ggX0_takeFrom_X0_add : GoodIn wsX0_takeFrom wsX0_add := goodIn_r _ [29, 6, 16, 21, 7, 30, 31, 32, 33] (by decide +kernel) (by decide +kernel)
set_option maxRecDepth 20000 in
theorem gX0_takeFrom_X0_add : GoodIn wsX0_takeFrom (wsV RX0 38 RX0 yX0_add wsX0_add) := goodIn_app (goodIn_of _ (by decide +kernel)) ggX0_takeFrom_X0_add
theorem dX0_takeFrom_0 : decode cX0_takeFrom 0 = .ok (.aload_n 0, 1) := by decide +kernel
theorem dX0_takeFrom_1 : decode cX0_takeFrom 1 = .ok (.invokevirtual 25, 3) := by decide +kernel
theorem dX0_takeFrom_4 : decode cX0_takeFrom 4 = .ok (.iconst 0, 1) := by decide +kernel
theorem dX0_takeFrom_5 : decode cX0_takeFrom 5 = .ok (.istore_n 2, 1) := by decide +kernel
theorem dX0_takeFrom_6 : decode cX0_takeFrom 6 = .ok (.iload_n 2, 1) := by decide +kernel
theorem dX0_takeFrom_7 : decode cX0_takeFrom 7 = .ok (.aload_n 1, 1) := by decide +kernel
theorem dX0_takeFrom_8 : decode cX0_takeFrom 8 = .ok (.invokevirtual 28, 3) := by decide +kernel
theorem dX0_takeFrom_11 : decode cX0_takeFrom 11 = .ok (.if_icmp .ge 30, 3) := by decide +kernel
theorem dX0_takeFrom_14 : decode cX0_takeFrom 14 = .ok (.iload_n 2, 1) := by decide +kernel
theorem dX0_takeFrom_15 : decode cX0_takeFrom 15 = .ok (.bipush 24, 2) := by decide +kernel
theorem dX0_takeFrom_17 : decode cX0_takeFrom 17 = .ok (.if_icmp .ge 24, 3) := by decide +kernel
theorem dX0_takeFrom_20 : decode cX0_takeFrom 20 = .ok (.aload_n 0, 1) := by decide +kernel
theorem dX0_takeFrom_21 : decode cX0_takeFrom 21 = .ok (.aload_n 1, 1) := by decide +kernel
theorem dX0_takeFrom_22 : decode cX0_takeFrom 22 = .ok (.iload_n 2, 1) := by decide +kernel
theorem dX0_takeFrom_23 : decode cX0_takeFrom 23 = .ok (.invokevirtual 31, 3) := by decide +kernel
theorem dX0_takeFrom_26 : decode cX0_takeFrom 26 = .ok (.aload_n 1, 1) := by decide +kernel
theorem dX0_takeFrom_27 : decode cX0_takeFrom 27 = .ok (.iload_n 2, 1) := by decide +kernel
theorem dX0_takeFrom_28 : decode cX0_takeFrom 28 = .ok (.invokevirtual 35, 3) := by decide +kernel
theorem dX0_takeFrom_31 : decode cX0_takeFrom 31 = .ok (.invokevirtual 38, 3) := by decide +kernel
theorem dX0_takeFrom_34 : decode cX0_takeFrom 34 = .ok (.pop, 1) := by decide +kernel
theorem dX0_takeFrom_35 : decode cX0_takeFrom 35 = .ok (.iinc 2 1, 3) := by decide +kernel
theorem dX0_takeFrom_38 : decode cX0_takeFrom 38 = .ok (.goto (-32), 3) := by decide +kernel
theorem dX0_takeFrom_41 : decode cX0_takeFrom 41 = .ok (.return_, 1) := by decide +kernel
theorem dX0_size_0 : decode cX0_size 0 = .ok (.aload_n 0, 1) := by decide +kernel
theorem dX0_size_1 : decode cX0_size 1 = .ok (.getfield 18, 3) := by decide +kernel
theorem dX0_size_4 : decode cX0_size 4 = .ok (.ireturn, 1) := by decide +kernel
theorem dX0_gaps_0 : decode cX0_gaps 0 = .ok (.aload_n 0, 1) := by decide +kernel
theorem dX0_gaps_1 : decode cX0_gaps 1 = .ok (.getfield 22, 3) := by decide +kernel
theorem dX0_gaps_4 : decode cX0_gaps 4 = .ok (.ireturn, 1) := by decide +kernel
theorem dX0_has_0 : decode cX0_has 0 = .ok (.iload_n 1, 1) := by decide +kernel
theorem dX0_has_1 : decode cX0_has 1 = .ok (.ifCond .lt 33, 3) := by decide +kernel
theorem dX0_has_4 : decode cX0_has 4 = .ok (.iload_n 1, 1) := by decide +kernel
theorem dX0_has_5 : decode cX0_has 5 = .ok (.aload_n 0, 1) := by decide +kernel
theorem dX0_has_6 : decode cX0_has 6 = .ok (.getfield 18, 3) := by decide +kernel
theorem dX0_has_9 : decode cX0_has 9 = .ok (.if_icmp .ge 25, 3) := by decide +kernel
theorem dX0_has_12 : decode cX0_has 12 = .ok (.iload_n 1, 1) := by decide +kernel
theorem dX0_has_13 : decode cX0_has 13 = .ok (.aload_n 0, 1) := by decide +kernel
theorem dX0_has_14 : decode cX0_has 14 = .ok (.getfield 9, 3) := by decide +kernel
theorem dX0_has_17 : decode cX0_has 17 = .ok (.arraylength, 1) := by decide +kernel
theorem dX0_has_18 : decode cX0_has 18 = .ok (.if_icmp .ge 16, 3) := by decide +kernel
theorem dX0_has_21 : decode cX0_has 21 = .ok (.iload_n 1, 1) := by decide +kernel
theorem dX0_has_22 : decode cX0_has 22 = .ok (.aload_n 0, 1) := by decide +kernel
theorem dX0_has_23 : decode cX0_has 23 = .ok (.getfield 15, 3) := by decide +kernel
theorem dX0_has_26 : decode cX0_has 26 = .ok (.arraylength, 1) := by decide +kernel
theorem dX0_has_27 : decode cX0_has 27 = .ok (.if_icmp .ge 7, 3) := by decide +kernel
theorem dX0_has_30 : decode cX0_has 30 = .ok (.iconst 1, 1) := by decide +kernel
theorem dX0_has_31 : decode cX0_has 31 = .ok (.goto 4, 3) := by decide +kernel
theorem dX0_has_34 : decode cX0_has 34 = .ok (.iconst 0, 1) := by decide +kernel
theorem dX0_has_35 : decode cX0_has 35 = .ok (.ireturn, 1) := by decide +kernel
set_option maxRecDepth 20000 in
theorem ggX0_kindOf_X0_has : GoodIn wsX0_kindOf wsX0_has := goodIn_r _ [6, 7, 1, 8, 9, 10, 11, 12] (by decide +kernel) (by decide +kernel)
set_option maxRecDepth 20000 in
theorem gX0_kindOf_X0_has : GoodIn wsX0_kindOf (wsV RX0 42 RX0 yX0_has wsX0_has) := goodIn_app (goodIn_of _ (by decide +kernel)) ggX0_kindOf_X0_has
theorem dX0_kindOf_0 : decode cX0_kindOf 0 = .ok (.aload_n 0, 1) := by decide +kernel
theorem dX0_kindOf_1 : decode cX0_kindOf 1 = .ok (.iload_n 1, 1) := by decide +kernel
theorem dX0_kindOf_2 : decode cX0_kindOf 2 = .ok (.invokevirtual 42, 3) := by decide +kernel
theorem dX0_kindOf_5 : decode cX0_kindOf 5 = .ok (.ifCond .eq 12, 3) := by decide +kernel
theorem dX0_kindOf_8 : decode cX0_kindOf 8 = .ok (.aload_n 0, 1) := by decide +kernel
theorem dX0_kindOf_9 : decode cX0_kindOf 9 = .ok (.getfield 9, 3) := by decide +kernel
theorem dX0_kindOf_12 : decode cX0_kindOf 12 = .ok (.iload_n 1, 1) := by decide +kernel
theorem dX0_kindOf_13 : decode cX0_kindOf 13 = .ok (.iaload, 1) := by decide +kernel
theorem dX0_kindOf_14 : decode cX0_kindOf 14 = .ok (.goto 4, 3) := by decide +kernel
theorem dX0_kindOf_17 : decode cX0_kindOf 17 = .ok (.iconst (-1), 1) := by decide +kernel
theorem dX0_kindOf_18 : decode cX0_kindOf 18 = .ok (.ireturn, 1) := by decide +kernel
set_option maxRecDepth 20000 in
theorem ggX0_toldOf_X0_has : GoodIn wsX0_toldOf wsX0_has := goodIn_r _ [6, 7, 8, 1, 9, 10, 11, 12] (by decide +kernel) (by decide +kernel)
set_option maxRecDepth 20000 in
theorem gX0_toldOf_X0_has : GoodIn wsX0_toldOf (wsV RX0 42 RX0 yX0_has wsX0_has) := goodIn_app (goodIn_of _ (by decide +kernel)) ggX0_toldOf_X0_has
theorem dX0_toldOf_0 : decode cX0_toldOf 0 = .ok (.aload_n 0, 1) := by decide +kernel
theorem dX0_toldOf_1 : decode cX0_toldOf 1 = .ok (.iload_n 1, 1) := by decide +kernel
theorem dX0_toldOf_2 : decode cX0_toldOf 2 = .ok (.invokevirtual 42, 3) := by decide +kernel
theorem dX0_toldOf_5 : decode cX0_toldOf 5 = .ok (.ifCond .eq 12, 3) := by decide +kernel
theorem dX0_toldOf_8 : decode cX0_toldOf 8 = .ok (.aload_n 0, 1) := by decide +kernel
theorem dX0_toldOf_9 : decode cX0_toldOf 9 = .ok (.getfield 15, 3) := by decide +kernel
theorem dX0_toldOf_12 : decode cX0_toldOf 12 = .ok (.iload_n 1, 1) := by decide +kernel
theorem dX0_toldOf_13 : decode cX0_toldOf 13 = .ok (.iaload, 1) := by decide +kernel
theorem dX0_toldOf_14 : decode cX0_toldOf 14 = .ok (.goto 4, 3) := by decide +kernel
theorem dX0_toldOf_17 : decode cX0_toldOf 17 = .ok (.iconst (-1), 1) := by decide +kernel
theorem dX0_toldOf_18 : decode cX0_toldOf 18 = .ok (.ireturn, 1) := by decide +kernel
set_option maxRecDepth 20000 in
theorem ggX0_tell_X0_has : GoodIn wsX0_tell wsX0_has := goodIn_r _ [6, 7, 8, 1, 9, 10, 11, 12] (by decide +kernel) (by decide +kernel)
set_option maxRecDepth 20000 in
theorem gX0_tell_X0_has : GoodIn wsX0_tell (wsV RX0 42 RX0 yX0_has wsX0_has) := goodIn_app (goodIn_of _ (by decide +kernel)) ggX0_tell_X0_has
theorem dX0_tell_0 : decode cX0_tell 0 = .ok (.aload_n 0, 1) := by decide +kernel
theorem dX0_tell_1 : decode cX0_tell 1 = .ok (.iload_n 1, 1) := by decide +kernel
theorem dX0_tell_2 : decode cX0_tell 2 = .ok (.invokevirtual 42, 3) := by decide +kernel
theorem dX0_tell_5 : decode cX0_tell 5 = .ok (.ifCond .eq 10, 3) := by decide +kernel
theorem dX0_tell_8 : decode cX0_tell 8 = .ok (.aload_n 0, 1) := by decide +kernel
theorem dX0_tell_9 : decode cX0_tell 9 = .ok (.getfield 15, 3) := by decide +kernel
theorem dX0_tell_12 : decode cX0_tell 12 = .ok (.iload_n 1, 1) := by decide +kernel
theorem dX0_tell_13 : decode cX0_tell 13 = .ok (.iload_n 2, 1) := by decide +kernel
theorem dX0_tell_14 : decode cX0_tell 14 = .ok (.iastore, 1) := by decide +kernel
theorem dX0_tell_15 : decode cX0_tell 15 = .ok (.return_, 1) := by decide +kernel
theorem dX1_init_0 : decode cX1_init 0 = .ok (.aload_n 0, 1) := by decide +kernel
theorem dX1_init_1 : decode cX1_init 1 = .ok (.invokespecial 3, 3) := by decide +kernel
theorem dX1_init_4 : decode cX1_init 4 = .ok (.aload_n 0, 1) := by decide +kernel
theorem dX1_init_5 : decode cX1_init 5 = .ok (.bipush 50, 2) := by decide +kernel
theorem dX1_init_7 : decode cX1_init 7 = .ok (.newarray .int, 2) := by decide +kernel
theorem dX1_init_9 : decode cX1_init 9 = .ok (.putfield 9, 3) := by decide +kernel
theorem dX1_init_12 : decode cX1_init 12 = .ok (.return_, 1) := by decide +kernel
theorem dX1_length_0 : decode cX1_length 0 = .ok (.aload_n 0, 1) := by decide +kernel
theorem dX1_length_1 : decode cX1_length 1 = .ok (.getfield 15, 3) := by decide +kernel
theorem dX1_length_4 : decode cX1_length 4 = .ok (.ireturn, 1) := by decide +kernel
theorem dX1_append_0 : decode cX1_append 0 = .ok (.aload_n 0, 1) := by decide +kernel
theorem dX1_append_1 : decode cX1_append 1 = .ok (.getfield 15, 3) := by decide +kernel
theorem dX1_append_4 : decode cX1_append 4 = .ok (.ifCond .lt 15, 3) := by decide +kernel
theorem dX1_append_7 : decode cX1_append 7 = .ok (.aload_n 0, 1) := by decide +kernel
theorem dX1_append_8 : decode cX1_append 8 = .ok (.getfield 15, 3) := by decide +kernel
theorem dX1_append_11 : decode cX1_append 11 = .ok (.aload_n 0, 1) := by decide +kernel
theorem dX1_append_12 : decode cX1_append 12 = .ok (.getfield 9, 3) := by decide +kernel
theorem dX1_append_15 : decode cX1_append 15 = .ok (.arraylength, 1) := by decide +kernel
theorem dX1_append_16 : decode cX1_append 16 = .ok (.if_icmp .lt 5, 3) := by decide +kernel
theorem dX1_append_19 : decode cX1_append 19 = .ok (.iconst 0, 1) := by decide +kernel
theorem dX1_append_20 : decode cX1_append 20 = .ok (.ireturn, 1) := by decide +kernel
theorem dX1_append_21 : decode cX1_append 21 = .ok (.aload_n 0, 1) := by decide +kernel
theorem dX1_append_22 : decode cX1_append 22 = .ok (.getfield 9, 3) := by decide +kernel
theorem dX1_append_25 : decode cX1_append 25 = .ok (.aload_n 0, 1) := by decide +kernel
theorem dX1_append_26 : decode cX1_append 26 = .ok (.getfield 15, 3) := by decide +kernel
theorem dX1_append_29 : decode cX1_append 29 = .ok (.iload_n 1, 1) := by decide +kernel
theorem dX1_append_30 : decode cX1_append 30 = .ok (.iastore, 1) := by decide +kernel
theorem dX1_append_31 : decode cX1_append 31 = .ok (.aload_n 0, 1) := by decide +kernel
theorem dX1_append_32 : decode cX1_append 32 = .ok (.dup, 1) := by decide +kernel
theorem dX1_append_33 : decode cX1_append 33 = .ok (.getfield 15, 3) := by decide +kernel
theorem dX1_append_36 : decode cX1_append 36 = .ok (.iconst 1, 1) := by decide +kernel
theorem dX1_append_37 : decode cX1_append 37 = .ok (.iadd, 1) := by decide +kernel
theorem dX1_append_38 : decode cX1_append 38 = .ok (.putfield 15, 3) := by decide +kernel
theorem dX1_append_41 : decode cX1_append 41 = .ok (.iconst 1, 1) := by decide +kernel
theorem dX1_append_42 : decode cX1_append 42 = .ok (.ireturn, 1) := by decide +kernel
theorem dX1_clear_0 : decode cX1_clear 0 = .ok (.aload_n 0, 1) := by decide +kernel
theorem dX1_clear_1 : decode cX1_clear 1 = .ok (.iconst 0, 1) := by decide +kernel
theorem dX1_clear_2 : decode cX1_clear 2 = .ok (.putfield 15, 3) := by decide +kernel
theorem dX1_clear_5 : decode cX1_clear 5 = .ok (.return_, 1) := by decide +kernel
theorem dX1_letterAt_0 : decode cX1_letterAt 0 = .ok (.iload_n 1, 1) := by decide +kernel
theorem dX1_letterAt_1 : decode cX1_letterAt 1 = .ok (.ifCond .lt 29, 3) := by decide +kernel
theorem dX1_letterAt_4 : decode cX1_letterAt 4 = .ok (.iload_n 1, 1) := by decide +kernel
theorem dX1_letterAt_5 : decode cX1_letterAt 5 = .ok (.aload_n 0, 1) := by decide +kernel
theorem dX1_letterAt_6 : decode cX1_letterAt 6 = .ok (.getfield 15, 3) := by decide +kernel
theorem dX1_letterAt_9 : decode cX1_letterAt 9 = .ok (.if_icmp .ge 21, 3) := by decide +kernel
theorem dX1_letterAt_12 : decode cX1_letterAt 12 = .ok (.iload_n 1, 1) := by decide +kernel
theorem dX1_letterAt_13 : decode cX1_letterAt 13 = .ok (.aload_n 0, 1) := by decide +kernel
theorem dX1_letterAt_14 : decode cX1_letterAt 14 = .ok (.getfield 9, 3) := by decide +kernel
theorem dX1_letterAt_17 : decode cX1_letterAt 17 = .ok (.arraylength, 1) := by decide +kernel
theorem dX1_letterAt_18 : decode cX1_letterAt 18 = .ok (.if_icmp .ge 12, 3) := by decide +kernel
theorem dX1_letterAt_21 : decode cX1_letterAt 21 = .ok (.aload_n 0, 1) := by decide +kernel
theorem dX1_letterAt_22 : decode cX1_letterAt 22 = .ok (.getfield 9, 3) := by decide +kernel
theorem dX1_letterAt_25 : decode cX1_letterAt 25 = .ok (.iload_n 1, 1) := by decide +kernel
theorem dX1_letterAt_26 : decode cX1_letterAt 26 = .ok (.iaload, 1) := by decide +kernel
theorem dX1_letterAt_27 : decode cX1_letterAt 27 = .ok (.goto 4, 3) := by decide +kernel
theorem dX1_letterAt_30 : decode cX1_letterAt 30 = .ok (.iconst (-1), 1) := by decide +kernel
theorem dX1_letterAt_31 : decode cX1_letterAt 31 = .ok (.ireturn, 1) := by decide +kernel
set_option maxRecDepth 20000 in
theorem ggX2_init_X4_init : GoodIn wsX2_init wsX4_init := goodIn_r _ [23, 24, 2, 3, 11, 25, 26, 27, 28, 29, 30, 31, 32, 33, 34, 35, 36, 37, 38, 39] (by decide +kernel) (by decide +kernel)
set_option maxRecDepth 20000 in
theorem gX2_init_X4_init : GoodIn wsX2_init (wsX4_init) := ggX2_init_X4_init
theorem dX2_init_0 : decode cX2_init 0 = .ok (.aload_n 0, 1) := by decide +kernel
theorem dX2_init_1 : decode cX2_init 1 = .ok (.invokespecial 3, 3) := by decide +kernel
theorem dX2_init_4 : decode cX2_init 4 = .ok (.aload_n 0, 1) := by decide +kernel
theorem dX2_init_5 : decode cX2_init 5 = .ok (.new 9, 3) := by decide +kernel
theorem dX2_init_8 : decode cX2_init 8 = .ok (.dup, 1) := by decide +kernel
theorem dX2_init_9 : decode cX2_init 9 = .ok (.bipush 12, 2) := by decide +kernel
theorem dX2_init_11 : decode cX2_init 11 = .ok (.invokespecial 11, 3) := by decide +kernel
theorem dX2_init_14 : decode cX2_init 14 = .ok (.putfield 14, 3) := by decide +kernel
theorem dX2_init_17 : decode cX2_init 17 = .ok (.aload_n 0, 1) := by decide +kernel
theorem dX2_init_18 : decode cX2_init 18 = .ok (.new 9, 3) := by decide +kernel
theorem dX2_init_21 : decode cX2_init 21 = .ok (.dup, 1) := by decide +kernel
theorem dX2_init_22 : decode cX2_init 22 = .ok (.bipush 16, 2) := by decide +kernel
theorem dX2_init_24 : decode cX2_init 24 = .ok (.invokespecial 11, 3) := by decide +kernel
theorem dX2_init_27 : decode cX2_init 27 = .ok (.putfield 20, 3) := by decide +kernel
theorem dX2_init_30 : decode cX2_init 30 = .ok (.aload_n 0, 1) := by decide +kernel
theorem dX2_init_31 : decode cX2_init 31 = .ok (.bipush 24, 2) := by decide +kernel
theorem dX2_init_33 : decode cX2_init 33 = .ok (.newarray .boolean, 2) := by decide +kernel
theorem dX2_init_35 : decode cX2_init 35 = .ok (.putfield 23, 3) := by decide +kernel
theorem dX2_init_38 : decode cX2_init 38 = .ok (.aload_n 0, 1) := by decide +kernel
theorem dX2_init_39 : decode cX2_init 39 = .ok (.bipush 24, 2) := by decide +kernel
theorem dX2_init_41 : decode cX2_init 41 = .ok (.newarray .int, 2) := by decide +kernel
theorem dX2_init_43 : decode cX2_init 43 = .ok (.putfield 27, 3) := by decide +kernel
theorem dX2_init_46 : decode cX2_init 46 = .ok (.aload_n 0, 1) := by decide +kernel
theorem dX2_init_47 : decode cX2_init 47 = .ok (.bipush 24, 2) := by decide +kernel
theorem dX2_init_49 : decode cX2_init 49 = .ok (.newarray .int, 2) := by decide +kernel
theorem dX2_init_51 : decode cX2_init 51 = .ok (.putfield 31, 3) := by decide +kernel
theorem dX2_init_54 : decode cX2_init 54 = .ok (.aload_n 0, 1) := by decide +kernel
theorem dX2_init_55 : decode cX2_init 55 = .ok (.bipush 8, 2) := by decide +kernel
theorem dX2_init_57 : decode cX2_init 57 = .ok (.newarray .int, 2) := by decide +kernel
theorem dX2_init_59 : decode cX2_init 59 = .ok (.putfield 34, 3) := by decide +kernel
theorem dX2_init_62 : decode cX2_init 62 = .ok (.aload_n 0, 1) := by decide +kernel
theorem dX2_init_63 : decode cX2_init 63 = .ok (.bipush 24, 2) := by decide +kernel
theorem dX2_init_65 : decode cX2_init 65 = .ok (.newarray .int, 2) := by decide +kernel
theorem dX2_init_67 : decode cX2_init 67 = .ok (.putfield 37, 3) := by decide +kernel
theorem dX2_init_70 : decode cX2_init 70 = .ok (.aload_n 0, 1) := by decide +kernel
theorem dX2_init_71 : decode cX2_init 71 = .ok (.bipush 12, 2) := by decide +kernel
theorem dX2_init_73 : decode cX2_init 73 = .ok (.newarray .int, 2) := by decide +kernel
theorem dX2_init_75 : decode cX2_init 75 = .ok (.putfield 40, 3) := by decide +kernel
theorem dX2_init_78 : decode cX2_init 78 = .ok (.aload_n 0, 1) := by decide +kernel
theorem dX2_init_79 : decode cX2_init 79 = .ok (.iconst 0, 1) := by decide +kernel
theorem dX2_init_80 : decode cX2_init 80 = .ok (.putfield 43, 3) := by decide +kernel
theorem dX2_init_83 : decode cX2_init 83 = .ok (.aload_n 0, 1) := by decide +kernel
theorem dX2_init_84 : decode cX2_init 84 = .ok (.iconst (-1), 1) := by decide +kernel
theorem dX2_init_85 : decode cX2_init 85 = .ok (.putfield 47, 3) := by decide +kernel
theorem dX2_init_88 : decode cX2_init 88 = .ok (.aload_n 0, 1) := by decide +kernel
theorem dX2_init_89 : decode cX2_init 89 = .ok (.aload_n 1, 1) := by decide +kernel
theorem dX2_init_90 : decode cX2_init 90 = .ok (.putfield 50, 3) := by decide +kernel
theorem dX2_init_93 : decode cX2_init 93 = .ok (.aload_n 0, 1) := by decide +kernel
theorem dX2_init_94 : decode cX2_init 94 = .ok (.aload_n 2, 1) := by decide +kernel
theorem dX2_init_95 : decode cX2_init 95 = .ok (.putfield 54, 3) := by decide +kernel
theorem dX2_init_98 : decode cX2_init 98 = .ok (.return_, 1) := by decide +kernel
set_option maxRecDepth 20000 in
theorem ggX2_placeAll_X2_clear : GoodIn wsX2_placeAll wsX2_clear := goodIn_r _ [7, 8, 9, 10, 11, 2, 12, 13, 14, 15, 16, 17, 18, 19, 20, 21, 22, 23, 193, 194, 195, 196, 197, 198, 199, 200, 201, 202, 203, 204, 205, 206, 207, 208, 209, 210, 211, 212, 213, 214] (by decide +kernel) (by decide +kernel)
set_option maxRecDepth 20000 in
theorem gX2_placeAll_X2_clear : GoodIn wsX2_placeAll (wsV RX2 57 RX2 yX2_clear wsX2_clear) := goodIn_app (goodIn_of _ (by decide +kernel)) ggX2_placeAll_X2_clear
set_option maxRecDepth 20000 in
theorem ggX2_placeAll_X0_size : GoodIn wsX2_placeAll wsX0_size := goodIn_r _ [28, 29, 215, 216, 217, 218] (by decide +kernel) (by decide +kernel)
set_option maxRecDepth 20000 in
theorem gX2_placeAll_X0_size : GoodIn wsX2_placeAll (wsV RX2 60 RX0 yX0_size wsX0_size) := goodIn_app (goodIn_of _ (by decide +kernel)) ggX2_placeAll_X0_size
set_option maxRecDepth 20000 in
theorem ggX2_placeAll_X2_lay : GoodIn wsX2_placeAll wsX2_lay := goodIn_r _ [33, 13, 1, 34, 35, 12, 24, 25, 26, 27, 28, 29, 36, 37, 38, 39, 40, 41, 42, 43, 44, 45, 46, 47, 48, 6, 49, 50, 51, 52, 53, 54, 55, 56, 57, 10, 58, 59, 60, 61, 62, 63, 64, 65, 66, 67, 68, 69, 8, 9, 70, 71, 72, 19, 73, 23, 22, 74, 75, 76, 77, 78, 79, 80, 193, 194, 195, 196, 197, 198, 199, 200, 201, 202, 203, 204, 205, 206, 207, 208, 215, 216, 217, 218, 209, 210, 211, 212, 213, 214] (by decide +kernel) (by decide +kernel)
set_option maxRecDepth 20000 in
theorem gX2_placeAll_X2_lay : GoodIn wsX2_placeAll (wsV RX2 69 RX2 yX2_lay wsX2_lay) := goodIn_app (goodIn_of _ (by decide +kernel)) ggX2_placeAll_X2_lay
set_option maxRecDepth 20000 in
theorem ggX2_placeAll_X2_aimItems : GoodIn wsX2_placeAll wsX2_aimItems := goodIn_r _ [84, 1, 85, 9, 24, 25, 26, 27, 28, 29, 50, 51, 52, 53, 45, 41, 42, 43, 44, 40, 36, 37, 38, 39, 86, 87, 88, 6, 89, 34, 90, 91, 92, 93, 94, 95, 96, 19, 97, 21, 98, 99, 100, 101, 102, 23, 103, 104, 105, 106, 107, 108, 74, 75, 76, 109, 110, 111, 112, 113, 114, 115, 116, 117, 54, 55, 56, 57, 10, 118, 119, 120, 121, 8, 122, 123, 124, 125, 126, 127, 128, 129, 65, 130, 59, 131, 132, 133, 134, 135, 136, 137, 138, 139, 193, 194, 195, 196, 197, 198, 199, 200, 201, 202, 203, 204, 205, 206, 207, 208, 215, 216, 217, 218, 209, 210, 211, 212, 213, 214] (by decide +kernel) (by decide +kernel)
set_option maxRecDepth 20000 in
theorem gX2_placeAll_X2_aimItems : GoodIn wsX2_placeAll (wsV RX2 72 RX2 yX2_aimItems wsX2_aimItems) := goodIn_app (goodIn_of _ (by decide +kernel)) ggX2_placeAll_X2_aimItems
set_option maxRecDepth 20000 in
theorem ggX2_placeAll_X2_aimIslands : GoodIn wsX2_placeAll wsX2_aimIslands := goodIn_r _ [143, 8, 144, 94, 95, 96, 19, 97, 21, 98, 99, 100, 101, 102, 23, 103, 104, 105, 106, 107, 108, 74, 75, 76, 109, 110, 111, 112, 118, 119, 120, 6, 121, 122, 123, 124, 125, 117, 126, 127, 128, 129, 65, 130, 59, 131, 132, 133, 134, 135, 193, 194, 195, 196, 197, 198, 199, 200, 201, 202, 203, 204, 205, 206, 207, 208, 209, 210, 211, 212, 213, 214] (by decide +kernel) (by decide +kernel)
set_option maxRecDepth 20000 in
theorem gX2_placeAll_X2_aimIslands : GoodIn wsX2_placeAll (wsV RX2 75 RX2 yX2_aimIslands wsX2_aimIslands) := goodIn_app (goodIn_of _ (by decide +kernel)) ggX2_placeAll_X2_aimIslands
set_option maxRecDepth 20000 in
theorem ggX2_placeAll_X2_mendsOne : GoodIn wsX2_placeAll wsX2_mendsOne := goodIn_r _ [148, 1, 8, 149, 150, 151, 6, 152, 24, 25, 26, 27, 28, 29, 36, 37, 38, 39, 40, 41, 42, 43, 44, 45, 54, 55, 56, 57, 10, 153, 154, 155, 156, 85, 157, 158, 159, 160, 11, 161, 162, 163, 164, 9, 86, 87, 88, 89, 34, 165, 166, 167, 168, 169, 170, 171, 19, 172, 23, 22, 74, 75, 76, 58, 59, 60, 113, 114, 115, 116, 117, 50, 51, 52, 53, 173, 174, 175, 176, 21, 108, 102, 103, 177, 178, 179, 180, 14, 15, 181, 182, 183, 184, 126, 127, 128, 129, 65, 130, 131, 185, 186, 187, 188, 94, 95, 96, 97, 189, 190, 191, 192, 144, 98, 99, 100, 101, 104, 105, 106, 107, 109, 110, 111, 112, 193, 194, 195, 196, 197, 198, 199, 200, 201, 202, 203, 204, 205, 206, 207, 208, 215, 216, 217, 218, 209, 210, 211, 212, 213, 214] (by decide +kernel) (by decide +kernel)
set_option maxRecDepth 20000 in
theorem gX2_placeAll_X2_mendsOne : GoodIn wsX2_placeAll (wsV RX2 78 RX2 yX2_mendsOne wsX2_mendsOne) := goodIn_app (goodIn_of _ (by decide +kernel)) ggX2_placeAll_X2_mendsOne
theorem dX2_placeAll_0 : decode cX2_placeAll 0 = .ok (.aload_n 0, 1) := by decide +kernel
theorem dX2_placeAll_1 : decode cX2_placeAll 1 = .ok (.invokevirtual 57, 3) := by decide +kernel
theorem dX2_placeAll_4 : decode cX2_placeAll 4 = .ok (.aload_n 0, 1) := by decide +kernel
theorem dX2_placeAll_5 : decode cX2_placeAll 5 = .ok (.getfield 50, 3) := by decide +kernel
theorem dX2_placeAll_8 : decode cX2_placeAll 8 = .ok (.invokevirtual 60, 3) := by decide +kernel
theorem dX2_placeAll_11 : decode cX2_placeAll 11 = .ok (.ifCond .ne 4, 3) := by decide +kernel
theorem dX2_placeAll_14 : decode cX2_placeAll 14 = .ok (.return_, 1) := by decide +kernel
theorem dX2_placeAll_15 : decode cX2_placeAll 15 = .ok (.iconst 1, 1) := by decide +kernel
theorem dX2_placeAll_16 : decode cX2_placeAll 16 = .ok (.istore_n 1, 1) := by decide +kernel
theorem dX2_placeAll_17 : decode cX2_placeAll 17 = .ok (.iload_n 1, 1) := by decide +kernel
theorem dX2_placeAll_18 : decode cX2_placeAll 18 = .ok (.ifCond .eq 42, 3) := by decide +kernel
theorem dX2_placeAll_21 : decode cX2_placeAll 21 = .ok (.aload_n 0, 1) := by decide +kernel
theorem dX2_placeAll_22 : decode cX2_placeAll 22 = .ok (.getfield 66, 3) := by decide +kernel
theorem dX2_placeAll_25 : decode cX2_placeAll 25 = .ok (.bipush 53, 2) := by decide +kernel
theorem dX2_placeAll_27 : decode cX2_placeAll 27 = .ok (.if_icmp .ge 33, 3) := by decide +kernel
theorem dX2_placeAll_30 : decode cX2_placeAll 30 = .ok (.aload_n 0, 1) := by decide +kernel
theorem dX2_placeAll_31 : decode cX2_placeAll 31 = .ok (.dup, 1) := by decide +kernel
theorem dX2_placeAll_32 : decode cX2_placeAll 32 = .ok (.getfield 66, 3) := by decide +kernel
theorem dX2_placeAll_35 : decode cX2_placeAll 35 = .ok (.iconst 1, 1) := by decide +kernel
theorem dX2_placeAll_36 : decode cX2_placeAll 36 = .ok (.iadd, 1) := by decide +kernel
theorem dX2_placeAll_37 : decode cX2_placeAll 37 = .ok (.putfield 66, 3) := by decide +kernel
theorem dX2_placeAll_40 : decode cX2_placeAll 40 = .ok (.aload_n 0, 1) := by decide +kernel
theorem dX2_placeAll_41 : decode cX2_placeAll 41 = .ok (.invokevirtual 69, 3) := by decide +kernel
theorem dX2_placeAll_44 : decode cX2_placeAll 44 = .ok (.aload_n 0, 1) := by decide +kernel
theorem dX2_placeAll_45 : decode cX2_placeAll 45 = .ok (.invokevirtual 72, 3) := by decide +kernel
theorem dX2_placeAll_48 : decode cX2_placeAll 48 = .ok (.aload_n 0, 1) := by decide +kernel
theorem dX2_placeAll_49 : decode cX2_placeAll 49 = .ok (.invokevirtual 75, 3) := by decide +kernel
theorem dX2_placeAll_52 : decode cX2_placeAll 52 = .ok (.aload_n 0, 1) := by decide +kernel
theorem dX2_placeAll_53 : decode cX2_placeAll 53 = .ok (.invokevirtual 78, 3) := by decide +kernel
theorem dX2_placeAll_56 : decode cX2_placeAll 56 = .ok (.istore_n 1, 1) := by decide +kernel
theorem dX2_placeAll_57 : decode cX2_placeAll 57 = .ok (.goto (-40), 3) := by decide +kernel
theorem dX2_placeAll_60 : decode cX2_placeAll 60 = .ok (.return_, 1) := by decide +kernel
set_option maxRecDepth 20000 in
theorem ggX2_clear_X4_clear : GoodIn wsX2_clear wsX4_clear := goodIn_r _ [14, 15, 16, 17, 34, 35, 36, 37, 38, 39] (by decide +kernel) (by decide +kernel)
set_option maxRecDepth 20000 in
theorem gX2_clear_X4_clear : GoodIn wsX2_clear (wsV RX2 82 RX4 yX4_clear wsX4_clear) := goodIn_app (goodIn_of _ (by decide +kernel)) ggX2_clear_X4_clear
theorem dX2_clear_0 : decode cX2_clear 0 = .ok (.aload_n 0, 1) := by decide +kernel
theorem dX2_clear_1 : decode cX2_clear 1 = .ok (.getfield 14, 3) := by decide +kernel
theorem dX2_clear_4 : decode cX2_clear 4 = .ok (.invokevirtual 82, 3) := by decide +kernel
theorem dX2_clear_7 : decode cX2_clear 7 = .ok (.aload_n 0, 1) := by decide +kernel
theorem dX2_clear_8 : decode cX2_clear 8 = .ok (.getfield 20, 3) := by decide +kernel
theorem dX2_clear_11 : decode cX2_clear 11 = .ok (.invokevirtual 82, 3) := by decide +kernel
theorem dX2_clear_14 : decode cX2_clear 14 = .ok (.iconst 0, 1) := by decide +kernel
theorem dX2_clear_15 : decode cX2_clear 15 = .ok (.istore_n 1, 1) := by decide +kernel
theorem dX2_clear_16 : decode cX2_clear 16 = .ok (.iload_n 1, 1) := by decide +kernel
theorem dX2_clear_17 : decode cX2_clear 17 = .ok (.bipush 24, 2) := by decide +kernel
theorem dX2_clear_19 : decode cX2_clear 19 = .ok (.if_icmp .ge 16, 3) := by decide +kernel
theorem dX2_clear_22 : decode cX2_clear 22 = .ok (.aload_n 0, 1) := by decide +kernel
theorem dX2_clear_23 : decode cX2_clear 23 = .ok (.getfield 23, 3) := by decide +kernel
theorem dX2_clear_26 : decode cX2_clear 26 = .ok (.iload_n 1, 1) := by decide +kernel
theorem dX2_clear_27 : decode cX2_clear 27 = .ok (.iconst 0, 1) := by decide +kernel
theorem dX2_clear_28 : decode cX2_clear 28 = .ok (.bastore, 1) := by decide +kernel
theorem dX2_clear_29 : decode cX2_clear 29 = .ok (.iinc 1 1, 3) := by decide +kernel
theorem dX2_clear_32 : decode cX2_clear 32 = .ok (.goto (-16), 3) := by decide +kernel
theorem dX2_clear_35 : decode cX2_clear 35 = .ok (.aload_n 0, 1) := by decide +kernel
theorem dX2_clear_36 : decode cX2_clear 36 = .ok (.iconst 0, 1) := by decide +kernel
theorem dX2_clear_37 : decode cX2_clear 37 = .ok (.putfield 83, 3) := by decide +kernel
theorem dX2_clear_40 : decode cX2_clear 40 = .ok (.aload_n 0, 1) := by decide +kernel
theorem dX2_clear_41 : decode cX2_clear 41 = .ok (.iconst 0, 1) := by decide +kernel
theorem dX2_clear_42 : decode cX2_clear 42 = .ok (.putfield 66, 3) := by decide +kernel
theorem dX2_clear_45 : decode cX2_clear 45 = .ok (.aload_n 0, 1) := by decide +kernel
theorem dX2_clear_46 : decode cX2_clear 46 = .ok (.iconst 0, 1) := by decide +kernel
theorem dX2_clear_47 : decode cX2_clear 47 = .ok (.putfield 86, 3) := by decide +kernel
theorem dX2_clear_50 : decode cX2_clear 50 = .ok (.aload_n 0, 1) := by decide +kernel
theorem dX2_clear_51 : decode cX2_clear 51 = .ok (.iconst 0, 1) := by decide +kernel
theorem dX2_clear_52 : decode cX2_clear 52 = .ok (.putfield 89, 3) := by decide +kernel
theorem dX2_clear_55 : decode cX2_clear 55 = .ok (.aload_n 0, 1) := by decide +kernel
theorem dX2_clear_56 : decode cX2_clear 56 = .ok (.iconst 0, 1) := by decide +kernel
theorem dX2_clear_57 : decode cX2_clear 57 = .ok (.putfield 43, 3) := by decide +kernel
theorem dX2_clear_60 : decode cX2_clear 60 = .ok (.aload_n 0, 1) := by decide +kernel
theorem dX2_clear_61 : decode cX2_clear 61 = .ok (.iconst (-1), 1) := by decide +kernel
theorem dX2_clear_62 : decode cX2_clear 62 = .ok (.putfield 47, 3) := by decide +kernel
theorem dX2_clear_65 : decode cX2_clear 65 = .ok (.return_, 1) := by decide +kernel
set_option maxRecDepth 20000 in
theorem ggX2_lay_X0_size : GoodIn wsX2_lay wsX0_size := goodIn_r _ [10, 11, 80, 81, 82, 83] (by decide +kernel) (by decide +kernel)
set_option maxRecDepth 20000 in
theorem gX2_lay_X0_size : GoodIn wsX2_lay (wsV RX2 60 RX0 yX0_size wsX0_size) := goodIn_app (goodIn_of _ (by decide +kernel)) ggX2_lay_X0_size
set_option maxRecDepth 20000 in
theorem ggX2_lay_X0_kindOf : GoodIn wsX2_lay wsX0_kindOf := goodIn_r _ [15, 16, 17, 18, 19, 9, 20, 11, 21, 80, 81, 82, 83] (by decide +kernel) (by decide +kernel)
set_option maxRecDepth 20000 in
theorem gX2_lay_X0_kindOf : GoodIn wsX2_lay (wsV RX2 92 RX0 yX0_kindOf wsX0_kindOf) := goodIn_app (goodIn_of _ (by decide +kernel)) ggX2_lay_X0_kindOf
set_option maxRecDepth 20000 in
theorem ggX2_lay_X2_sizeAt : GoodIn wsX2_lay wsX2_sizeAt := goodIn_r _ [26, 2, 12, 13, 14, 9, 15, 16, 17, 18, 19, 20, 11, 21, 27, 28, 29, 30, 31, 32, 33, 25, 34, 35, 36, 37, 38, 64, 65, 66, 67, 68, 69, 70, 71, 72, 73, 74, 75, 76, 77, 78, 79, 80, 81, 82, 83] (by decide +kernel) (by decide +kernel)
set_option maxRecDepth 20000 in
theorem gX2_lay_X2_sizeAt : GoodIn wsX2_lay (wsV RX2 96 RX2 yX2_sizeAt wsX2_sizeAt) := goodIn_app (goodIn_of _ (by decide +kernel)) ggX2_lay_X2_sizeAt
set_option maxRecDepth 20000 in
theorem ggX2_lay_X0_toldOf : GoodIn wsX2_lay wsX0_toldOf := goodIn_r _ [30, 21, 17, 18, 19, 9, 20, 11, 16, 80, 81, 82, 83] (by decide +kernel) (by decide +kernel)
set_option maxRecDepth 20000 in
theorem gX2_lay_X0_toldOf : GoodIn wsX2_lay (wsV RX2 100 RX0 yX0_toldOf wsX0_toldOf) := goodIn_app (goodIn_of _ (by decide +kernel)) ggX2_lay_X0_toldOf
set_option maxRecDepth 20000 in
theorem ggX2_lay_X2_noteLabel : GoodIn wsX2_lay wsX2_noteLabel := goodIn_r _ [42, 43, 64, 65, 66, 67, 68, 69, 70, 71, 72, 73, 74, 75, 76, 77, 78, 79] (by decide +kernel) (by decide +kernel)
set_option maxRecDepth 20000 in
theorem gX2_lay_X2_noteLabel : GoodIn wsX2_lay (wsV RX2 103 RX2 yX2_noteLabel wsX2_noteLabel) := goodIn_app (goodIn_of _ (by decide +kernel)) ggX2_lay_X2_noteLabel
set_option maxRecDepth 20000 in
theorem ggX2_lay_X2_layGap : GoodIn wsX2_lay wsX2_layGap := goodIn_r _ [47, 48, 49, 1, 50, 51, 52, 53, 54, 55, 56, 57, 58, 59, 60, 61, 62, 63, 36, 37, 38, 64, 65, 66, 67, 68, 69, 70, 71, 72, 73, 74, 75, 76, 77, 78, 79, 84, 85, 86, 87, 88, 89] (by decide +kernel) (by decide +kernel)
set_option maxRecDepth 20000 in
theorem gX2_lay_X2_layGap : GoodIn wsX2_lay (wsV RX2 107 RX2 yX2_layGap wsX2_layGap) := goodIn_app (goodIn_of _ (by decide +kernel)) ggX2_lay_X2_layGap
theorem dX2_lay_0 : decode cX2_lay 0 = .ok (.iconst 0, 1) := by decide +kernel
theorem dX2_lay_1 : decode cX2_lay 1 = .ok (.istore_n 1, 1) := by decide +kernel
theorem dX2_lay_2 : decode cX2_lay 2 = .ok (.aload_n 0, 1) := by decide +kernel
theorem dX2_lay_3 : decode cX2_lay 3 = .ok (.iconst 0, 1) := by decide +kernel
theorem dX2_lay_4 : decode cX2_lay 4 = .ok (.putfield 89, 3) := by decide +kernel
theorem dX2_lay_7 : decode cX2_lay 7 = .ok (.iconst 0, 1) := by decide +kernel
theorem dX2_lay_8 : decode cX2_lay 8 = .ok (.istore_n 2, 1) := by decide +kernel
theorem dX2_lay_9 : decode cX2_lay 9 = .ok (.iload_n 2, 1) := by decide +kernel
theorem dX2_lay_10 : decode cX2_lay 10 = .ok (.aload_n 0, 1) := by decide +kernel
theorem dX2_lay_11 : decode cX2_lay 11 = .ok (.getfield 50, 3) := by decide +kernel
theorem dX2_lay_14 : decode cX2_lay 14 = .ok (.invokevirtual 60, 3) := by decide +kernel
theorem dX2_lay_17 : decode cX2_lay 17 = .ok (.if_icmp .ge 104, 3) := by decide +kernel
theorem dX2_lay_20 : decode cX2_lay 20 = .ok (.iload_n 2, 1) := by decide +kernel
theorem dX2_lay_21 : decode cX2_lay 21 = .ok (.bipush 24, 2) := by decide +kernel
theorem dX2_lay_23 : decode cX2_lay 23 = .ok (.if_icmp .ge 98, 3) := by decide +kernel
theorem dX2_lay_26 : decode cX2_lay 26 = .ok (.aload_n 0, 1) := by decide +kernel
theorem dX2_lay_27 : decode cX2_lay 27 = .ok (.getfield 50, 3) := by decide +kernel
theorem dX2_lay_30 : decode cX2_lay 30 = .ok (.iload_n 2, 1) := by decide +kernel
theorem dX2_lay_31 : decode cX2_lay 31 = .ok (.invokevirtual 92, 3) := by decide +kernel
theorem dX2_lay_34 : decode cX2_lay 34 = .ok (.istore_n 3, 1) := by decide +kernel
theorem dX2_lay_35 : decode cX2_lay 35 = .ok (.aload_n 0, 1) := by decide +kernel
theorem dX2_lay_36 : decode cX2_lay 36 = .ok (.iload_n 2, 1) := by decide +kernel
theorem dX2_lay_37 : decode cX2_lay 37 = .ok (.iload_n 1, 1) := by decide +kernel
theorem dX2_lay_38 : decode cX2_lay 38 = .ok (.invokevirtual 96, 3) := by decide +kernel
theorem dX2_lay_41 : decode cX2_lay 41 = .ok (.istore 4, 2) := by decide +kernel
theorem dX2_lay_43 : decode cX2_lay 43 = .ok (.aload_n 0, 1) := by decide +kernel
theorem dX2_lay_44 : decode cX2_lay 44 = .ok (.getfield 27, 3) := by decide +kernel
theorem dX2_lay_47 : decode cX2_lay 47 = .ok (.iload_n 2, 1) := by decide +kernel
theorem dX2_lay_48 : decode cX2_lay 48 = .ok (.iload_n 1, 1) := by decide +kernel
theorem dX2_lay_49 : decode cX2_lay 49 = .ok (.iastore, 1) := by decide +kernel
theorem dX2_lay_50 : decode cX2_lay 50 = .ok (.aload_n 0, 1) := by decide +kernel
theorem dX2_lay_51 : decode cX2_lay 51 = .ok (.getfield 31, 3) := by decide +kernel
theorem dX2_lay_54 : decode cX2_lay 54 = .ok (.iload_n 2, 1) := by decide +kernel
theorem dX2_lay_55 : decode cX2_lay 55 = .ok (.iload 4, 2) := by decide +kernel
theorem dX2_lay_57 : decode cX2_lay 57 = .ok (.iastore, 1) := by decide +kernel
theorem dX2_lay_58 : decode cX2_lay 58 = .ok (.iload_n 1, 1) := by decide +kernel
theorem dX2_lay_59 : decode cX2_lay 59 = .ok (.iload 4, 2) := by decide +kernel
theorem dX2_lay_61 : decode cX2_lay 61 = .ok (.iadd, 1) := by decide +kernel
theorem dX2_lay_62 : decode cX2_lay 62 = .ok (.istore_n 1, 1) := by decide +kernel
theorem dX2_lay_63 : decode cX2_lay 63 = .ok (.iload_n 3, 1) := by decide +kernel
theorem dX2_lay_64 : decode cX2_lay 64 = .ok (.iconst 4, 1) := by decide +kernel
theorem dX2_lay_65 : decode cX2_lay 65 = .ok (.if_icmp .ne 17, 3) := by decide +kernel
theorem dX2_lay_68 : decode cX2_lay 68 = .ok (.aload_n 0, 1) := by decide +kernel
theorem dX2_lay_69 : decode cX2_lay 69 = .ok (.dup, 1) := by decide +kernel
theorem dX2_lay_70 : decode cX2_lay 70 = .ok (.getfield 89, 3) := by decide +kernel
theorem dX2_lay_73 : decode cX2_lay 73 = .ok (.iload 4, 2) := by decide +kernel
theorem dX2_lay_75 : decode cX2_lay 75 = .ok (.iadd, 1) := by decide +kernel
theorem dX2_lay_76 : decode cX2_lay 76 = .ok (.putfield 89, 3) := by decide +kernel
theorem dX2_lay_79 : decode cX2_lay 79 = .ok (.goto 36, 3) := by decide +kernel
theorem dX2_lay_82 : decode cX2_lay 82 = .ok (.iload_n 3, 1) := by decide +kernel
theorem dX2_lay_83 : decode cX2_lay 83 = .ok (.iconst 3, 1) := by decide +kernel
theorem dX2_lay_84 : decode cX2_lay 84 = .ok (.if_icmp .ne 19, 3) := by decide +kernel
theorem dX2_lay_87 : decode cX2_lay 87 = .ok (.aload_n 0, 1) := by decide +kernel
theorem dX2_lay_88 : decode cX2_lay 88 = .ok (.aload_n 0, 1) := by decide +kernel
theorem dX2_lay_89 : decode cX2_lay 89 = .ok (.getfield 50, 3) := by decide +kernel
theorem dX2_lay_92 : decode cX2_lay 92 = .ok (.iload_n 2, 1) := by decide +kernel
theorem dX2_lay_93 : decode cX2_lay 93 = .ok (.invokevirtual 100, 3) := by decide +kernel
theorem dX2_lay_96 : decode cX2_lay 96 = .ok (.iload_n 1, 1) := by decide +kernel
theorem dX2_lay_97 : decode cX2_lay 97 = .ok (.invokevirtual 103, 3) := by decide +kernel
theorem dX2_lay_100 : decode cX2_lay 100 = .ok (.goto 15, 3) := by decide +kernel
theorem dX2_lay_103 : decode cX2_lay 103 = .ok (.iload_n 3, 1) := by decide +kernel
theorem dX2_lay_104 : decode cX2_lay 104 = .ok (.iconst 5, 1) := by decide +kernel
theorem dX2_lay_105 : decode cX2_lay 105 = .ok (.if_icmp .ne 10, 3) := by decide +kernel
theorem dX2_lay_108 : decode cX2_lay 108 = .ok (.aload_n 0, 1) := by decide +kernel
theorem dX2_lay_109 : decode cX2_lay 109 = .ok (.iload_n 2, 1) := by decide +kernel
theorem dX2_lay_110 : decode cX2_lay 110 = .ok (.iload_n 1, 1) := by decide +kernel
theorem dX2_lay_111 : decode cX2_lay 111 = .ok (.invokevirtual 107, 3) := by decide +kernel
theorem dX2_lay_114 : decode cX2_lay 114 = .ok (.istore_n 1, 1) := by decide +kernel
theorem dX2_lay_115 : decode cX2_lay 115 = .ok (.iinc 2 1, 3) := by decide +kernel
theorem dX2_lay_118 : decode cX2_lay 118 = .ok (.goto (-109), 3) := by decide +kernel
theorem dX2_lay_121 : decode cX2_lay 121 = .ok (.aload_n 0, 1) := by decide +kernel
theorem dX2_lay_122 : decode cX2_lay 122 = .ok (.iload_n 1, 1) := by decide +kernel
theorem dX2_lay_123 : decode cX2_lay 123 = .ok (.putfield 86, 3) := by decide +kernel
theorem dX2_lay_126 : decode cX2_lay 126 = .ok (.return_, 1) := by decide +kernel
set_option maxRecDepth 20000 in
theorem ggX2_sizeAt_X0_kindOf : GoodIn wsX2_sizeAt wsX0_kindOf := goodIn_r _ [6, 7, 8, 9, 10, 5, 11, 12, 13, 43, 44, 45, 46] (by decide +kernel) (by decide +kernel)
set_option maxRecDepth 20000 in
theorem gX2_sizeAt_X0_kindOf : GoodIn wsX2_sizeAt (wsV RX2 92 RX0 yX0_kindOf wsX0_kindOf) := goodIn_app (goodIn_of _ (by decide +kernel)) ggX2_sizeAt_X0_kindOf
set_option maxRecDepth 20000 in
theorem ggX2_sizeAt_X0_toldOf : GoodIn wsX2_sizeAt wsX0_toldOf := goodIn_r _ [17, 13, 8, 9, 10, 5, 11, 12, 7, 43, 44, 45, 46] (by decide +kernel) (by decide +kernel)
set_option maxRecDepth 20000 in
theorem gX2_sizeAt_X0_toldOf : GoodIn wsX2_sizeAt (wsV RX2 100 RX0 yX0_toldOf wsX0_toldOf) := goodIn_app (goodIn_of _ (by decide +kernel)) ggX2_sizeAt_X0_toldOf
set_option maxRecDepth 20000 in
theorem ggX2_sizeAt_X2_isLong : GoodIn wsX2_sizeAt wsX2_isLong := goodIn_r _ [22, 23, 27, 28, 29, 30, 31, 32, 33, 34, 35, 36, 37, 38, 39, 40, 41, 42] (by decide +kernel) (by decide +kernel)
set_option maxRecDepth 20000 in
theorem gX2_sizeAt_X2_isLong : GoodIn wsX2_sizeAt (wsV RX2 110 RX2 yX2_isLong wsX2_isLong) := goodIn_app (goodIn_of _ (by decide +kernel)) ggX2_sizeAt_X2_isLong
set_option maxRecDepth 20000 in
theorem ggX2_sizeAt_X5_fillTo : GoodIn wsX2_sizeAt wsX5_fillTo := goodIn_r _ [26] (by decide +kernel) (by decide +kernel)
set_option maxRecDepth 20000 in
theorem gX2_sizeAt_X5_fillTo_n114 : GoodIn wsX2_sizeAt (wsX5_fillTo) := ggX2_sizeAt_X5_fillTo
theorem dX2_sizeAt_0 : decode cX2_sizeAt 0 = .ok (.aload_n 0, 1) := by decide +kernel
theorem dX2_sizeAt_1 : decode cX2_sizeAt 1 = .ok (.getfield 50, 3) := by decide +kernel
theorem dX2_sizeAt_4 : decode cX2_sizeAt 4 = .ok (.iload_n 1, 1) := by decide +kernel
theorem dX2_sizeAt_5 : decode cX2_sizeAt 5 = .ok (.invokevirtual 92, 3) := by decide +kernel
theorem dX2_sizeAt_8 : decode cX2_sizeAt 8 = .ok (.tableswitch 80 0 5 #[40, 49, 51, 80, 65, 78], 40) := by decide +kernel
theorem dX2_sizeAt_48 : decode cX2_sizeAt 48 = .ok (.aload_n 0, 1) := by decide +kernel
theorem dX2_sizeAt_49 : decode cX2_sizeAt 49 = .ok (.getfield 50, 3) := by decide +kernel
theorem dX2_sizeAt_52 : decode cX2_sizeAt 52 = .ok (.iload_n 1, 1) := by decide +kernel
theorem dX2_sizeAt_53 : decode cX2_sizeAt 53 = .ok (.invokevirtual 100, 3) := by decide +kernel
theorem dX2_sizeAt_56 : decode cX2_sizeAt 56 = .ok (.ireturn, 1) := by decide +kernel
theorem dX2_sizeAt_57 : decode cX2_sizeAt 57 = .ok (.iconst 2, 1) := by decide +kernel
theorem dX2_sizeAt_58 : decode cX2_sizeAt 58 = .ok (.ireturn, 1) := by decide +kernel
theorem dX2_sizeAt_59 : decode cX2_sizeAt 59 = .ok (.aload_n 0, 1) := by decide +kernel
theorem dX2_sizeAt_60 : decode cX2_sizeAt 60 = .ok (.iload_n 1, 1) := by decide +kernel
theorem dX2_sizeAt_61 : decode cX2_sizeAt 61 = .ok (.invokevirtual 110, 3) := by decide +kernel
theorem dX2_sizeAt_64 : decode cX2_sizeAt 64 = .ok (.ifCond .eq 7, 3) := by decide +kernel
theorem dX2_sizeAt_67 : decode cX2_sizeAt 67 = .ok (.iconst 4, 1) := by decide +kernel
theorem dX2_sizeAt_68 : decode cX2_sizeAt 68 = .ok (.goto 4, 3) := by decide +kernel
theorem dX2_sizeAt_71 : decode cX2_sizeAt 71 = .ok (.iconst 2, 1) := by decide +kernel
theorem dX2_sizeAt_72 : decode cX2_sizeAt 72 = .ok (.ireturn, 1) := by decide +kernel
theorem dX2_sizeAt_73 : decode cX2_sizeAt 73 = .ok (.aload_n 0, 1) := by decide +kernel
theorem dX2_sizeAt_74 : decode cX2_sizeAt 74 = .ok (.getfield 50, 3) := by decide +kernel
theorem dX2_sizeAt_77 : decode cX2_sizeAt 77 = .ok (.iload_n 1, 1) := by decide +kernel
theorem dX2_sizeAt_78 : decode cX2_sizeAt 78 = .ok (.invokevirtual 100, 3) := by decide +kernel
theorem dX2_sizeAt_81 : decode cX2_sizeAt 81 = .ok (.iload_n 2, 1) := by decide +kernel
theorem dX2_sizeAt_82 : decode cX2_sizeAt 82 = .ok (.invokestatic 114, 3) := by decide +kernel
theorem dX2_sizeAt_85 : decode cX2_sizeAt 85 = .ok (.ireturn, 1) := by decide +kernel
theorem dX2_sizeAt_86 : decode cX2_sizeAt 86 = .ok (.iconst 2, 1) := by decide +kernel
theorem dX2_sizeAt_87 : decode cX2_sizeAt 87 = .ok (.ireturn, 1) := by decide +kernel
theorem dX2_sizeAt_88 : decode cX2_sizeAt 88 = .ok (.iconst 0, 1) := by decide +kernel
theorem dX2_sizeAt_89 : decode cX2_sizeAt 89 = .ok (.ireturn, 1) := by decide +kernel
theorem dX2_noteLabel_0 : decode cX2_noteLabel 0 = .ok (.iload_n 1, 1) := by decide +kernel
theorem dX2_noteLabel_1 : decode cX2_noteLabel 1 = .ok (.ifCond .lt 19, 3) := by decide +kernel
theorem dX2_noteLabel_4 : decode cX2_noteLabel 4 = .ok (.iload_n 1, 1) := by decide +kernel
theorem dX2_noteLabel_5 : decode cX2_noteLabel 5 = .ok (.aload_n 0, 1) := by decide +kernel
theorem dX2_noteLabel_6 : decode cX2_noteLabel 6 = .ok (.getfield 34, 3) := by decide +kernel
theorem dX2_noteLabel_9 : decode cX2_noteLabel 9 = .ok (.arraylength, 1) := by decide +kernel
theorem dX2_noteLabel_10 : decode cX2_noteLabel 10 = .ok (.if_icmp .ge 10, 3) := by decide +kernel
theorem dX2_noteLabel_13 : decode cX2_noteLabel 13 = .ok (.aload_n 0, 1) := by decide +kernel
theorem dX2_noteLabel_14 : decode cX2_noteLabel 14 = .ok (.getfield 34, 3) := by decide +kernel
theorem dX2_noteLabel_17 : decode cX2_noteLabel 17 = .ok (.iload_n 1, 1) := by decide +kernel
theorem dX2_noteLabel_18 : decode cX2_noteLabel 18 = .ok (.iload_n 2, 1) := by decide +kernel
theorem dX2_noteLabel_19 : decode cX2_noteLabel 19 = .ok (.iastore, 1) := by decide +kernel
theorem dX2_noteLabel_20 : decode cX2_noteLabel 20 = .ok (.return_, 1) := by decide +kernel
set_option maxRecDepth 20000 in
theorem ggX2_layGap_X4_lay : GoodIn wsX2_layGap wsX4_lay := goodIn_r _ [8, 9, 10, 11, 12, 7, 13, 37, 38, 39, 40, 41, 42] (by decide +kernel) (by decide +kernel)
set_option maxRecDepth 20000 in
theorem gX2_layGap_X4_lay : GoodIn wsX2_layGap (wsV RX2 117 RX4 yX4_lay wsX4_lay) := goodIn_app (goodIn_of _ (by decide +kernel)) ggX2_layGap_X4_lay
set_option maxRecDepth 20000 in
theorem ggX2_layGap_X4_isIn : GoodIn wsX2_layGap wsX4_isIn := goodIn_r _ [17, 10, 11, 12, 7, 13, 37, 38, 39, 40, 41, 42] (by decide +kernel) (by decide +kernel)
set_option maxRecDepth 20000 in
theorem gX2_layGap_X4_isIn : GoodIn wsX2_layGap (wsV RX2 119 RX4 yX4_isIn wsX4_isIn) := goodIn_app (goodIn_of _ (by decide +kernel)) ggX2_layGap_X4_isIn
set_option maxRecDepth 20000 in
theorem ggX2_layGap_X5_fillTo : GoodIn wsX2_layGap wsX5_fillTo := goodIn_r _ [20] (by decide +kernel) (by decide +kernel)
set_option maxRecDepth 20000 in
theorem gX2_layGap_X5_fillTo_n114 : GoodIn wsX2_layGap (wsX5_fillTo) := ggX2_layGap_X5_fillTo
theorem dX2_layGap_0 : decode cX2_layGap 0 = .ok (.aload_n 0, 1) := by decide +kernel
theorem dX2_layGap_1 : decode cX2_layGap 1 = .ok (.getfield 14, 3) := by decide +kernel
theorem dX2_layGap_4 : decode cX2_layGap 4 = .ok (.iload_n 1, 1) := by decide +kernel
theorem dX2_layGap_5 : decode cX2_layGap 5 = .ok (.iload_n 2, 1) := by decide +kernel
theorem dX2_layGap_6 : decode cX2_layGap 6 = .ok (.invokevirtual 117, 3) := by decide +kernel
theorem dX2_layGap_9 : decode cX2_layGap 9 = .ok (.istore_n 3, 1) := by decide +kernel
theorem dX2_layGap_10 : decode cX2_layGap 10 = .ok (.aload_n 0, 1) := by decide +kernel
theorem dX2_layGap_11 : decode cX2_layGap 11 = .ok (.getfield 20, 3) := by decide +kernel
theorem dX2_layGap_14 : decode cX2_layGap 14 = .ok (.iload_n 1, 1) := by decide +kernel
theorem dX2_layGap_15 : decode cX2_layGap 15 = .ok (.invokevirtual 119, 3) := by decide +kernel
theorem dX2_layGap_18 : decode cX2_layGap 18 = .ok (.ifCond .eq 26, 3) := by decide +kernel
theorem dX2_layGap_21 : decode cX2_layGap 21 = .ok (.iconst 4, 1) := by decide +kernel
theorem dX2_layGap_22 : decode cX2_layGap 22 = .ok (.iload_n 3, 1) := by decide +kernel
theorem dX2_layGap_23 : decode cX2_layGap 23 = .ok (.invokestatic 114, 3) := by decide +kernel
theorem dX2_layGap_26 : decode cX2_layGap 26 = .ok (.istore 4, 2) := by decide +kernel
theorem dX2_layGap_28 : decode cX2_layGap 28 = .ok (.aload_n 0, 1) := by decide +kernel
theorem dX2_layGap_29 : decode cX2_layGap 29 = .ok (.dup, 1) := by decide +kernel
theorem dX2_layGap_30 : decode cX2_layGap 30 = .ok (.getfield 89, 3) := by decide +kernel
theorem dX2_layGap_33 : decode cX2_layGap 33 = .ok (.iload 4, 2) := by decide +kernel
theorem dX2_layGap_35 : decode cX2_layGap 35 = .ok (.iadd, 1) := by decide +kernel
theorem dX2_layGap_36 : decode cX2_layGap 36 = .ok (.putfield 89, 3) := by decide +kernel
theorem dX2_layGap_39 : decode cX2_layGap 39 = .ok (.iload_n 3, 1) := by decide +kernel
theorem dX2_layGap_40 : decode cX2_layGap 40 = .ok (.iload 4, 2) := by decide +kernel
theorem dX2_layGap_42 : decode cX2_layGap 42 = .ok (.iadd, 1) := by decide +kernel
theorem dX2_layGap_43 : decode cX2_layGap 43 = .ok (.istore_n 3, 1) := by decide +kernel
theorem dX2_layGap_44 : decode cX2_layGap 44 = .ok (.aload_n 0, 1) := by decide +kernel
theorem dX2_layGap_45 : decode cX2_layGap 45 = .ok (.getfield 20, 3) := by decide +kernel
theorem dX2_layGap_48 : decode cX2_layGap 48 = .ok (.iload_n 1, 1) := by decide +kernel
theorem dX2_layGap_49 : decode cX2_layGap 49 = .ok (.iload_n 3, 1) := by decide +kernel
theorem dX2_layGap_50 : decode cX2_layGap 50 = .ok (.invokevirtual 117, 3) := by decide +kernel
theorem dX2_layGap_53 : decode cX2_layGap 53 = .ok (.ireturn, 1) := by decide +kernel
theorem dX2_addressOf_0 : decode cX2_addressOf 0 = .ok (.iload_n 1, 1) := by decide +kernel
theorem dX2_addressOf_1 : decode cX2_addressOf 1 = .ok (.ifCond .lt 21, 3) := by decide +kernel
theorem dX2_addressOf_4 : decode cX2_addressOf 4 = .ok (.iload_n 1, 1) := by decide +kernel
theorem dX2_addressOf_5 : decode cX2_addressOf 5 = .ok (.aload_n 0, 1) := by decide +kernel
theorem dX2_addressOf_6 : decode cX2_addressOf 6 = .ok (.getfield 27, 3) := by decide +kernel
theorem dX2_addressOf_9 : decode cX2_addressOf 9 = .ok (.arraylength, 1) := by decide +kernel
theorem dX2_addressOf_10 : decode cX2_addressOf 10 = .ok (.if_icmp .ge 12, 3) := by decide +kernel
theorem dX2_addressOf_13 : decode cX2_addressOf 13 = .ok (.aload_n 0, 1) := by decide +kernel
theorem dX2_addressOf_14 : decode cX2_addressOf 14 = .ok (.getfield 27, 3) := by decide +kernel
theorem dX2_addressOf_17 : decode cX2_addressOf 17 = .ok (.iload_n 1, 1) := by decide +kernel
theorem dX2_addressOf_18 : decode cX2_addressOf 18 = .ok (.iaload, 1) := by decide +kernel
theorem dX2_addressOf_19 : decode cX2_addressOf 19 = .ok (.goto 4, 3) := by decide +kernel
theorem dX2_addressOf_22 : decode cX2_addressOf 22 = .ok (.iconst (-1), 1) := by decide +kernel
theorem dX2_addressOf_23 : decode cX2_addressOf 23 = .ok (.ireturn, 1) := by decide +kernel
theorem dX2_sizeOf_0 : decode cX2_sizeOf 0 = .ok (.iload_n 1, 1) := by decide +kernel
theorem dX2_sizeOf_1 : decode cX2_sizeOf 1 = .ok (.ifCond .lt 21, 3) := by decide +kernel
theorem dX2_sizeOf_4 : decode cX2_sizeOf 4 = .ok (.iload_n 1, 1) := by decide +kernel
theorem dX2_sizeOf_5 : decode cX2_sizeOf 5 = .ok (.aload_n 0, 1) := by decide +kernel
theorem dX2_sizeOf_6 : decode cX2_sizeOf 6 = .ok (.getfield 31, 3) := by decide +kernel
theorem dX2_sizeOf_9 : decode cX2_sizeOf 9 = .ok (.arraylength, 1) := by decide +kernel
theorem dX2_sizeOf_10 : decode cX2_sizeOf 10 = .ok (.if_icmp .ge 12, 3) := by decide +kernel
theorem dX2_sizeOf_13 : decode cX2_sizeOf 13 = .ok (.aload_n 0, 1) := by decide +kernel
theorem dX2_sizeOf_14 : decode cX2_sizeOf 14 = .ok (.getfield 31, 3) := by decide +kernel
theorem dX2_sizeOf_17 : decode cX2_sizeOf 17 = .ok (.iload_n 1, 1) := by decide +kernel
theorem dX2_sizeOf_18 : decode cX2_sizeOf 18 = .ok (.iaload, 1) := by decide +kernel
theorem dX2_sizeOf_19 : decode cX2_sizeOf 19 = .ok (.goto 4, 3) := by decide +kernel
theorem dX2_sizeOf_22 : decode cX2_sizeOf 22 = .ok (.iconst (-1), 1) := by decide +kernel
theorem dX2_sizeOf_23 : decode cX2_sizeOf 23 = .ok (.ireturn, 1) := by decide +kernel
theorem dX2_isLong_0 : decode cX2_isLong 0 = .ok (.iload_n 1, 1) := by decide +kernel
theorem dX2_isLong_1 : decode cX2_isLong 1 = .ok (.ifCond .lt 25, 3) := by decide +kernel
theorem dX2_isLong_4 : decode cX2_isLong 4 = .ok (.iload_n 1, 1) := by decide +kernel
theorem dX2_isLong_5 : decode cX2_isLong 5 = .ok (.aload_n 0, 1) := by decide +kernel
theorem dX2_isLong_6 : decode cX2_isLong 6 = .ok (.getfield 23, 3) := by decide +kernel
theorem dX2_isLong_9 : decode cX2_isLong 9 = .ok (.arraylength, 1) := by decide +kernel
theorem dX2_isLong_10 : decode cX2_isLong 10 = .ok (.if_icmp .ge 16, 3) := by decide +kernel
theorem dX2_isLong_13 : decode cX2_isLong 13 = .ok (.aload_n 0, 1) := by decide +kernel
theorem dX2_isLong_14 : decode cX2_isLong 14 = .ok (.getfield 23, 3) := by decide +kernel
theorem dX2_isLong_17 : decode cX2_isLong 17 = .ok (.iload_n 1, 1) := by decide +kernel
theorem dX2_isLong_18 : decode cX2_isLong 18 = .ok (.baload, 1) := by decide +kernel
theorem dX2_isLong_19 : decode cX2_isLong 19 = .ok (.ifCond .eq 7, 3) := by decide +kernel
theorem dX2_isLong_22 : decode cX2_isLong 22 = .ok (.iconst 1, 1) := by decide +kernel
theorem dX2_isLong_23 : decode cX2_isLong 23 = .ok (.goto 4, 3) := by decide +kernel
theorem dX2_isLong_26 : decode cX2_isLong 26 = .ok (.iconst 0, 1) := by decide +kernel
theorem dX2_isLong_27 : decode cX2_isLong 27 = .ok (.ireturn, 1) := by decide +kernel
theorem dX2_labelAddress_0 : decode cX2_labelAddress 0 = .ok (.iload_n 1, 1) := by decide +kernel
theorem dX2_labelAddress_1 : decode cX2_labelAddress 1 = .ok (.ifCond .lt 21, 3) := by decide +kernel
theorem dX2_labelAddress_4 : decode cX2_labelAddress 4 = .ok (.iload_n 1, 1) := by decide +kernel
theorem dX2_labelAddress_5 : decode cX2_labelAddress 5 = .ok (.aload_n 0, 1) := by decide +kernel
theorem dX2_labelAddress_6 : decode cX2_labelAddress 6 = .ok (.getfield 34, 3) := by decide +kernel
theorem dX2_labelAddress_9 : decode cX2_labelAddress 9 = .ok (.arraylength, 1) := by decide +kernel
theorem dX2_labelAddress_10 : decode cX2_labelAddress 10 = .ok (.if_icmp .ge 12, 3) := by decide +kernel
theorem dX2_labelAddress_13 : decode cX2_labelAddress 13 = .ok (.aload_n 0, 1) := by decide +kernel
theorem dX2_labelAddress_14 : decode cX2_labelAddress 14 = .ok (.getfield 34, 3) := by decide +kernel
theorem dX2_labelAddress_17 : decode cX2_labelAddress 17 = .ok (.iload_n 1, 1) := by decide +kernel
theorem dX2_labelAddress_18 : decode cX2_labelAddress 18 = .ok (.iaload, 1) := by decide +kernel
theorem dX2_labelAddress_19 : decode cX2_labelAddress 19 = .ok (.goto 4, 3) := by decide +kernel
theorem dX2_labelAddress_22 : decode cX2_labelAddress 22 = .ok (.iconst (-1), 1) := by decide +kernel
theorem dX2_labelAddress_23 : decode cX2_labelAddress 23 = .ok (.ireturn, 1) := by decide +kernel
set_option maxRecDepth 20000 in
theorem ggX2_aimItems_X0_size : GoodIn wsX2_aimItems wsX0_size := goodIn_r _ [8, 9, 110, 111, 112, 113] (by decide +kernel) (by decide +kernel)
set_option maxRecDepth 20000 in
theorem gX2_aimItems_X0_size : GoodIn wsX2_aimItems (wsV RX2 60 RX0 yX0_size wsX0_size) := goodIn_app (goodIn_of _ (by decide +kernel)) ggX2_aimItems_X0_size
set_option maxRecDepth 20000 in
theorem ggX2_aimItems_X0_toldOf : GoodIn wsX2_aimItems wsX0_toldOf := goodIn_r _ [13, 14, 15, 16, 17, 7, 18, 9, 19, 110, 111, 112, 113] (by decide +kernel) (by decide +kernel)
set_option maxRecDepth 20000 in
theorem gX2_aimItems_X0_toldOf : GoodIn wsX2_aimItems (wsV RX2 100 RX0 yX0_toldOf wsX0_toldOf) := goodIn_app (goodIn_of _ (by decide +kernel)) ggX2_aimItems_X0_toldOf
set_option maxRecDepth 20000 in
theorem ggX2_aimItems_X0_kindOf : GoodIn wsX2_aimItems wsX0_kindOf := goodIn_r _ [23, 19, 15, 16, 17, 7, 18, 9, 14, 110, 111, 112, 113] (by decide +kernel) (by decide +kernel)
set_option maxRecDepth 20000 in
theorem gX2_aimItems_X0_kindOf : GoodIn wsX2_aimItems (wsV RX2 92 RX0 yX0_kindOf wsX0_kindOf) := goodIn_app (goodIn_of _ (by decide +kernel)) ggX2_aimItems_X0_kindOf
set_option maxRecDepth 20000 in
theorem ggX2_aimItems_X2_addressOf : GoodIn wsX2_aimItems wsX2_addressOf := goodIn_r _ [28, 29, 94, 95, 96, 97, 98, 99, 100, 101, 102, 103, 104, 105, 106, 107, 108, 109] (by decide +kernel) (by decide +kernel)
set_option maxRecDepth 20000 in
theorem gX2_aimItems_X2_addressOf : GoodIn wsX2_aimItems (wsV RX2 122 RX2 yX2_addressOf wsX2_addressOf) := goodIn_app (goodIn_of _ (by decide +kernel)) ggX2_aimItems_X2_addressOf
set_option maxRecDepth 20000 in
theorem ggX2_aimItems_X2_constantFor : GoodIn wsX2_aimItems wsX2_constantFor := goodIn_r _ [33, 3, 34, 35, 36, 37, 38, 39, 40, 41, 42, 43, 44, 45, 46, 47, 48, 49, 50, 51, 52, 53, 54, 55, 56, 57, 58, 59, 60, 61, 27, 62, 63, 94, 95, 96, 97, 98, 99, 100, 101, 102, 103, 104, 105, 106, 107, 108, 109, 114, 115, 116, 117, 118, 119] (by decide +kernel) (by decide +kernel)
set_option maxRecDepth 20000 in
theorem gX2_aimItems_X2_constantFor : GoodIn wsX2_aimItems (wsV RX2 125 RX2 yX2_constantFor wsX2_constantFor) := goodIn_app (goodIn_of _ (by decide +kernel)) ggX2_aimItems_X2_constantFor
set_option maxRecDepth 20000 in
theorem ggX2_aimItems_X4_addressOf : GoodIn wsX2_aimItems wsX4_addressOf := goodIn_r _ [43, 44, 45, 46, 47, 48, 49, 37, 50, 39, 51, 52, 53, 54, 114, 115, 116, 117, 118, 119] (by decide +kernel) (by decide +kernel)
set_option maxRecDepth 20000 in
theorem gX2_aimItems_X4_addressOf : GoodIn wsX2_aimItems (wsV RX2 128 RX4 yX4_addressOf wsX4_addressOf) := goodIn_app (goodIn_of _ (by decide +kernel)) ggX2_aimItems_X4_addressOf
set_option maxRecDepth 20000 in
theorem ggX2_aimItems_X2_isLong : GoodIn wsX2_aimItems wsX2_isLong := goodIn_r _ [67, 68, 94, 95, 96, 97, 98, 99, 100, 101, 102, 103, 104, 105, 106, 107, 108, 109] (by decide +kernel) (by decide +kernel)
set_option maxRecDepth 20000 in
theorem gX2_aimItems_X2_isLong : GoodIn wsX2_aimItems (wsV RX2 110 RX2 yX2_isLong wsX2_isLong) := goodIn_app (goodIn_of _ (by decide +kernel)) ggX2_aimItems_X2_isLong
set_option maxRecDepth 20000 in
theorem ggX2_aimItems_X2_longAim : GoodIn wsX2_aimItems wsX2_longAim := goodIn_r _ [72, 73, 74, 75, 76, 27, 77, 63, 78, 79, 80, 81, 82, 83, 84, 85, 86, 87, 88, 89, 34, 35, 36, 37, 38, 39, 40, 41, 42, 43, 44, 45, 46, 47, 48, 49, 50, 51, 52, 53, 54, 55, 56, 57, 58, 94, 95, 96, 97, 98, 99, 100, 101, 102, 103, 104, 105, 106, 107, 108, 109, 114, 115, 116, 117, 118, 119] (by decide +kernel) (by decide +kernel)
set_option maxRecDepth 20000 in
theorem gX2_aimItems_X2_longAim : GoodIn wsX2_aimItems (wsV RX2 129 RX2 yX2_longAim wsX2_longAim) := goodIn_app (goodIn_of _ (by decide +kernel)) ggX2_aimItems_X2_longAim
set_option maxRecDepth 20000 in
theorem ggX2_aimItems_X2_shortAim : GoodIn wsX2_aimItems wsX2_shortAim := goodIn_r _ [93, 63, 78, 79, 80, 27, 81, 82, 83, 84, 85, 94, 95, 96, 97, 98, 99, 100, 101, 102, 103, 104, 105, 106, 107, 108, 109] (by decide +kernel) (by decide +kernel)
set_option maxRecDepth 20000 in
theorem gX2_aimItems_X2_shortAim : GoodIn wsX2_aimItems (wsV RX2 132 RX2 yX2_shortAim wsX2_shortAim) := goodIn_app (goodIn_of _ (by decide +kernel)) ggX2_aimItems_X2_shortAim
theorem dX2_aimItems_0 : decode cX2_aimItems 0 = .ok (.iconst 0, 1) := by decide +kernel
theorem dX2_aimItems_1 : decode cX2_aimItems 1 = .ok (.istore_n 1, 1) := by decide +kernel
theorem dX2_aimItems_2 : decode cX2_aimItems 2 = .ok (.iload_n 1, 1) := by decide +kernel
theorem dX2_aimItems_3 : decode cX2_aimItems 3 = .ok (.aload_n 0, 1) := by decide +kernel
theorem dX2_aimItems_4 : decode cX2_aimItems 4 = .ok (.getfield 50, 3) := by decide +kernel
theorem dX2_aimItems_7 : decode cX2_aimItems 7 = .ok (.invokevirtual 60, 3) := by decide +kernel
theorem dX2_aimItems_10 : decode cX2_aimItems 10 = .ok (.if_icmp .ge 133, 3) := by decide +kernel
theorem dX2_aimItems_13 : decode cX2_aimItems 13 = .ok (.iload_n 1, 1) := by decide +kernel
theorem dX2_aimItems_14 : decode cX2_aimItems 14 = .ok (.aload_n 0, 1) := by decide +kernel
theorem dX2_aimItems_15 : decode cX2_aimItems 15 = .ok (.getfield 37, 3) := by decide +kernel
theorem dX2_aimItems_18 : decode cX2_aimItems 18 = .ok (.arraylength, 1) := by decide +kernel
theorem dX2_aimItems_19 : decode cX2_aimItems 19 = .ok (.if_icmp .ge 124, 3) := by decide +kernel
theorem dX2_aimItems_22 : decode cX2_aimItems 22 = .ok (.aload_n 0, 1) := by decide +kernel
theorem dX2_aimItems_23 : decode cX2_aimItems 23 = .ok (.getfield 50, 3) := by decide +kernel
theorem dX2_aimItems_26 : decode cX2_aimItems 26 = .ok (.iload_n 1, 1) := by decide +kernel
theorem dX2_aimItems_27 : decode cX2_aimItems 27 = .ok (.invokevirtual 100, 3) := by decide +kernel
theorem dX2_aimItems_30 : decode cX2_aimItems 30 = .ok (.istore_n 2, 1) := by decide +kernel
theorem dX2_aimItems_31 : decode cX2_aimItems 31 = .ok (.aload_n 0, 1) := by decide +kernel
theorem dX2_aimItems_32 : decode cX2_aimItems 32 = .ok (.getfield 50, 3) := by decide +kernel
theorem dX2_aimItems_35 : decode cX2_aimItems 35 = .ok (.iload_n 1, 1) := by decide +kernel
theorem dX2_aimItems_36 : decode cX2_aimItems 36 = .ok (.invokevirtual 92, 3) := by decide +kernel
theorem dX2_aimItems_39 : decode cX2_aimItems 39 = .ok (.lookupswitch 91 #[(1, 25), (2, 51)], 25) := by decide +kernel
theorem dX2_aimItems_64 : decode cX2_aimItems 64 = .ok (.aload_n 0, 1) := by decide +kernel
theorem dX2_aimItems_65 : decode cX2_aimItems 65 = .ok (.getfield 37, 3) := by decide +kernel
theorem dX2_aimItems_68 : decode cX2_aimItems 68 = .ok (.iload_n 1, 1) := by decide +kernel
theorem dX2_aimItems_69 : decode cX2_aimItems 69 = .ok (.aload_n 0, 1) := by decide +kernel
theorem dX2_aimItems_70 : decode cX2_aimItems 70 = .ok (.getfield 20, 3) := by decide +kernel
theorem dX2_aimItems_73 : decode cX2_aimItems 73 = .ok (.aload_n 0, 1) := by decide +kernel
theorem dX2_aimItems_74 : decode cX2_aimItems 74 = .ok (.aload_n 0, 1) := by decide +kernel
theorem dX2_aimItems_75 : decode cX2_aimItems 75 = .ok (.iload_n 1, 1) := by decide +kernel
theorem dX2_aimItems_76 : decode cX2_aimItems 76 = .ok (.invokevirtual 122, 3) := by decide +kernel
theorem dX2_aimItems_79 : decode cX2_aimItems 79 = .ok (.iload_n 2, 1) := by decide +kernel
theorem dX2_aimItems_80 : decode cX2_aimItems 80 = .ok (.invokevirtual 125, 3) := by decide +kernel
theorem dX2_aimItems_83 : decode cX2_aimItems 83 = .ok (.invokevirtual 128, 3) := by decide +kernel
theorem dX2_aimItems_86 : decode cX2_aimItems 86 = .ok (.iastore, 1) := by decide +kernel
theorem dX2_aimItems_87 : decode cX2_aimItems 87 = .ok (.goto 50, 3) := by decide +kernel
theorem dX2_aimItems_90 : decode cX2_aimItems 90 = .ok (.aload_n 0, 1) := by decide +kernel
theorem dX2_aimItems_91 : decode cX2_aimItems 91 = .ok (.getfield 37, 3) := by decide +kernel
theorem dX2_aimItems_94 : decode cX2_aimItems 94 = .ok (.iload_n 1, 1) := by decide +kernel
theorem dX2_aimItems_95 : decode cX2_aimItems 95 = .ok (.aload_n 0, 1) := by decide +kernel
theorem dX2_aimItems_96 : decode cX2_aimItems 96 = .ok (.iload_n 1, 1) := by decide +kernel
theorem dX2_aimItems_97 : decode cX2_aimItems 97 = .ok (.invokevirtual 110, 3) := by decide +kernel
theorem dX2_aimItems_100 : decode cX2_aimItems 100 = .ok (.ifCond .eq 16, 3) := by decide +kernel
theorem dX2_aimItems_103 : decode cX2_aimItems 103 = .ok (.aload_n 0, 1) := by decide +kernel
theorem dX2_aimItems_104 : decode cX2_aimItems 104 = .ok (.aload_n 0, 1) := by decide +kernel
theorem dX2_aimItems_105 : decode cX2_aimItems 105 = .ok (.iload_n 1, 1) := by decide +kernel
theorem dX2_aimItems_106 : decode cX2_aimItems 106 = .ok (.invokevirtual 122, 3) := by decide +kernel
theorem dX2_aimItems_109 : decode cX2_aimItems 109 = .ok (.iload_n 2, 1) := by decide +kernel
theorem dX2_aimItems_110 : decode cX2_aimItems 110 = .ok (.invokevirtual 129, 3) := by decide +kernel
theorem dX2_aimItems_113 : decode cX2_aimItems 113 = .ok (.goto 13, 3) := by decide +kernel
theorem dX2_aimItems_116 : decode cX2_aimItems 116 = .ok (.aload_n 0, 1) := by decide +kernel
theorem dX2_aimItems_117 : decode cX2_aimItems 117 = .ok (.aload_n 0, 1) := by decide +kernel
theorem dX2_aimItems_118 : decode cX2_aimItems 118 = .ok (.iload_n 1, 1) := by decide +kernel
theorem dX2_aimItems_119 : decode cX2_aimItems 119 = .ok (.invokevirtual 122, 3) := by decide +kernel
theorem dX2_aimItems_122 : decode cX2_aimItems 122 = .ok (.iload_n 2, 1) := by decide +kernel
theorem dX2_aimItems_123 : decode cX2_aimItems 123 = .ok (.invokevirtual 132, 3) := by decide +kernel
theorem dX2_aimItems_126 : decode cX2_aimItems 126 = .ok (.iastore, 1) := by decide +kernel
theorem dX2_aimItems_127 : decode cX2_aimItems 127 = .ok (.goto 10, 3) := by decide +kernel
theorem dX2_aimItems_130 : decode cX2_aimItems 130 = .ok (.aload_n 0, 1) := by decide +kernel
theorem dX2_aimItems_131 : decode cX2_aimItems 131 = .ok (.getfield 37, 3) := by decide +kernel
theorem dX2_aimItems_134 : decode cX2_aimItems 134 = .ok (.iload_n 1, 1) := by decide +kernel
theorem dX2_aimItems_135 : decode cX2_aimItems 135 = .ok (.iconst (-1), 1) := by decide +kernel
theorem dX2_aimItems_136 : decode cX2_aimItems 136 = .ok (.iastore, 1) := by decide +kernel
theorem dX2_aimItems_137 : decode cX2_aimItems 137 = .ok (.iinc 1 1, 3) := by decide +kernel
theorem dX2_aimItems_140 : decode cX2_aimItems 140 = .ok (.goto (-138), 3) := by decide +kernel
theorem dX2_aimItems_143 : decode cX2_aimItems 143 = .ok (.return_, 1) := by decide +kernel
set_option maxRecDepth 20000 in
theorem ggX2_aimIslands_X4_size : GoodIn wsX2_aimIslands wsX4_size := goodIn_r _ [7, 8, 66, 67, 68, 69, 70, 71] (by decide +kernel) (by decide +kernel)
set_option maxRecDepth 20000 in
theorem gX2_aimIslands_X4_size : GoodIn wsX2_aimIslands (wsV RX2 135 RX4 yX4_size wsX4_size) := goodIn_app (goodIn_of _ (by decide +kernel)) ggX2_aimIslands_X4_size
set_option maxRecDepth 20000 in
theorem ggX2_aimIslands_X4_addressOf : GoodIn wsX2_aimIslands wsX4_addressOf := goodIn_r _ [12, 13, 14, 15, 16, 17, 18, 6, 19, 8, 20, 21, 22, 23, 66, 67, 68, 69, 70, 71] (by decide +kernel) (by decide +kernel)
set_option maxRecDepth 20000 in
theorem gX2_aimIslands_X4_addressOf : GoodIn wsX2_aimIslands (wsV RX2 128 RX4 yX4_addressOf wsX4_addressOf) := goodIn_app (goodIn_of _ (by decide +kernel)) ggX2_aimIslands_X4_addressOf
set_option maxRecDepth 20000 in
theorem ggX2_aimIslands_X4_nameOf : GoodIn wsX2_aimIslands wsX4_nameOf := goodIn_r _ [27, 20, 16, 17, 18, 6, 19, 8, 66, 67, 68, 69, 70, 71] (by decide +kernel) (by decide +kernel)
set_option maxRecDepth 20000 in
theorem gX2_aimIslands_X4_nameOf : GoodIn wsX2_aimIslands (wsV RX2 136 RX4 yX4_nameOf wsX4_nameOf) := goodIn_app (goodIn_of _ (by decide +kernel)) ggX2_aimIslands_X4_nameOf
set_option maxRecDepth 20000 in
theorem ggX2_aimIslands_X2_longAim : GoodIn wsX2_aimIslands wsX2_longAim := goodIn_r _ [32, 1, 33, 34, 35, 31, 36, 37, 38, 39, 40, 41, 42, 43, 44, 45, 46, 47, 48, 49, 3, 4, 5, 6, 7, 8, 9, 10, 11, 12, 13, 14, 15, 16, 17, 18, 19, 20, 21, 22, 23, 24, 25, 26, 27, 50, 51, 52, 53, 54, 55, 56, 57, 58, 59, 60, 61, 62, 63, 64, 65, 66, 67, 68, 69, 70, 71] (by decide +kernel) (by decide +kernel)
set_option maxRecDepth 20000 in
theorem gX2_aimIslands_X2_longAim : GoodIn wsX2_aimIslands (wsV RX2 129 RX2 yX2_longAim wsX2_longAim) := goodIn_app (goodIn_of _ (by decide +kernel)) ggX2_aimIslands_X2_longAim
theorem dX2_aimIslands_0 : decode cX2_aimIslands 0 = .ok (.iconst 0, 1) := by decide +kernel
theorem dX2_aimIslands_1 : decode cX2_aimIslands 1 = .ok (.istore_n 1, 1) := by decide +kernel
theorem dX2_aimIslands_2 : decode cX2_aimIslands 2 = .ok (.iload_n 1, 1) := by decide +kernel
theorem dX2_aimIslands_3 : decode cX2_aimIslands 3 = .ok (.aload_n 0, 1) := by decide +kernel
theorem dX2_aimIslands_4 : decode cX2_aimIslands 4 = .ok (.getfield 14, 3) := by decide +kernel
theorem dX2_aimIslands_7 : decode cX2_aimIslands 7 = .ok (.invokevirtual 135, 3) := by decide +kernel
theorem dX2_aimIslands_10 : decode cX2_aimIslands 10 = .ok (.if_icmp .ge 44, 3) := by decide +kernel
theorem dX2_aimIslands_13 : decode cX2_aimIslands 13 = .ok (.iload_n 1, 1) := by decide +kernel
theorem dX2_aimIslands_14 : decode cX2_aimIslands 14 = .ok (.aload_n 0, 1) := by decide +kernel
theorem dX2_aimIslands_15 : decode cX2_aimIslands 15 = .ok (.getfield 40, 3) := by decide +kernel
theorem dX2_aimIslands_18 : decode cX2_aimIslands 18 = .ok (.arraylength, 1) := by decide +kernel
theorem dX2_aimIslands_19 : decode cX2_aimIslands 19 = .ok (.if_icmp .ge 35, 3) := by decide +kernel
theorem dX2_aimIslands_22 : decode cX2_aimIslands 22 = .ok (.aload_n 0, 1) := by decide +kernel
theorem dX2_aimIslands_23 : decode cX2_aimIslands 23 = .ok (.getfield 40, 3) := by decide +kernel
theorem dX2_aimIslands_26 : decode cX2_aimIslands 26 = .ok (.iload_n 1, 1) := by decide +kernel
theorem dX2_aimIslands_27 : decode cX2_aimIslands 27 = .ok (.aload_n 0, 1) := by decide +kernel
theorem dX2_aimIslands_28 : decode cX2_aimIslands 28 = .ok (.aload_n 0, 1) := by decide +kernel
theorem dX2_aimIslands_29 : decode cX2_aimIslands 29 = .ok (.getfield 14, 3) := by decide +kernel
theorem dX2_aimIslands_32 : decode cX2_aimIslands 32 = .ok (.iload_n 1, 1) := by decide +kernel
theorem dX2_aimIslands_33 : decode cX2_aimIslands 33 = .ok (.invokevirtual 128, 3) := by decide +kernel
theorem dX2_aimIslands_36 : decode cX2_aimIslands 36 = .ok (.aload_n 0, 1) := by decide +kernel
theorem dX2_aimIslands_37 : decode cX2_aimIslands 37 = .ok (.getfield 14, 3) := by decide +kernel
theorem dX2_aimIslands_40 : decode cX2_aimIslands 40 = .ok (.iload_n 1, 1) := by decide +kernel
theorem dX2_aimIslands_41 : decode cX2_aimIslands 41 = .ok (.invokevirtual 136, 3) := by decide +kernel
theorem dX2_aimIslands_44 : decode cX2_aimIslands 44 = .ok (.invokevirtual 129, 3) := by decide +kernel
theorem dX2_aimIslands_47 : decode cX2_aimIslands 47 = .ok (.iastore, 1) := by decide +kernel
theorem dX2_aimIslands_48 : decode cX2_aimIslands 48 = .ok (.iinc 1 1, 3) := by decide +kernel
theorem dX2_aimIslands_51 : decode cX2_aimIslands 51 = .ok (.goto (-49), 3) := by decide +kernel
theorem dX2_aimIslands_54 : decode cX2_aimIslands 54 = .ok (.return_, 1) := by decide +kernel
set_option maxRecDepth 20000 in
theorem ggX2_shortAim_X2_labelAddress : GoodIn wsX2_shortAim wsX2_labelAddress := goodIn_r _ [6, 7, 11, 12, 13, 14, 15, 16, 17, 18, 19, 20, 21, 22, 23, 24, 25, 26] (by decide +kernel) (by decide +kernel)
set_option maxRecDepth 20000 in
theorem gX2_shortAim_X2_labelAddress : GoodIn wsX2_shortAim (wsV RX2 139 RX2 yX2_labelAddress wsX2_labelAddress) := goodIn_app (goodIn_of _ (by decide +kernel)) ggX2_shortAim_X2_labelAddress
set_option maxRecDepth 20000 in
theorem ggX2_shortAim_X5_far : GoodIn wsX2_shortAim wsX5_far := goodIn_r _ [10] (by decide +kernel) (by decide +kernel)
set_option maxRecDepth 20000 in
theorem gX2_shortAim_X5_far_n142 : GoodIn wsX2_shortAim (wsX5_far) := ggX2_shortAim_X5_far
theorem dX2_shortAim_0 : decode cX2_shortAim 0 = .ok (.aload_n 0, 1) := by decide +kernel
theorem dX2_shortAim_1 : decode cX2_shortAim 1 = .ok (.iload_n 2, 1) := by decide +kernel
theorem dX2_shortAim_2 : decode cX2_shortAim 2 = .ok (.invokevirtual 139, 3) := by decide +kernel
theorem dX2_shortAim_5 : decode cX2_shortAim 5 = .ok (.istore_n 3, 1) := by decide +kernel
theorem dX2_shortAim_6 : decode cX2_shortAim 6 = .ok (.iload_n 1, 1) := by decide +kernel
theorem dX2_shortAim_7 : decode cX2_shortAim 7 = .ok (.iload_n 3, 1) := by decide +kernel
theorem dX2_shortAim_8 : decode cX2_shortAim 8 = .ok (.invokestatic 142, 3) := by decide +kernel
theorem dX2_shortAim_11 : decode cX2_shortAim 11 = .ok (.aload_n 0, 1) := by decide +kernel
theorem dX2_shortAim_12 : decode cX2_shortAim 12 = .ok (.getfield 54, 3) := by decide +kernel
theorem dX2_shortAim_15 : decode cX2_shortAim 15 = .ok (.iconst 0, 1) := by decide +kernel
theorem dX2_shortAim_16 : decode cX2_shortAim 16 = .ok (.iaload, 1) := by decide +kernel
theorem dX2_shortAim_17 : decode cX2_shortAim 17 = .ok (.if_icmp .gt 7, 3) := by decide +kernel
theorem dX2_shortAim_20 : decode cX2_shortAim 20 = .ok (.iload_n 3, 1) := by decide +kernel
theorem dX2_shortAim_21 : decode cX2_shortAim 21 = .ok (.goto 4, 3) := by decide +kernel
theorem dX2_shortAim_24 : decode cX2_shortAim 24 = .ok (.iconst (-1), 1) := by decide +kernel
theorem dX2_shortAim_25 : decode cX2_shortAim 25 = .ok (.ireturn, 1) := by decide +kernel
set_option maxRecDepth 20000 in
theorem ggX2_longAim_X2_goesStraight : GoodIn wsX2_longAim wsX2_goesStraight := goodIn_r _ [6, 7, 8, 9, 10, 5, 11, 12, 13, 14, 15, 45, 46, 47, 48, 49, 50, 51, 52, 53, 54, 55, 56, 57, 58, 59, 60] (by decide +kernel) (by decide +kernel)
set_option maxRecDepth 20000 in
theorem gX2_longAim_X2_goesStraight : GoodIn wsX2_longAim (wsV RX2 145 RX2 yX2_goesStraight wsX2_goesStraight) := goodIn_app (goodIn_of _ (by decide +kernel)) ggX2_longAim_X2_goesStraight
set_option maxRecDepth 20000 in
theorem ggX2_longAim_X2_labelAddress : GoodIn wsX2_longAim wsX2_labelAddress := goodIn_r _ [11, 12, 45, 46, 47, 48, 49, 50, 51, 52, 53, 54, 55, 56, 57, 58, 59, 60] (by decide +kernel) (by decide +kernel)
set_option maxRecDepth 20000 in
theorem gX2_longAim_X2_labelAddress : GoodIn wsX2_longAim (wsV RX2 139 RX2 yX2_labelAddress wsX2_labelAddress) := goodIn_app (goodIn_of _ (by decide +kernel)) ggX2_longAim_X2_labelAddress
set_option maxRecDepth 20000 in
theorem ggX2_longAim_X2_islandFor : GoodIn wsX2_longAim wsX2_islandFor := goodIn_r _ [19, 1, 7, 8, 9, 10, 5, 11, 12, 13, 14, 15, 20, 21, 22, 23, 24, 25, 26, 27, 28, 29, 30, 31, 32, 33, 34, 35, 36, 37, 38, 39, 40, 41, 42, 43, 44, 45, 46, 47, 48, 49, 50, 51, 52, 53, 54, 55, 56, 57, 58, 59, 60, 61, 62, 63, 64, 65, 66] (by decide +kernel) (by decide +kernel)
set_option maxRecDepth 20000 in
theorem gX2_longAim_X2_islandFor : GoodIn wsX2_longAim (wsV RX2 149 RX2 yX2_islandFor wsX2_islandFor) := goodIn_app (goodIn_of _ (by decide +kernel)) ggX2_longAim_X2_islandFor
set_option maxRecDepth 20000 in
theorem ggX2_longAim_X4_addressOf : GoodIn wsX2_longAim wsX4_addressOf := goodIn_r _ [29, 30, 31, 32, 33, 34, 35, 23, 36, 25, 37, 38, 39, 40, 61, 62, 63, 64, 65, 66] (by decide +kernel) (by decide +kernel)
set_option maxRecDepth 20000 in
theorem gX2_longAim_X4_addressOf : GoodIn wsX2_longAim (wsV RX2 128 RX4 yX4_addressOf wsX4_addressOf) := goodIn_app (goodIn_of _ (by decide +kernel)) ggX2_longAim_X4_addressOf
theorem dX2_longAim_0 : decode cX2_longAim 0 = .ok (.aload_n 0, 1) := by decide +kernel
theorem dX2_longAim_1 : decode cX2_longAim 1 = .ok (.iload_n 1, 1) := by decide +kernel
theorem dX2_longAim_2 : decode cX2_longAim 2 = .ok (.iload_n 2, 1) := by decide +kernel
theorem dX2_longAim_3 : decode cX2_longAim 3 = .ok (.invokevirtual 145, 3) := by decide +kernel
theorem dX2_longAim_6 : decode cX2_longAim 6 = .ok (.ifCond .eq 9, 3) := by decide +kernel
theorem dX2_longAim_9 : decode cX2_longAim 9 = .ok (.aload_n 0, 1) := by decide +kernel
theorem dX2_longAim_10 : decode cX2_longAim 10 = .ok (.iload_n 2, 1) := by decide +kernel
theorem dX2_longAim_11 : decode cX2_longAim 11 = .ok (.invokevirtual 139, 3) := by decide +kernel
theorem dX2_longAim_14 : decode cX2_longAim 14 = .ok (.ireturn, 1) := by decide +kernel
theorem dX2_longAim_15 : decode cX2_longAim 15 = .ok (.aload_n 0, 1) := by decide +kernel
theorem dX2_longAim_16 : decode cX2_longAim 16 = .ok (.getfield 14, 3) := by decide +kernel
theorem dX2_longAim_19 : decode cX2_longAim 19 = .ok (.aload_n 0, 1) := by decide +kernel
theorem dX2_longAim_20 : decode cX2_longAim 20 = .ok (.iload_n 1, 1) := by decide +kernel
theorem dX2_longAim_21 : decode cX2_longAim 21 = .ok (.iload_n 2, 1) := by decide +kernel
theorem dX2_longAim_22 : decode cX2_longAim 22 = .ok (.invokevirtual 149, 3) := by decide +kernel
theorem dX2_longAim_25 : decode cX2_longAim 25 = .ok (.invokevirtual 128, 3) := by decide +kernel
theorem dX2_longAim_28 : decode cX2_longAim 28 = .ok (.ireturn, 1) := by decide +kernel
set_option maxRecDepth 20000 in
theorem ggX2_goesStraight_X2_labelAddress : GoodIn wsX2_goesStraight wsX2_labelAddress := goodIn_r _ [6, 7, 11, 12, 13, 14, 15, 16, 17, 18, 19, 20, 21, 22, 23, 24, 25, 26] (by decide +kernel) (by decide +kernel)
set_option maxRecDepth 20000 in
theorem gX2_goesStraight_X2_labelAddress : GoodIn wsX2_goesStraight (wsV RX2 139 RX2 yX2_labelAddress wsX2_labelAddress) := goodIn_app (goodIn_of _ (by decide +kernel)) ggX2_goesStraight_X2_labelAddress
set_option maxRecDepth 20000 in
theorem ggX2_goesStraight_X5_far : GoodIn wsX2_goesStraight wsX5_far := goodIn_r _ [10] (by decide +kernel) (by decide +kernel)
set_option maxRecDepth 20000 in
theorem gX2_goesStraight_X5_far_n142 : GoodIn wsX2_goesStraight (wsX5_far) := ggX2_goesStraight_X5_far
theorem dX2_goesStraight_0 : decode cX2_goesStraight 0 = .ok (.iload_n 1, 1) := by decide +kernel
theorem dX2_goesStraight_1 : decode cX2_goesStraight 1 = .ok (.aload_n 0, 1) := by decide +kernel
theorem dX2_goesStraight_2 : decode cX2_goesStraight 2 = .ok (.iload_n 2, 1) := by decide +kernel
theorem dX2_goesStraight_3 : decode cX2_goesStraight 3 = .ok (.invokevirtual 139, 3) := by decide +kernel
theorem dX2_goesStraight_6 : decode cX2_goesStraight 6 = .ok (.invokestatic 142, 3) := by decide +kernel
theorem dX2_goesStraight_9 : decode cX2_goesStraight 9 = .ok (.aload_n 0, 1) := by decide +kernel
theorem dX2_goesStraight_10 : decode cX2_goesStraight 10 = .ok (.getfield 54, 3) := by decide +kernel
theorem dX2_goesStraight_13 : decode cX2_goesStraight 13 = .ok (.iconst 1, 1) := by decide +kernel
theorem dX2_goesStraight_14 : decode cX2_goesStraight 14 = .ok (.iaload, 1) := by decide +kernel
theorem dX2_goesStraight_15 : decode cX2_goesStraight 15 = .ok (.if_icmp .gt 7, 3) := by decide +kernel
theorem dX2_goesStraight_18 : decode cX2_goesStraight 18 = .ok (.iconst 1, 1) := by decide +kernel
theorem dX2_goesStraight_19 : decode cX2_goesStraight 19 = .ok (.goto 4, 3) := by decide +kernel
theorem dX2_goesStraight_22 : decode cX2_goesStraight 22 = .ok (.iconst 0, 1) := by decide +kernel
theorem dX2_goesStraight_23 : decode cX2_goesStraight 23 = .ok (.ireturn, 1) := by decide +kernel
set_option maxRecDepth 20000 in
theorem ggX2_islandFor_X2_labelAddress : GoodIn wsX2_islandFor wsX2_labelAddress := goodIn_r _ [7, 8, 37, 38, 39, 40, 41, 42, 43, 44, 45, 46, 47, 48, 49, 50, 51, 52] (by decide +kernel) (by decide +kernel)
set_option maxRecDepth 20000 in
theorem gX2_islandFor_X2_labelAddress : GoodIn wsX2_islandFor (wsV RX2 139 RX2 yX2_labelAddress wsX2_labelAddress) := goodIn_app (goodIn_of _ (by decide +kernel)) ggX2_islandFor_X2_labelAddress
set_option maxRecDepth 20000 in
theorem ggX2_islandFor_X5_far : GoodIn wsX2_islandFor wsX5_far := goodIn_r _ [11] (by decide +kernel) (by decide +kernel)
set_option maxRecDepth 20000 in
theorem gX2_islandFor_X5_far_n142 : GoodIn wsX2_islandFor (wsX5_far) := ggX2_islandFor_X5_far
set_option maxRecDepth 20000 in
theorem ggX2_islandFor_X4_size : GoodIn wsX2_islandFor wsX4_size := goodIn_r _ [16, 17, 53, 54, 55, 56, 57, 58] (by decide +kernel) (by decide +kernel)
set_option maxRecDepth 20000 in
theorem gX2_islandFor_X4_size : GoodIn wsX2_islandFor (wsV RX2 135 RX4 yX4_size wsX4_size) := goodIn_app (goodIn_of _ (by decide +kernel)) ggX2_islandFor_X4_size
set_option maxRecDepth 20000 in
theorem ggX2_islandFor_X4_addressOf : GoodIn wsX2_islandFor wsX4_addressOf := goodIn_r _ [21, 22, 23, 24, 25, 26, 27, 15, 28, 17, 29, 30, 31, 32, 53, 54, 55, 56, 57, 58] (by decide +kernel) (by decide +kernel)
set_option maxRecDepth 20000 in
theorem gX2_islandFor_X4_addressOf : GoodIn wsX2_islandFor (wsV RX2 128 RX4 yX4_addressOf wsX4_addressOf) := goodIn_app (goodIn_of _ (by decide +kernel)) ggX2_islandFor_X4_addressOf
set_option maxRecDepth 20000 in
theorem ggX2_islandFor_X4_nameOf : GoodIn wsX2_islandFor wsX4_nameOf := goodIn_r _ [36, 29, 25, 26, 27, 15, 28, 17, 53, 54, 55, 56, 57, 58] (by decide +kernel) (by decide +kernel)
set_option maxRecDepth 20000 in
theorem gX2_islandFor_X4_nameOf : GoodIn wsX2_islandFor (wsV RX2 136 RX4 yX4_nameOf wsX4_nameOf) := goodIn_app (goodIn_of _ (by decide +kernel)) ggX2_islandFor_X4_nameOf
theorem dX2_islandFor_0 : decode cX2_islandFor 0 = .ok (.aload_n 0, 1) := by decide +kernel
theorem dX2_islandFor_1 : decode cX2_islandFor 1 = .ok (.iload_n 2, 1) := by decide +kernel
theorem dX2_islandFor_2 : decode cX2_islandFor 2 = .ok (.invokevirtual 139, 3) := by decide +kernel
theorem dX2_islandFor_5 : decode cX2_islandFor 5 = .ok (.istore_n 3, 1) := by decide +kernel
theorem dX2_islandFor_6 : decode cX2_islandFor 6 = .ok (.iconst (-1), 1) := by decide +kernel
theorem dX2_islandFor_7 : decode cX2_islandFor 7 = .ok (.istore 4, 2) := by decide +kernel
theorem dX2_islandFor_9 : decode cX2_islandFor 9 = .ok (.iload_n 1, 1) := by decide +kernel
theorem dX2_islandFor_10 : decode cX2_islandFor 10 = .ok (.iload_n 3, 1) := by decide +kernel
theorem dX2_islandFor_11 : decode cX2_islandFor 11 = .ok (.invokestatic 142, 3) := by decide +kernel
theorem dX2_islandFor_14 : decode cX2_islandFor 14 = .ok (.istore 5, 2) := by decide +kernel
theorem dX2_islandFor_16 : decode cX2_islandFor 16 = .ok (.iconst 0, 1) := by decide +kernel
theorem dX2_islandFor_17 : decode cX2_islandFor 17 = .ok (.istore 6, 2) := by decide +kernel
theorem dX2_islandFor_19 : decode cX2_islandFor 19 = .ok (.iload 6, 2) := by decide +kernel
theorem dX2_islandFor_21 : decode cX2_islandFor 21 = .ok (.aload_n 0, 1) := by decide +kernel
theorem dX2_islandFor_22 : decode cX2_islandFor 22 = .ok (.getfield 14, 3) := by decide +kernel
theorem dX2_islandFor_25 : decode cX2_islandFor 25 = .ok (.invokevirtual 135, 3) := by decide +kernel
theorem dX2_islandFor_28 : decode cX2_islandFor 28 = .ok (.if_icmp .ge 122, 3) := by decide +kernel
theorem dX2_islandFor_31 : decode cX2_islandFor 31 = .ok (.aload_n 0, 1) := by decide +kernel
theorem dX2_islandFor_32 : decode cX2_islandFor 32 = .ok (.getfield 14, 3) := by decide +kernel
theorem dX2_islandFor_35 : decode cX2_islandFor 35 = .ok (.iload 6, 2) := by decide +kernel
theorem dX2_islandFor_37 : decode cX2_islandFor 37 = .ok (.invokevirtual 128, 3) := by decide +kernel
theorem dX2_islandFor_40 : decode cX2_islandFor 40 = .ok (.istore 7, 2) := by decide +kernel
theorem dX2_islandFor_42 : decode cX2_islandFor 42 = .ok (.iload 7, 2) := by decide +kernel
theorem dX2_islandFor_44 : decode cX2_islandFor 44 = .ok (.iload_n 3, 1) := by decide +kernel
theorem dX2_islandFor_45 : decode cX2_islandFor 45 = .ok (.invokestatic 142, 3) := by decide +kernel
theorem dX2_islandFor_48 : decode cX2_islandFor 48 = .ok (.istore 8, 2) := by decide +kernel
theorem dX2_islandFor_50 : decode cX2_islandFor 50 = .ok (.aload_n 0, 1) := by decide +kernel
theorem dX2_islandFor_51 : decode cX2_islandFor 51 = .ok (.getfield 14, 3) := by decide +kernel
theorem dX2_islandFor_54 : decode cX2_islandFor 54 = .ok (.iload 6, 2) := by decide +kernel
theorem dX2_islandFor_56 : decode cX2_islandFor 56 = .ok (.invokevirtual 136, 3) := by decide +kernel
theorem dX2_islandFor_59 : decode cX2_islandFor 59 = .ok (.iload_n 2, 1) := by decide +kernel
theorem dX2_islandFor_60 : decode cX2_islandFor 60 = .ok (.if_icmp .ne 22, 3) := by decide +kernel
theorem dX2_islandFor_63 : decode cX2_islandFor 63 = .ok (.iload 7, 2) := by decide +kernel
theorem dX2_islandFor_65 : decode cX2_islandFor 65 = .ok (.iload_n 1, 1) := by decide +kernel
theorem dX2_islandFor_66 : decode cX2_islandFor 66 = .ok (.invokestatic 142, 3) := by decide +kernel
theorem dX2_islandFor_69 : decode cX2_islandFor 69 = .ok (.aload_n 0, 1) := by decide +kernel
theorem dX2_islandFor_70 : decode cX2_islandFor 70 = .ok (.getfield 54, 3) := by decide +kernel
theorem dX2_islandFor_73 : decode cX2_islandFor 73 = .ok (.iconst 1, 1) := by decide +kernel
theorem dX2_islandFor_74 : decode cX2_islandFor 74 = .ok (.iaload, 1) := by decide +kernel
theorem dX2_islandFor_75 : decode cX2_islandFor 75 = .ok (.if_icmp .gt 7, 3) := by decide +kernel
theorem dX2_islandFor_78 : decode cX2_islandFor 78 = .ok (.iconst 1, 1) := by decide +kernel
theorem dX2_islandFor_79 : decode cX2_islandFor 79 = .ok (.goto 4, 3) := by decide +kernel
theorem dX2_islandFor_82 : decode cX2_islandFor 82 = .ok (.iconst 0, 1) := by decide +kernel
theorem dX2_islandFor_83 : decode cX2_islandFor 83 = .ok (.istore 9, 2) := by decide +kernel
theorem dX2_islandFor_85 : decode cX2_islandFor 85 = .ok (.iload 4, 2) := by decide +kernel
theorem dX2_islandFor_87 : decode cX2_islandFor 87 = .ok (.iconst (-1), 1) := by decide +kernel
theorem dX2_islandFor_88 : decode cX2_islandFor 88 = .ok (.if_icmp .eq 28, 3) := by decide +kernel
theorem dX2_islandFor_91 : decode cX2_islandFor 91 = .ok (.iload 8, 2) := by decide +kernel
theorem dX2_islandFor_93 : decode cX2_islandFor 93 = .ok (.iload 5, 2) := by decide +kernel
theorem dX2_islandFor_95 : decode cX2_islandFor 95 = .ok (.if_icmp .ne 21, 3) := by decide +kernel
theorem dX2_islandFor_98 : decode cX2_islandFor 98 = .ok (.iload 7, 2) := by decide +kernel
theorem dX2_islandFor_100 : decode cX2_islandFor 100 = .ok (.aload_n 0, 1) := by decide +kernel
theorem dX2_islandFor_101 : decode cX2_islandFor 101 = .ok (.getfield 14, 3) := by decide +kernel
theorem dX2_islandFor_104 : decode cX2_islandFor 104 = .ok (.iload 4, 2) := by decide +kernel
theorem dX2_islandFor_106 : decode cX2_islandFor 106 = .ok (.invokevirtual 128, 3) := by decide +kernel
theorem dX2_islandFor_109 : decode cX2_islandFor 109 = .ok (.if_icmp .ge 7, 3) := by decide +kernel
theorem dX2_islandFor_112 : decode cX2_islandFor 112 = .ok (.iconst 1, 1) := by decide +kernel
theorem dX2_islandFor_113 : decode cX2_islandFor 113 = .ok (.goto 4, 3) := by decide +kernel
theorem dX2_islandFor_116 : decode cX2_islandFor 116 = .ok (.iconst 0, 1) := by decide +kernel
theorem dX2_islandFor_117 : decode cX2_islandFor 117 = .ok (.istore 10, 2) := by decide +kernel
theorem dX2_islandFor_119 : decode cX2_islandFor 119 = .ok (.iload 9, 2) := by decide +kernel
theorem dX2_islandFor_121 : decode cX2_islandFor 121 = .ok (.ifCond .eq 23, 3) := by decide +kernel
theorem dX2_islandFor_124 : decode cX2_islandFor 124 = .ok (.iload 8, 2) := by decide +kernel
theorem dX2_islandFor_126 : decode cX2_islandFor 126 = .ok (.iload 5, 2) := by decide +kernel
theorem dX2_islandFor_128 : decode cX2_islandFor 128 = .ok (.if_icmp .lt 8, 3) := by decide +kernel
theorem dX2_islandFor_131 : decode cX2_islandFor 131 = .ok (.iload 10, 2) := by decide +kernel
theorem dX2_islandFor_133 : decode cX2_islandFor 133 = .ok (.ifCond .eq 11, 3) := by decide +kernel
theorem dX2_islandFor_136 : decode cX2_islandFor 136 = .ok (.iload 6, 2) := by decide +kernel
theorem dX2_islandFor_138 : decode cX2_islandFor 138 = .ok (.istore 4, 2) := by decide +kernel
theorem dX2_islandFor_140 : decode cX2_islandFor 140 = .ok (.iload 8, 2) := by decide +kernel
theorem dX2_islandFor_142 : decode cX2_islandFor 142 = .ok (.istore 5, 2) := by decide +kernel
theorem dX2_islandFor_144 : decode cX2_islandFor 144 = .ok (.iinc 6 1, 3) := by decide +kernel
theorem dX2_islandFor_147 : decode cX2_islandFor 147 = .ok (.goto (-128), 3) := by decide +kernel
theorem dX2_islandFor_150 : decode cX2_islandFor 150 = .ok (.iload 4, 2) := by decide +kernel
theorem dX2_islandFor_152 : decode cX2_islandFor 152 = .ok (.ireturn, 1) := by decide +kernel
set_option maxRecDepth 20000 in
theorem ggX2_constantFor_X4_size : GoodIn wsX2_constantFor wsX4_size := goodIn_r _ [6, 7, 49, 50, 51, 52, 53, 54] (by decide +kernel) (by decide +kernel)
set_option maxRecDepth 20000 in
theorem gX2_constantFor_X4_size : GoodIn wsX2_constantFor (wsV RX2 135 RX4 yX4_size wsX4_size) := goodIn_app (goodIn_of _ (by decide +kernel)) ggX2_constantFor_X4_size
set_option maxRecDepth 20000 in
theorem ggX2_constantFor_X4_addressOf : GoodIn wsX2_constantFor wsX4_addressOf := goodIn_r _ [11, 12, 13, 14, 15, 16, 17, 5, 18, 7, 19, 20, 21, 22, 49, 50, 51, 52, 53, 54] (by decide +kernel) (by decide +kernel)
set_option maxRecDepth 20000 in
theorem gX2_constantFor_X4_addressOf : GoodIn wsX2_constantFor (wsV RX2 128 RX4 yX4_addressOf wsX4_addressOf) := goodIn_app (goodIn_of _ (by decide +kernel)) ggX2_constantFor_X4_addressOf
set_option maxRecDepth 20000 in
theorem ggX2_constantFor_X4_nameOf : GoodIn wsX2_constantFor wsX4_nameOf := goodIn_r _ [26, 19, 15, 16, 17, 5, 18, 7, 49, 50, 51, 52, 53, 54] (by decide +kernel) (by decide +kernel)
set_option maxRecDepth 20000 in
theorem gX2_constantFor_X4_nameOf : GoodIn wsX2_constantFor (wsV RX2 136 RX4 yX4_nameOf wsX4_nameOf) := goodIn_app (goodIn_of _ (by decide +kernel)) ggX2_constantFor_X4_nameOf
set_option maxRecDepth 20000 in
theorem ggX2_constantFor_X2_isInLoadReach : GoodIn wsX2_constantFor wsX2_isInLoadReach := goodIn_r _ [31, 32, 33, 34, 35, 36, 37, 38, 39, 40, 41, 42, 43, 44, 45, 46, 47, 48] (by decide +kernel) (by decide +kernel)
set_option maxRecDepth 20000 in
theorem gX2_constantFor_X2_isInLoadReach : GoodIn wsX2_constantFor (wsV RX2 152 RX2 yX2_isInLoadReach wsX2_isInLoadReach) := goodIn_app (goodIn_of _ (by decide +kernel)) ggX2_constantFor_X2_isInLoadReach
theorem dX2_constantFor_0 : decode cX2_constantFor 0 = .ok (.iconst (-1), 1) := by decide +kernel
theorem dX2_constantFor_1 : decode cX2_constantFor 1 = .ok (.istore_n 3, 1) := by decide +kernel
theorem dX2_constantFor_2 : decode cX2_constantFor 2 = .ok (.iconst 0, 1) := by decide +kernel
theorem dX2_constantFor_3 : decode cX2_constantFor 3 = .ok (.istore 4, 2) := by decide +kernel
theorem dX2_constantFor_5 : decode cX2_constantFor 5 = .ok (.iload 4, 2) := by decide +kernel
theorem dX2_constantFor_7 : decode cX2_constantFor 7 = .ok (.aload_n 0, 1) := by decide +kernel
theorem dX2_constantFor_8 : decode cX2_constantFor 8 = .ok (.getfield 20, 3) := by decide +kernel
theorem dX2_constantFor_11 : decode cX2_constantFor 11 = .ok (.invokevirtual 135, 3) := by decide +kernel
theorem dX2_constantFor_14 : decode cX2_constantFor 14 = .ok (.if_icmp .ge 64, 3) := by decide +kernel
theorem dX2_constantFor_17 : decode cX2_constantFor 17 = .ok (.aload_n 0, 1) := by decide +kernel
theorem dX2_constantFor_18 : decode cX2_constantFor 18 = .ok (.getfield 20, 3) := by decide +kernel
theorem dX2_constantFor_21 : decode cX2_constantFor 21 = .ok (.iload 4, 2) := by decide +kernel
theorem dX2_constantFor_23 : decode cX2_constantFor 23 = .ok (.invokevirtual 128, 3) := by decide +kernel
theorem dX2_constantFor_26 : decode cX2_constantFor 26 = .ok (.istore 5, 2) := by decide +kernel
theorem dX2_constantFor_28 : decode cX2_constantFor 28 = .ok (.aload_n 0, 1) := by decide +kernel
theorem dX2_constantFor_29 : decode cX2_constantFor 29 = .ok (.getfield 20, 3) := by decide +kernel
theorem dX2_constantFor_32 : decode cX2_constantFor 32 = .ok (.iload 4, 2) := by decide +kernel
theorem dX2_constantFor_34 : decode cX2_constantFor 34 = .ok (.invokevirtual 136, 3) := by decide +kernel
theorem dX2_constantFor_37 : decode cX2_constantFor 37 = .ok (.iload_n 2, 1) := by decide +kernel
theorem dX2_constantFor_38 : decode cX2_constantFor 38 = .ok (.if_icmp .ne 34, 3) := by decide +kernel
theorem dX2_constantFor_41 : decode cX2_constantFor 41 = .ok (.aload_n 0, 1) := by decide +kernel
theorem dX2_constantFor_42 : decode cX2_constantFor 42 = .ok (.iload_n 1, 1) := by decide +kernel
theorem dX2_constantFor_43 : decode cX2_constantFor 43 = .ok (.iload 5, 2) := by decide +kernel
theorem dX2_constantFor_45 : decode cX2_constantFor 45 = .ok (.invokevirtual 152, 3) := by decide +kernel
theorem dX2_constantFor_48 : decode cX2_constantFor 48 = .ok (.ifCond .eq 24, 3) := by decide +kernel
theorem dX2_constantFor_51 : decode cX2_constantFor 51 = .ok (.iload_n 3, 1) := by decide +kernel
theorem dX2_constantFor_52 : decode cX2_constantFor 52 = .ok (.iconst (-1), 1) := by decide +kernel
theorem dX2_constantFor_53 : decode cX2_constantFor 53 = .ok (.if_icmp .eq 16, 3) := by decide +kernel
theorem dX2_constantFor_56 : decode cX2_constantFor 56 = .ok (.iload 5, 2) := by decide +kernel
theorem dX2_constantFor_58 : decode cX2_constantFor 58 = .ok (.aload_n 0, 1) := by decide +kernel
theorem dX2_constantFor_59 : decode cX2_constantFor 59 = .ok (.getfield 20, 3) := by decide +kernel
theorem dX2_constantFor_62 : decode cX2_constantFor 62 = .ok (.iload_n 3, 1) := by decide +kernel
theorem dX2_constantFor_63 : decode cX2_constantFor 63 = .ok (.invokevirtual 128, 3) := by decide +kernel
theorem dX2_constantFor_66 : decode cX2_constantFor 66 = .ok (.if_icmp .ge 6, 3) := by decide +kernel
theorem dX2_constantFor_69 : decode cX2_constantFor 69 = .ok (.iload 4, 2) := by decide +kernel
theorem dX2_constantFor_71 : decode cX2_constantFor 71 = .ok (.istore_n 3, 1) := by decide +kernel
theorem dX2_constantFor_72 : decode cX2_constantFor 72 = .ok (.iinc 4 1, 3) := by decide +kernel
theorem dX2_constantFor_75 : decode cX2_constantFor 75 = .ok (.goto (-70), 3) := by decide +kernel
theorem dX2_constantFor_78 : decode cX2_constantFor 78 = .ok (.iload_n 3, 1) := by decide +kernel
theorem dX2_constantFor_79 : decode cX2_constantFor 79 = .ok (.ireturn, 1) := by decide +kernel
theorem dX2_isInLoadReach_0 : decode cX2_isInLoadReach 0 = .ok (.iload_n 2, 1) := by decide +kernel
theorem dX2_isInLoadReach_1 : decode cX2_isInLoadReach 1 = .ok (.iload_n 1, 1) := by decide +kernel
theorem dX2_isInLoadReach_2 : decode cX2_isInLoadReach 2 = .ok (.if_icmp .le 19, 3) := by decide +kernel
theorem dX2_isInLoadReach_5 : decode cX2_isInLoadReach 5 = .ok (.iload_n 2, 1) := by decide +kernel
theorem dX2_isInLoadReach_6 : decode cX2_isInLoadReach 6 = .ok (.iload_n 1, 1) := by decide +kernel
theorem dX2_isInLoadReach_7 : decode cX2_isInLoadReach 7 = .ok (.isub, 1) := by decide +kernel
theorem dX2_isInLoadReach_8 : decode cX2_isInLoadReach 8 = .ok (.aload_n 0, 1) := by decide +kernel
theorem dX2_isInLoadReach_9 : decode cX2_isInLoadReach 9 = .ok (.getfield 54, 3) := by decide +kernel
theorem dX2_isInLoadReach_12 : decode cX2_isInLoadReach 12 = .ok (.iconst 2, 1) := by decide +kernel
theorem dX2_isInLoadReach_13 : decode cX2_isInLoadReach 13 = .ok (.iaload, 1) := by decide +kernel
theorem dX2_isInLoadReach_14 : decode cX2_isInLoadReach 14 = .ok (.if_icmp .gt 7, 3) := by decide +kernel
theorem dX2_isInLoadReach_17 : decode cX2_isInLoadReach 17 = .ok (.iconst 1, 1) := by decide +kernel
theorem dX2_isInLoadReach_18 : decode cX2_isInLoadReach 18 = .ok (.goto 4, 3) := by decide +kernel
theorem dX2_isInLoadReach_21 : decode cX2_isInLoadReach 21 = .ok (.iconst 0, 1) := by decide +kernel
theorem dX2_isInLoadReach_22 : decode cX2_isInLoadReach 22 = .ok (.ireturn, 1) := by decide +kernel
theorem dX2_aimOf_0 : decode cX2_aimOf 0 = .ok (.iload_n 1, 1) := by decide +kernel
theorem dX2_aimOf_1 : decode cX2_aimOf 1 = .ok (.ifCond .lt 21, 3) := by decide +kernel
theorem dX2_aimOf_4 : decode cX2_aimOf 4 = .ok (.iload_n 1, 1) := by decide +kernel
theorem dX2_aimOf_5 : decode cX2_aimOf 5 = .ok (.aload_n 0, 1) := by decide +kernel
theorem dX2_aimOf_6 : decode cX2_aimOf 6 = .ok (.getfield 37, 3) := by decide +kernel
theorem dX2_aimOf_9 : decode cX2_aimOf 9 = .ok (.arraylength, 1) := by decide +kernel
theorem dX2_aimOf_10 : decode cX2_aimOf 10 = .ok (.if_icmp .ge 12, 3) := by decide +kernel
theorem dX2_aimOf_13 : decode cX2_aimOf 13 = .ok (.aload_n 0, 1) := by decide +kernel
theorem dX2_aimOf_14 : decode cX2_aimOf 14 = .ok (.getfield 37, 3) := by decide +kernel
theorem dX2_aimOf_17 : decode cX2_aimOf 17 = .ok (.iload_n 1, 1) := by decide +kernel
theorem dX2_aimOf_18 : decode cX2_aimOf 18 = .ok (.iaload, 1) := by decide +kernel
theorem dX2_aimOf_19 : decode cX2_aimOf 19 = .ok (.goto 4, 3) := by decide +kernel
theorem dX2_aimOf_22 : decode cX2_aimOf 22 = .ok (.iconst (-1), 1) := by decide +kernel
theorem dX2_aimOf_23 : decode cX2_aimOf 23 = .ok (.ireturn, 1) := by decide +kernel
theorem dX2_islandAimOf_0 : decode cX2_islandAimOf 0 = .ok (.iload_n 1, 1) := by decide +kernel
theorem dX2_islandAimOf_1 : decode cX2_islandAimOf 1 = .ok (.ifCond .lt 21, 3) := by decide +kernel
theorem dX2_islandAimOf_4 : decode cX2_islandAimOf 4 = .ok (.iload_n 1, 1) := by decide +kernel
theorem dX2_islandAimOf_5 : decode cX2_islandAimOf 5 = .ok (.aload_n 0, 1) := by decide +kernel
theorem dX2_islandAimOf_6 : decode cX2_islandAimOf 6 = .ok (.getfield 40, 3) := by decide +kernel
theorem dX2_islandAimOf_9 : decode cX2_islandAimOf 9 = .ok (.arraylength, 1) := by decide +kernel
theorem dX2_islandAimOf_10 : decode cX2_islandAimOf 10 = .ok (.if_icmp .ge 12, 3) := by decide +kernel
theorem dX2_islandAimOf_13 : decode cX2_islandAimOf 13 = .ok (.aload_n 0, 1) := by decide +kernel
theorem dX2_islandAimOf_14 : decode cX2_islandAimOf 14 = .ok (.getfield 40, 3) := by decide +kernel
theorem dX2_islandAimOf_17 : decode cX2_islandAimOf 17 = .ok (.iload_n 1, 1) := by decide +kernel
theorem dX2_islandAimOf_18 : decode cX2_islandAimOf 18 = .ok (.iaload, 1) := by decide +kernel
theorem dX2_islandAimOf_19 : decode cX2_islandAimOf 19 = .ok (.goto 4, 3) := by decide +kernel
theorem dX2_islandAimOf_22 : decode cX2_islandAimOf 22 = .ok (.iconst (-1), 1) := by decide +kernel
theorem dX2_islandAimOf_23 : decode cX2_islandAimOf 23 = .ok (.ireturn, 1) := by decide +kernel
set_option maxRecDepth 20000 in
theorem ggX2_loadsOf_X4_addressOf : GoodIn wsX2_loadsOf wsX4_addressOf := goodIn_r _ [7, 8, 9, 10, 11, 12, 13, 6, 14, 15, 16, 17, 18, 19, 58, 59, 60, 61, 62, 63] (by decide +kernel) (by decide +kernel)
set_option maxRecDepth 20000 in
theorem gX2_loadsOf_X4_addressOf : GoodIn wsX2_loadsOf (wsV RX2 128 RX4 yX4_addressOf wsX4_addressOf) := goodIn_app (goodIn_of _ (by decide +kernel)) ggX2_loadsOf_X4_addressOf
set_option maxRecDepth 20000 in
theorem ggX2_loadsOf_X0_size : GoodIn wsX2_loadsOf wsX0_size := goodIn_r _ [24, 25, 64, 65, 66, 67] (by decide +kernel) (by decide +kernel)
set_option maxRecDepth 20000 in
theorem gX2_loadsOf_X0_size : GoodIn wsX2_loadsOf (wsV RX2 60 RX0 yX0_size wsX0_size) := goodIn_app (goodIn_of _ (by decide +kernel)) ggX2_loadsOf_X0_size
set_option maxRecDepth 20000 in
theorem ggX2_loadsOf_X0_kindOf : GoodIn wsX2_loadsOf wsX0_kindOf := goodIn_r _ [29, 30, 31, 32, 33, 23, 34, 25, 35, 64, 65, 66, 67] (by decide +kernel) (by decide +kernel)
set_option maxRecDepth 20000 in
theorem gX2_loadsOf_X0_kindOf : GoodIn wsX2_loadsOf (wsV RX2 92 RX0 yX0_kindOf wsX0_kindOf) := goodIn_app (goodIn_of _ (by decide +kernel)) ggX2_loadsOf_X0_kindOf
set_option maxRecDepth 20000 in
theorem ggX2_loadsOf_X2_aimOf : GoodIn wsX2_loadsOf wsX2_aimOf := goodIn_r _ [40, 41, 42, 43, 44, 45, 46, 47, 48, 49, 50, 51, 52, 53, 54, 55, 56, 57] (by decide +kernel) (by decide +kernel)
set_option maxRecDepth 20000 in
theorem gX2_loadsOf_X2_aimOf : GoodIn wsX2_loadsOf (wsV RX2 155 RX2 yX2_aimOf wsX2_aimOf) := goodIn_app (goodIn_of _ (by decide +kernel)) ggX2_loadsOf_X2_aimOf
theorem dX2_loadsOf_0 : decode cX2_loadsOf 0 = .ok (.aload_n 0, 1) := by decide +kernel
theorem dX2_loadsOf_1 : decode cX2_loadsOf 1 = .ok (.getfield 20, 3) := by decide +kernel
theorem dX2_loadsOf_4 : decode cX2_loadsOf 4 = .ok (.iload_n 1, 1) := by decide +kernel
theorem dX2_loadsOf_5 : decode cX2_loadsOf 5 = .ok (.invokevirtual 128, 3) := by decide +kernel
theorem dX2_loadsOf_8 : decode cX2_loadsOf 8 = .ok (.istore_n 2, 1) := by decide +kernel
theorem dX2_loadsOf_9 : decode cX2_loadsOf 9 = .ok (.iconst 0, 1) := by decide +kernel
theorem dX2_loadsOf_10 : decode cX2_loadsOf 10 = .ok (.istore_n 3, 1) := by decide +kernel
theorem dX2_loadsOf_11 : decode cX2_loadsOf 11 = .ok (.iconst 0, 1) := by decide +kernel
theorem dX2_loadsOf_12 : decode cX2_loadsOf 12 = .ok (.istore 4, 2) := by decide +kernel
theorem dX2_loadsOf_14 : decode cX2_loadsOf 14 = .ok (.iload 4, 2) := by decide +kernel
theorem dX2_loadsOf_16 : decode cX2_loadsOf 16 = .ok (.aload_n 0, 1) := by decide +kernel
theorem dX2_loadsOf_17 : decode cX2_loadsOf 17 = .ok (.getfield 50, 3) := by decide +kernel
theorem dX2_loadsOf_20 : decode cX2_loadsOf 20 = .ok (.invokevirtual 60, 3) := by decide +kernel
theorem dX2_loadsOf_23 : decode cX2_loadsOf 23 = .ok (.if_icmp .ge 35, 3) := by decide +kernel
theorem dX2_loadsOf_26 : decode cX2_loadsOf 26 = .ok (.aload_n 0, 1) := by decide +kernel
theorem dX2_loadsOf_27 : decode cX2_loadsOf 27 = .ok (.getfield 50, 3) := by decide +kernel
theorem dX2_loadsOf_30 : decode cX2_loadsOf 30 = .ok (.iload 4, 2) := by decide +kernel
theorem dX2_loadsOf_32 : decode cX2_loadsOf 32 = .ok (.invokevirtual 92, 3) := by decide +kernel
theorem dX2_loadsOf_35 : decode cX2_loadsOf 35 = .ok (.iconst 1, 1) := by decide +kernel
theorem dX2_loadsOf_36 : decode cX2_loadsOf 36 = .ok (.if_icmp .ne 16, 3) := by decide +kernel
theorem dX2_loadsOf_39 : decode cX2_loadsOf 39 = .ok (.aload_n 0, 1) := by decide +kernel
theorem dX2_loadsOf_40 : decode cX2_loadsOf 40 = .ok (.iload 4, 2) := by decide +kernel
theorem dX2_loadsOf_42 : decode cX2_loadsOf 42 = .ok (.invokevirtual 155, 3) := by decide +kernel
theorem dX2_loadsOf_45 : decode cX2_loadsOf 45 = .ok (.iload_n 2, 1) := by decide +kernel
theorem dX2_loadsOf_46 : decode cX2_loadsOf 46 = .ok (.if_icmp .ne 6, 3) := by decide +kernel
theorem dX2_loadsOf_49 : decode cX2_loadsOf 49 = .ok (.iinc 3 1, 3) := by decide +kernel
theorem dX2_loadsOf_52 : decode cX2_loadsOf 52 = .ok (.iinc 4 1, 3) := by decide +kernel
theorem dX2_loadsOf_55 : decode cX2_loadsOf 55 = .ok (.goto (-41), 3) := by decide +kernel
theorem dX2_loadsOf_58 : decode cX2_loadsOf 58 = .ok (.iload_n 3, 1) := by decide +kernel
theorem dX2_loadsOf_59 : decode cX2_loadsOf 59 = .ok (.ireturn, 1) := by decide +kernel
set_option maxRecDepth 20000 in
theorem ggX2_hopsFrom_X0_toldOf : GoodIn wsX2_hopsFrom wsX0_toldOf := goodIn_r _ [7, 8, 9, 10, 11, 6, 12, 13, 14, 89, 90, 91, 92] (by decide +kernel) (by decide +kernel)
set_option maxRecDepth 20000 in
theorem gX2_hopsFrom_X0_toldOf : GoodIn wsX2_hopsFrom (wsV RX2 100 RX0 yX0_toldOf wsX0_toldOf) := goodIn_app (goodIn_of _ (by decide +kernel)) ggX2_hopsFrom_X0_toldOf
set_option maxRecDepth 20000 in
theorem ggX2_hopsFrom_X2_addressOf : GoodIn wsX2_hopsFrom wsX2_addressOf := goodIn_r _ [19, 20, 73, 74, 75, 76, 77, 78, 79, 80, 81, 82, 83, 84, 85, 86, 87, 88] (by decide +kernel) (by decide +kernel)
set_option maxRecDepth 20000 in
theorem gX2_hopsFrom_X2_addressOf : GoodIn wsX2_hopsFrom (wsV RX2 122 RX2 yX2_addressOf wsX2_addressOf) := goodIn_app (goodIn_of _ (by decide +kernel)) ggX2_hopsFrom_X2_addressOf
set_option maxRecDepth 20000 in
theorem ggX2_hopsFrom_X2_isLong : GoodIn wsX2_hopsFrom wsX2_isLong := goodIn_r _ [24, 25, 73, 74, 75, 76, 77, 78, 79, 80, 81, 82, 83, 84, 85, 86, 87, 88] (by decide +kernel) (by decide +kernel)
set_option maxRecDepth 20000 in
theorem gX2_hopsFrom_X2_isLong : GoodIn wsX2_hopsFrom (wsV RX2 110 RX2 yX2_isLong wsX2_isLong) := goodIn_app (goodIn_of _ (by decide +kernel)) ggX2_hopsFrom_X2_isLong
set_option maxRecDepth 20000 in
theorem ggX2_hopsFrom_X2_aimOf : GoodIn wsX2_hopsFrom wsX2_aimOf := goodIn_r _ [29, 30, 73, 74, 75, 76, 77, 78, 79, 80, 81, 82, 83, 84, 85, 86, 87, 88] (by decide +kernel) (by decide +kernel)
set_option maxRecDepth 20000 in
theorem gX2_hopsFrom_X2_aimOf : GoodIn wsX2_hopsFrom (wsV RX2 155 RX2 yX2_aimOf wsX2_aimOf) := goodIn_app (goodIn_of _ (by decide +kernel)) ggX2_hopsFrom_X2_aimOf
set_option maxRecDepth 20000 in
theorem ggX2_hopsFrom_X2_goesStraight : GoodIn wsX2_hopsFrom wsX2_goesStraight := goodIn_r _ [34, 35, 36, 37, 38, 18, 39, 40, 41, 42, 43, 73, 74, 75, 76, 77, 78, 79, 80, 81, 82, 83, 84, 85, 86, 87, 88] (by decide +kernel) (by decide +kernel)
set_option maxRecDepth 20000 in
theorem gX2_hopsFrom_X2_goesStraight : GoodIn wsX2_hopsFrom (wsV RX2 145 RX2 yX2_goesStraight wsX2_goesStraight) := goodIn_app (goodIn_of _ (by decide +kernel)) ggX2_hopsFrom_X2_goesStraight
set_option maxRecDepth 20000 in
theorem ggX2_hopsFrom_X2_islandFor : GoodIn wsX2_hopsFrom wsX2_islandFor := goodIn_r _ [47, 2, 35, 36, 37, 38, 18, 39, 40, 41, 42, 43, 48, 49, 50, 51, 52, 53, 54, 55, 56, 57, 58, 59, 60, 61, 62, 63, 64, 65, 66, 67, 68, 69, 70, 71, 72, 73, 74, 75, 76, 77, 78, 79, 80, 81, 82, 83, 84, 85, 86, 87, 88, 93, 94, 95, 96, 97, 98] (by decide +kernel) (by decide +kernel)
set_option maxRecDepth 20000 in
theorem gX2_hopsFrom_X2_islandFor : GoodIn wsX2_hopsFrom (wsV RX2 149 RX2 yX2_islandFor wsX2_islandFor) := goodIn_app (goodIn_of _ (by decide +kernel)) ggX2_hopsFrom_X2_islandFor
set_option maxRecDepth 20000 in
theorem ggX2_hopsFrom_X4_addressOf : GoodIn wsX2_hopsFrom wsX4_addressOf := goodIn_r _ [57, 58, 59, 60, 61, 62, 63, 51, 64, 53, 65, 66, 67, 68, 93, 94, 95, 96, 97, 98] (by decide +kernel) (by decide +kernel)
set_option maxRecDepth 20000 in
theorem gX2_hopsFrom_X4_addressOf : GoodIn wsX2_hopsFrom (wsV RX2 128 RX4 yX4_addressOf wsX4_addressOf) := goodIn_app (goodIn_of _ (by decide +kernel)) ggX2_hopsFrom_X4_addressOf
theorem dX2_hopsFrom_0 : decode cX2_hopsFrom 0 = .ok (.aload_n 0, 1) := by decide +kernel
theorem dX2_hopsFrom_1 : decode cX2_hopsFrom 1 = .ok (.getfield 50, 3) := by decide +kernel
theorem dX2_hopsFrom_4 : decode cX2_hopsFrom 4 = .ok (.iload_n 1, 1) := by decide +kernel
theorem dX2_hopsFrom_5 : decode cX2_hopsFrom 5 = .ok (.invokevirtual 100, 3) := by decide +kernel
theorem dX2_hopsFrom_8 : decode cX2_hopsFrom 8 = .ok (.istore_n 2, 1) := by decide +kernel
theorem dX2_hopsFrom_9 : decode cX2_hopsFrom 9 = .ok (.aload_n 0, 1) := by decide +kernel
theorem dX2_hopsFrom_10 : decode cX2_hopsFrom 10 = .ok (.iload_n 1, 1) := by decide +kernel
theorem dX2_hopsFrom_11 : decode cX2_hopsFrom 11 = .ok (.invokevirtual 122, 3) := by decide +kernel
theorem dX2_hopsFrom_14 : decode cX2_hopsFrom 14 = .ok (.istore_n 3, 1) := by decide +kernel
theorem dX2_hopsFrom_15 : decode cX2_hopsFrom 15 = .ok (.aload_n 0, 1) := by decide +kernel
theorem dX2_hopsFrom_16 : decode cX2_hopsFrom 16 = .ok (.iload_n 1, 1) := by decide +kernel
theorem dX2_hopsFrom_17 : decode cX2_hopsFrom 17 = .ok (.invokevirtual 110, 3) := by decide +kernel
theorem dX2_hopsFrom_20 : decode cX2_hopsFrom 20 = .ok (.ifCond .ne 18, 3) := by decide +kernel
theorem dX2_hopsFrom_23 : decode cX2_hopsFrom 23 = .ok (.aload_n 0, 1) := by decide +kernel
theorem dX2_hopsFrom_24 : decode cX2_hopsFrom 24 = .ok (.iload_n 1, 1) := by decide +kernel
theorem dX2_hopsFrom_25 : decode cX2_hopsFrom 25 = .ok (.invokevirtual 155, 3) := by decide +kernel
theorem dX2_hopsFrom_28 : decode cX2_hopsFrom 28 = .ok (.iconst (-1), 1) := by decide +kernel
theorem dX2_hopsFrom_29 : decode cX2_hopsFrom 29 = .ok (.if_icmp .ne 7, 3) := by decide +kernel
theorem dX2_hopsFrom_32 : decode cX2_hopsFrom 32 = .ok (.iconst (-1), 1) := by decide +kernel
theorem dX2_hopsFrom_33 : decode cX2_hopsFrom 33 = .ok (.goto 4, 3) := by decide +kernel
theorem dX2_hopsFrom_36 : decode cX2_hopsFrom 36 = .ok (.iconst 0, 1) := by decide +kernel
theorem dX2_hopsFrom_37 : decode cX2_hopsFrom 37 = .ok (.ireturn, 1) := by decide +kernel
theorem dX2_hopsFrom_38 : decode cX2_hopsFrom 38 = .ok (.iconst 0, 1) := by decide +kernel
theorem dX2_hopsFrom_39 : decode cX2_hopsFrom 39 = .ok (.istore 4, 2) := by decide +kernel
theorem dX2_hopsFrom_41 : decode cX2_hopsFrom 41 = .ok (.iload 4, 2) := by decide +kernel
theorem dX2_hopsFrom_43 : decode cX2_hopsFrom 43 = .ok (.bipush 12, 2) := by decide +kernel
theorem dX2_hopsFrom_45 : decode cX2_hopsFrom 45 = .ok (.if_icmp .gt 47, 3) := by decide +kernel
theorem dX2_hopsFrom_48 : decode cX2_hopsFrom 48 = .ok (.aload_n 0, 1) := by decide +kernel
theorem dX2_hopsFrom_49 : decode cX2_hopsFrom 49 = .ok (.iload_n 3, 1) := by decide +kernel
theorem dX2_hopsFrom_50 : decode cX2_hopsFrom 50 = .ok (.iload_n 2, 1) := by decide +kernel
theorem dX2_hopsFrom_51 : decode cX2_hopsFrom 51 = .ok (.invokevirtual 145, 3) := by decide +kernel
theorem dX2_hopsFrom_54 : decode cX2_hopsFrom 54 = .ok (.ifCond .eq 6, 3) := by decide +kernel
theorem dX2_hopsFrom_57 : decode cX2_hopsFrom 57 = .ok (.iload 4, 2) := by decide +kernel
theorem dX2_hopsFrom_59 : decode cX2_hopsFrom 59 = .ok (.ireturn, 1) := by decide +kernel
theorem dX2_hopsFrom_60 : decode cX2_hopsFrom 60 = .ok (.aload_n 0, 1) := by decide +kernel
theorem dX2_hopsFrom_61 : decode cX2_hopsFrom 61 = .ok (.iload_n 3, 1) := by decide +kernel
theorem dX2_hopsFrom_62 : decode cX2_hopsFrom 62 = .ok (.iload_n 2, 1) := by decide +kernel
theorem dX2_hopsFrom_63 : decode cX2_hopsFrom 63 = .ok (.invokevirtual 149, 3) := by decide +kernel
theorem dX2_hopsFrom_66 : decode cX2_hopsFrom 66 = .ok (.istore 5, 2) := by decide +kernel
theorem dX2_hopsFrom_68 : decode cX2_hopsFrom 68 = .ok (.iload 5, 2) := by decide +kernel
theorem dX2_hopsFrom_70 : decode cX2_hopsFrom 70 = .ok (.iconst (-1), 1) := by decide +kernel
theorem dX2_hopsFrom_71 : decode cX2_hopsFrom 71 = .ok (.if_icmp .ne 5, 3) := by decide +kernel
theorem dX2_hopsFrom_74 : decode cX2_hopsFrom 74 = .ok (.iconst (-1), 1) := by decide +kernel
theorem dX2_hopsFrom_75 : decode cX2_hopsFrom 75 = .ok (.ireturn, 1) := by decide +kernel
theorem dX2_hopsFrom_76 : decode cX2_hopsFrom 76 = .ok (.aload_n 0, 1) := by decide +kernel
theorem dX2_hopsFrom_77 : decode cX2_hopsFrom 77 = .ok (.getfield 14, 3) := by decide +kernel
theorem dX2_hopsFrom_80 : decode cX2_hopsFrom 80 = .ok (.iload 5, 2) := by decide +kernel
theorem dX2_hopsFrom_82 : decode cX2_hopsFrom 82 = .ok (.invokevirtual 128, 3) := by decide +kernel
theorem dX2_hopsFrom_85 : decode cX2_hopsFrom 85 = .ok (.istore_n 3, 1) := by decide +kernel
theorem dX2_hopsFrom_86 : decode cX2_hopsFrom 86 = .ok (.iinc 4 1, 3) := by decide +kernel
theorem dX2_hopsFrom_89 : decode cX2_hopsFrom 89 = .ok (.goto (-48), 3) := by decide +kernel
theorem dX2_hopsFrom_92 : decode cX2_hopsFrom 92 = .ok (.iconst (-1), 1) := by decide +kernel
theorem dX2_hopsFrom_93 : decode cX2_hopsFrom 93 = .ok (.ireturn, 1) := by decide +kernel
set_option maxRecDepth 20000 in
theorem ggX2_mendsOne_X2_firstAstray : GoodIn wsX2_mendsOne wsX2_firstAstray := goodIn_r _ [7, 1, 8, 9, 10, 11, 12, 13, 14, 15, 16, 17, 18, 19, 20, 21, 22, 23, 24, 25, 26, 6, 27, 28, 29, 30, 31, 32, 33, 125, 126, 127, 128, 129, 130, 131, 132, 133, 134, 135, 136, 137, 138, 139, 140, 141, 142, 143, 144] (by decide +kernel) (by decide +kernel)
set_option maxRecDepth 20000 in
theorem gX2_mendsOne_X2_firstAstray : GoodIn wsX2_mendsOne (wsV RX2 158 RX2 yX2_firstAstray wsX2_firstAstray) := goodIn_app (goodIn_of _ (by decide +kernel)) ggX2_mendsOne_X2_firstAstray
set_option maxRecDepth 20000 in
theorem ggX2_mendsOne_X2_lengthens : GoodIn wsX2_mendsOne wsX2_lengthens := goodIn_r _ [37, 28, 38, 125, 126, 127, 128, 129, 130, 131, 132, 133, 134, 135, 136, 137, 138, 139, 140] (by decide +kernel) (by decide +kernel)
set_option maxRecDepth 20000 in
theorem gX2_mendsOne_X2_lengthens : GoodIn wsX2_mendsOne (wsV RX2 162 RX2 yX2_lengthens wsX2_lengthens) := goodIn_app (goodIn_of _ (by decide +kernel)) ggX2_mendsOne_X2_lengthens
set_option maxRecDepth 20000 in
theorem ggX2_mendsOne_X2_bringsConstant : GoodIn wsX2_mendsOne wsX2_bringsConstant := goodIn_r _ [42, 1, 43, 44, 45, 46, 6, 47, 48, 8, 9, 10, 11, 12, 13, 14, 15, 16, 17, 18, 19, 20, 21, 22, 23, 49, 50, 51, 52, 53, 54, 55, 56, 57, 58, 59, 60, 61, 62, 63, 64, 65, 66, 67, 68, 69, 70, 71, 72, 73, 74, 75, 76, 77, 78, 79, 80, 81, 82, 125, 126, 127, 128, 129, 130, 131, 132, 133, 134, 135, 136, 137, 138, 139, 140, 141, 142, 143, 144, 145, 146, 147, 148, 149, 150] (by decide +kernel) (by decide +kernel)
set_option maxRecDepth 20000 in
theorem gX2_mendsOne_X2_bringsConstant : GoodIn wsX2_mendsOne (wsV RX2 165 RX2 yX2_bringsConstant wsX2_bringsConstant) := goodIn_app (goodIn_of _ (by decide +kernel)) ggX2_mendsOne_X2_bringsConstant
set_option maxRecDepth 20000 in
theorem ggX2_mendsOne_X2_fails : GoodIn wsX2_mendsOne wsX2_fails := goodIn_r _ [86, 87, 88, 125, 126, 127, 128, 129, 130, 131, 132, 133, 134, 135, 136, 137, 138, 139, 140] (by decide +kernel) (by decide +kernel)
set_option maxRecDepth 20000 in
theorem gX2_mendsOne_X2_fails : GoodIn wsX2_mendsOne (wsV RX2 168 RX2 yX2_fails wsX2_fails) := goodIn_app (goodIn_of _ (by decide +kernel)) ggX2_mendsOne_X2_fails
set_option maxRecDepth 20000 in
theorem ggX2_mendsOne_X2_addressOf : GoodIn wsX2_mendsOne wsX2_addressOf := goodIn_r _ [47, 48, 125, 126, 127, 128, 129, 130, 131, 132, 133, 134, 135, 136, 137, 138, 139, 140] (by decide +kernel) (by decide +kernel)
set_option maxRecDepth 20000 in
theorem gX2_mendsOne_X2_addressOf : GoodIn wsX2_mendsOne (wsV RX2 122 RX2 yX2_addressOf wsX2_addressOf) := goodIn_app (goodIn_of _ (by decide +kernel)) ggX2_mendsOne_X2_addressOf
set_option maxRecDepth 20000 in
theorem ggX2_mendsOne_X0_toldOf : GoodIn wsX2_mendsOne wsX0_toldOf := goodIn_r _ [74, 23, 19, 20, 21, 11, 22, 13, 18, 141, 142, 143, 144] (by decide +kernel) (by decide +kernel)
set_option maxRecDepth 20000 in
theorem gX2_mendsOne_X0_toldOf : GoodIn wsX2_mendsOne (wsV RX2 100 RX0 yX0_toldOf wsX0_toldOf) := goodIn_app (goodIn_of _ (by decide +kernel)) ggX2_mendsOne_X0_toldOf
set_option maxRecDepth 20000 in
theorem ggX2_mendsOne_X2_bringsIsland : GoodIn wsX2_mendsOne wsX2_bringsIsland := goodIn_r _ [92, 1, 2, 70, 93, 94, 95, 6, 96, 97, 98, 64, 99, 8, 9, 10, 11, 12, 13, 53, 54, 55, 56, 57, 58, 59, 60, 61, 62, 14, 15, 16, 17, 18, 19, 20, 21, 22, 23, 75, 76, 77, 78, 79, 80, 81, 82, 125, 126, 127, 128, 129, 130, 131, 132, 133, 134, 135, 136, 137, 138, 139, 140, 141, 142, 143, 144, 145, 146, 147, 148, 149, 150] (by decide +kernel) (by decide +kernel)
set_option maxRecDepth 20000 in
theorem gX2_mendsOne_X2_bringsIsland : GoodIn wsX2_mendsOne (wsV RX2 171 RX2 yX2_bringsIsland wsX2_bringsIsland) := goodIn_app (goodIn_of _ (by decide +kernel)) ggX2_mendsOne_X2_bringsIsland
set_option maxRecDepth 20000 in
theorem ggX2_mendsOne_X2_firstIslandAstray : GoodIn wsX2_mendsOne wsX2_firstIslandAstray := goodIn_r _ [103, 2, 104, 105, 106, 56, 107, 79, 108, 109, 110, 6, 111, 112, 125, 126, 127, 128, 129, 130, 131, 132, 133, 134, 135, 136, 137, 138, 139, 140, 145, 146, 147, 148, 149, 150] (by decide +kernel) (by decide +kernel)
set_option maxRecDepth 20000 in
theorem gX2_mendsOne_X2_firstIslandAstray : GoodIn wsX2_mendsOne (wsV RX2 174 RX2 yX2_firstIslandAstray wsX2_firstIslandAstray) := goodIn_app (goodIn_of _ (by decide +kernel)) ggX2_mendsOne_X2_firstIslandAstray
set_option maxRecDepth 20000 in
theorem ggX2_mendsOne_X4_addressOf : GoodIn wsX2_mendsOne wsX4_addressOf := goodIn_r _ [116, 81, 58, 82, 117, 118, 119, 56, 120, 79, 80, 60, 61, 62, 145, 146, 147, 148, 149, 150] (by decide +kernel) (by decide +kernel)
set_option maxRecDepth 20000 in
theorem gX2_mendsOne_X4_addressOf : GoodIn wsX2_mendsOne (wsV RX2 128 RX4 yX4_addressOf wsX4_addressOf) := goodIn_app (goodIn_of _ (by decide +kernel)) ggX2_mendsOne_X4_addressOf
set_option maxRecDepth 20000 in
theorem ggX2_mendsOne_X4_nameOf : GoodIn wsX2_mendsOne wsX4_nameOf := goodIn_r _ [124, 80, 117, 118, 119, 56, 120, 79, 145, 146, 147, 148, 149, 150] (by decide +kernel) (by decide +kernel)
set_option maxRecDepth 20000 in
theorem gX2_mendsOne_X4_nameOf : GoodIn wsX2_mendsOne (wsV RX2 136 RX4 yX4_nameOf wsX4_nameOf) := goodIn_app (goodIn_of _ (by decide +kernel)) ggX2_mendsOne_X4_nameOf
theorem dX2_mendsOne_0 : decode cX2_mendsOne 0 = .ok (.aload_n 0, 1) := by decide +kernel
theorem dX2_mendsOne_1 : decode cX2_mendsOne 1 = .ok (.iconst 2, 1) := by decide +kernel
theorem dX2_mendsOne_2 : decode cX2_mendsOne 2 = .ok (.iconst 0, 1) := by decide +kernel
theorem dX2_mendsOne_3 : decode cX2_mendsOne 3 = .ok (.invokevirtual 158, 3) := by decide +kernel
theorem dX2_mendsOne_6 : decode cX2_mendsOne 6 = .ok (.istore_n 1, 1) := by decide +kernel
theorem dX2_mendsOne_7 : decode cX2_mendsOne 7 = .ok (.iload_n 1, 1) := by decide +kernel
theorem dX2_mendsOne_8 : decode cX2_mendsOne 8 = .ok (.iconst (-1), 1) := by decide +kernel
theorem dX2_mendsOne_9 : decode cX2_mendsOne 9 = .ok (.if_icmp .eq 9, 3) := by decide +kernel
theorem dX2_mendsOne_12 : decode cX2_mendsOne 12 = .ok (.aload_n 0, 1) := by decide +kernel
theorem dX2_mendsOne_13 : decode cX2_mendsOne 13 = .ok (.iload_n 1, 1) := by decide +kernel
theorem dX2_mendsOne_14 : decode cX2_mendsOne 14 = .ok (.invokevirtual 162, 3) := by decide +kernel
theorem dX2_mendsOne_17 : decode cX2_mendsOne 17 = .ok (.ireturn, 1) := by decide +kernel
theorem dX2_mendsOne_18 : decode cX2_mendsOne 18 = .ok (.aload_n 0, 1) := by decide +kernel
theorem dX2_mendsOne_19 : decode cX2_mendsOne 19 = .ok (.iconst 1, 1) := by decide +kernel
theorem dX2_mendsOne_20 : decode cX2_mendsOne 20 = .ok (.iconst 0, 1) := by decide +kernel
theorem dX2_mendsOne_21 : decode cX2_mendsOne 21 = .ok (.invokevirtual 158, 3) := by decide +kernel
theorem dX2_mendsOne_24 : decode cX2_mendsOne 24 = .ok (.istore_n 1, 1) := by decide +kernel
theorem dX2_mendsOne_25 : decode cX2_mendsOne 25 = .ok (.iload_n 1, 1) := by decide +kernel
theorem dX2_mendsOne_26 : decode cX2_mendsOne 26 = .ok (.iconst (-1), 1) := by decide +kernel
theorem dX2_mendsOne_27 : decode cX2_mendsOne 27 = .ok (.if_icmp .eq 26, 3) := by decide +kernel
theorem dX2_mendsOne_30 : decode cX2_mendsOne 30 = .ok (.aload_n 0, 1) := by decide +kernel
theorem dX2_mendsOne_31 : decode cX2_mendsOne 31 = .ok (.iload_n 1, 1) := by decide +kernel
theorem dX2_mendsOne_32 : decode cX2_mendsOne 32 = .ok (.invokevirtual 165, 3) := by decide +kernel
theorem dX2_mendsOne_35 : decode cX2_mendsOne 35 = .ok (.ifCond .ne 12, 3) := by decide +kernel
theorem dX2_mendsOne_38 : decode cX2_mendsOne 38 = .ok (.aload_n 0, 1) := by decide +kernel
theorem dX2_mendsOne_39 : decode cX2_mendsOne 39 = .ok (.iconst 1, 1) := by decide +kernel
theorem dX2_mendsOne_40 : decode cX2_mendsOne 40 = .ok (.iload_n 1, 1) := by decide +kernel
theorem dX2_mendsOne_41 : decode cX2_mendsOne 41 = .ok (.invokevirtual 168, 3) := by decide +kernel
theorem dX2_mendsOne_44 : decode cX2_mendsOne 44 = .ok (.ifCond .eq 7, 3) := by decide +kernel
theorem dX2_mendsOne_47 : decode cX2_mendsOne 47 = .ok (.iconst 1, 1) := by decide +kernel
theorem dX2_mendsOne_48 : decode cX2_mendsOne 48 = .ok (.goto 4, 3) := by decide +kernel
theorem dX2_mendsOne_51 : decode cX2_mendsOne 51 = .ok (.iconst 0, 1) := by decide +kernel
theorem dX2_mendsOne_52 : decode cX2_mendsOne 52 = .ok (.ireturn, 1) := by decide +kernel
theorem dX2_mendsOne_53 : decode cX2_mendsOne 53 = .ok (.aload_n 0, 1) := by decide +kernel
theorem dX2_mendsOne_54 : decode cX2_mendsOne 54 = .ok (.iconst 2, 1) := by decide +kernel
theorem dX2_mendsOne_55 : decode cX2_mendsOne 55 = .ok (.iconst 1, 1) := by decide +kernel
theorem dX2_mendsOne_56 : decode cX2_mendsOne 56 = .ok (.invokevirtual 158, 3) := by decide +kernel
theorem dX2_mendsOne_59 : decode cX2_mendsOne 59 = .ok (.istore_n 1, 1) := by decide +kernel
theorem dX2_mendsOne_60 : decode cX2_mendsOne 60 = .ok (.iload_n 1, 1) := by decide +kernel
theorem dX2_mendsOne_61 : decode cX2_mendsOne 61 = .ok (.iconst (-1), 1) := by decide +kernel
theorem dX2_mendsOne_62 : decode cX2_mendsOne 62 = .ok (.if_icmp .eq 38, 3) := by decide +kernel
theorem dX2_mendsOne_65 : decode cX2_mendsOne 65 = .ok (.aload_n 0, 1) := by decide +kernel
theorem dX2_mendsOne_66 : decode cX2_mendsOne 66 = .ok (.aload_n 0, 1) := by decide +kernel
theorem dX2_mendsOne_67 : decode cX2_mendsOne 67 = .ok (.iload_n 1, 1) := by decide +kernel
theorem dX2_mendsOne_68 : decode cX2_mendsOne 68 = .ok (.invokevirtual 122, 3) := by decide +kernel
theorem dX2_mendsOne_71 : decode cX2_mendsOne 71 = .ok (.aload_n 0, 1) := by decide +kernel
theorem dX2_mendsOne_72 : decode cX2_mendsOne 72 = .ok (.getfield 50, 3) := by decide +kernel
theorem dX2_mendsOne_75 : decode cX2_mendsOne 75 = .ok (.iload_n 1, 1) := by decide +kernel
theorem dX2_mendsOne_76 : decode cX2_mendsOne 76 = .ok (.invokevirtual 100, 3) := by decide +kernel
theorem dX2_mendsOne_79 : decode cX2_mendsOne 79 = .ok (.invokevirtual 171, 3) := by decide +kernel
theorem dX2_mendsOne_82 : decode cX2_mendsOne 82 = .ok (.ifCond .ne 12, 3) := by decide +kernel
theorem dX2_mendsOne_85 : decode cX2_mendsOne 85 = .ok (.aload_n 0, 1) := by decide +kernel
theorem dX2_mendsOne_86 : decode cX2_mendsOne 86 = .ok (.iconst 2, 1) := by decide +kernel
theorem dX2_mendsOne_87 : decode cX2_mendsOne 87 = .ok (.iload_n 1, 1) := by decide +kernel
theorem dX2_mendsOne_88 : decode cX2_mendsOne 88 = .ok (.invokevirtual 168, 3) := by decide +kernel
theorem dX2_mendsOne_91 : decode cX2_mendsOne 91 = .ok (.ifCond .eq 7, 3) := by decide +kernel
theorem dX2_mendsOne_94 : decode cX2_mendsOne 94 = .ok (.iconst 1, 1) := by decide +kernel
theorem dX2_mendsOne_95 : decode cX2_mendsOne 95 = .ok (.goto 4, 3) := by decide +kernel
theorem dX2_mendsOne_98 : decode cX2_mendsOne 98 = .ok (.iconst 0, 1) := by decide +kernel
theorem dX2_mendsOne_99 : decode cX2_mendsOne 99 = .ok (.ireturn, 1) := by decide +kernel
theorem dX2_mendsOne_100 : decode cX2_mendsOne 100 = .ok (.aload_n 0, 1) := by decide +kernel
theorem dX2_mendsOne_101 : decode cX2_mendsOne 101 = .ok (.invokevirtual 174, 3) := by decide +kernel
theorem dX2_mendsOne_104 : decode cX2_mendsOne 104 = .ok (.istore_n 1, 1) := by decide +kernel
theorem dX2_mendsOne_105 : decode cX2_mendsOne 105 = .ok (.iload_n 1, 1) := by decide +kernel
theorem dX2_mendsOne_106 : decode cX2_mendsOne 106 = .ok (.iconst (-1), 1) := by decide +kernel
theorem dX2_mendsOne_107 : decode cX2_mendsOne 107 = .ok (.if_icmp .eq 41, 3) := by decide +kernel
theorem dX2_mendsOne_110 : decode cX2_mendsOne 110 = .ok (.aload_n 0, 1) := by decide +kernel
theorem dX2_mendsOne_111 : decode cX2_mendsOne 111 = .ok (.aload_n 0, 1) := by decide +kernel
theorem dX2_mendsOne_112 : decode cX2_mendsOne 112 = .ok (.getfield 14, 3) := by decide +kernel
theorem dX2_mendsOne_115 : decode cX2_mendsOne 115 = .ok (.iload_n 1, 1) := by decide +kernel
theorem dX2_mendsOne_116 : decode cX2_mendsOne 116 = .ok (.invokevirtual 128, 3) := by decide +kernel
theorem dX2_mendsOne_119 : decode cX2_mendsOne 119 = .ok (.aload_n 0, 1) := by decide +kernel
theorem dX2_mendsOne_120 : decode cX2_mendsOne 120 = .ok (.getfield 14, 3) := by decide +kernel
theorem dX2_mendsOne_123 : decode cX2_mendsOne 123 = .ok (.iload_n 1, 1) := by decide +kernel
theorem dX2_mendsOne_124 : decode cX2_mendsOne 124 = .ok (.invokevirtual 136, 3) := by decide +kernel
theorem dX2_mendsOne_127 : decode cX2_mendsOne 127 = .ok (.invokevirtual 171, 3) := by decide +kernel
theorem dX2_mendsOne_130 : decode cX2_mendsOne 130 = .ok (.ifCond .ne 12, 3) := by decide +kernel
theorem dX2_mendsOne_133 : decode cX2_mendsOne 133 = .ok (.aload_n 0, 1) := by decide +kernel
theorem dX2_mendsOne_134 : decode cX2_mendsOne 134 = .ok (.iconst 3, 1) := by decide +kernel
theorem dX2_mendsOne_135 : decode cX2_mendsOne 135 = .ok (.iload_n 1, 1) := by decide +kernel
theorem dX2_mendsOne_136 : decode cX2_mendsOne 136 = .ok (.invokevirtual 168, 3) := by decide +kernel
theorem dX2_mendsOne_139 : decode cX2_mendsOne 139 = .ok (.ifCond .eq 7, 3) := by decide +kernel
theorem dX2_mendsOne_142 : decode cX2_mendsOne 142 = .ok (.iconst 1, 1) := by decide +kernel
theorem dX2_mendsOne_143 : decode cX2_mendsOne 143 = .ok (.goto 4, 3) := by decide +kernel
theorem dX2_mendsOne_146 : decode cX2_mendsOne 146 = .ok (.iconst 0, 1) := by decide +kernel
theorem dX2_mendsOne_147 : decode cX2_mendsOne 147 = .ok (.ireturn, 1) := by decide +kernel
theorem dX2_mendsOne_148 : decode cX2_mendsOne 148 = .ok (.iconst 0, 1) := by decide +kernel
theorem dX2_mendsOne_149 : decode cX2_mendsOne 149 = .ok (.ireturn, 1) := by decide +kernel
set_option maxRecDepth 20000 in
theorem ggX2_firstAstray_X0_size : GoodIn wsX2_firstAstray wsX0_size := goodIn_r _ [6, 7, 45, 46, 47, 48] (by decide +kernel) (by decide +kernel)
set_option maxRecDepth 20000 in
theorem gX2_firstAstray_X0_size : GoodIn wsX2_firstAstray (wsV RX2 60 RX0 yX0_size wsX0_size) := goodIn_app (goodIn_of _ (by decide +kernel)) ggX2_firstAstray_X0_size
set_option maxRecDepth 20000 in
theorem ggX2_firstAstray_X0_kindOf : GoodIn wsX2_firstAstray wsX0_kindOf := goodIn_r _ [11, 12, 13, 14, 15, 5, 16, 7, 17, 45, 46, 47, 48] (by decide +kernel) (by decide +kernel)
set_option maxRecDepth 20000 in
theorem gX2_firstAstray_X0_kindOf : GoodIn wsX2_firstAstray (wsV RX2 92 RX0 yX0_kindOf wsX0_kindOf) := goodIn_app (goodIn_of _ (by decide +kernel)) ggX2_firstAstray_X0_kindOf
set_option maxRecDepth 20000 in
theorem ggX2_firstAstray_X2_isLong : GoodIn wsX2_firstAstray wsX2_isLong := goodIn_r _ [22, 23, 29, 30, 31, 32, 33, 34, 35, 36, 37, 38, 39, 40, 41, 42, 43, 44] (by decide +kernel) (by decide +kernel)
set_option maxRecDepth 20000 in
theorem gX2_firstAstray_X2_isLong : GoodIn wsX2_firstAstray (wsV RX2 110 RX2 yX2_isLong wsX2_isLong) := goodIn_app (goodIn_of _ (by decide +kernel)) ggX2_firstAstray_X2_isLong
set_option maxRecDepth 20000 in
theorem ggX2_firstAstray_X2_aimOf : GoodIn wsX2_firstAstray wsX2_aimOf := goodIn_r _ [27, 28, 29, 30, 31, 32, 33, 34, 35, 36, 37, 38, 39, 40, 41, 42, 43, 44] (by decide +kernel) (by decide +kernel)
set_option maxRecDepth 20000 in
theorem gX2_firstAstray_X2_aimOf : GoodIn wsX2_firstAstray (wsV RX2 155 RX2 yX2_aimOf wsX2_aimOf) := goodIn_app (goodIn_of _ (by decide +kernel)) ggX2_firstAstray_X2_aimOf
theorem dX2_firstAstray_0 : decode cX2_firstAstray 0 = .ok (.iconst 0, 1) := by decide +kernel
theorem dX2_firstAstray_1 : decode cX2_firstAstray 1 = .ok (.istore_n 3, 1) := by decide +kernel
theorem dX2_firstAstray_2 : decode cX2_firstAstray 2 = .ok (.iload_n 3, 1) := by decide +kernel
theorem dX2_firstAstray_3 : decode cX2_firstAstray 3 = .ok (.aload_n 0, 1) := by decide +kernel
theorem dX2_firstAstray_4 : decode cX2_firstAstray 4 = .ok (.getfield 50, 3) := by decide +kernel
theorem dX2_firstAstray_7 : decode cX2_firstAstray 7 = .ok (.invokevirtual 60, 3) := by decide +kernel
theorem dX2_firstAstray_10 : decode cX2_firstAstray 10 = .ok (.if_icmp .ge 41, 3) := by decide +kernel
theorem dX2_firstAstray_13 : decode cX2_firstAstray 13 = .ok (.aload_n 0, 1) := by decide +kernel
theorem dX2_firstAstray_14 : decode cX2_firstAstray 14 = .ok (.getfield 50, 3) := by decide +kernel
theorem dX2_firstAstray_17 : decode cX2_firstAstray 17 = .ok (.iload_n 3, 1) := by decide +kernel
theorem dX2_firstAstray_18 : decode cX2_firstAstray 18 = .ok (.invokevirtual 92, 3) := by decide +kernel
theorem dX2_firstAstray_21 : decode cX2_firstAstray 21 = .ok (.iload_n 1, 1) := by decide +kernel
theorem dX2_firstAstray_22 : decode cX2_firstAstray 22 = .ok (.if_icmp .ne 23, 3) := by decide +kernel
theorem dX2_firstAstray_25 : decode cX2_firstAstray 25 = .ok (.aload_n 0, 1) := by decide +kernel
theorem dX2_firstAstray_26 : decode cX2_firstAstray 26 = .ok (.iload_n 3, 1) := by decide +kernel
theorem dX2_firstAstray_27 : decode cX2_firstAstray 27 = .ok (.invokevirtual 110, 3) := by decide +kernel
theorem dX2_firstAstray_30 : decode cX2_firstAstray 30 = .ok (.iload_n 2, 1) := by decide +kernel
theorem dX2_firstAstray_31 : decode cX2_firstAstray 31 = .ok (.if_icmp .ne 14, 3) := by decide +kernel
theorem dX2_firstAstray_34 : decode cX2_firstAstray 34 = .ok (.aload_n 0, 1) := by decide +kernel
theorem dX2_firstAstray_35 : decode cX2_firstAstray 35 = .ok (.iload_n 3, 1) := by decide +kernel
theorem dX2_firstAstray_36 : decode cX2_firstAstray 36 = .ok (.invokevirtual 155, 3) := by decide +kernel
theorem dX2_firstAstray_39 : decode cX2_firstAstray 39 = .ok (.iconst (-1), 1) := by decide +kernel
theorem dX2_firstAstray_40 : decode cX2_firstAstray 40 = .ok (.if_icmp .ne 5, 3) := by decide +kernel
theorem dX2_firstAstray_43 : decode cX2_firstAstray 43 = .ok (.iload_n 3, 1) := by decide +kernel
theorem dX2_firstAstray_44 : decode cX2_firstAstray 44 = .ok (.ireturn, 1) := by decide +kernel
theorem dX2_firstAstray_45 : decode cX2_firstAstray 45 = .ok (.iinc 3 1, 3) := by decide +kernel
theorem dX2_firstAstray_48 : decode cX2_firstAstray 48 = .ok (.goto (-46), 3) := by decide +kernel
theorem dX2_firstAstray_51 : decode cX2_firstAstray 51 = .ok (.iconst (-1), 1) := by decide +kernel
theorem dX2_firstAstray_52 : decode cX2_firstAstray 52 = .ok (.ireturn, 1) := by decide +kernel
set_option maxRecDepth 20000 in
theorem ggX2_firstIslandAstray_X4_size : GoodIn wsX2_firstIslandAstray wsX4_size := goodIn_r _ [6, 7, 30, 31, 32, 33, 34, 35] (by decide +kernel) (by decide +kernel)
set_option maxRecDepth 20000 in
theorem gX2_firstIslandAstray_X4_size : GoodIn wsX2_firstIslandAstray (wsV RX2 135 RX4 yX4_size wsX4_size) := goodIn_app (goodIn_of _ (by decide +kernel)) ggX2_firstIslandAstray_X4_size
set_option maxRecDepth 20000 in
theorem ggX2_firstIslandAstray_X2_islandAimOf : GoodIn wsX2_firstIslandAstray wsX2_islandAimOf := goodIn_r _ [12, 13, 14, 15, 16, 17, 18, 19, 20, 21, 22, 23, 24, 25, 26, 27, 28, 29] (by decide +kernel) (by decide +kernel)
set_option maxRecDepth 20000 in
theorem gX2_firstIslandAstray_X2_islandAimOf : GoodIn wsX2_firstIslandAstray (wsV RX2 177 RX2 yX2_islandAimOf wsX2_islandAimOf) := goodIn_app (goodIn_of _ (by decide +kernel)) ggX2_firstIslandAstray_X2_islandAimOf
theorem dX2_firstIslandAstray_0 : decode cX2_firstIslandAstray 0 = .ok (.iconst 0, 1) := by decide +kernel
theorem dX2_firstIslandAstray_1 : decode cX2_firstIslandAstray 1 = .ok (.istore_n 1, 1) := by decide +kernel
theorem dX2_firstIslandAstray_2 : decode cX2_firstIslandAstray 2 = .ok (.iload_n 1, 1) := by decide +kernel
theorem dX2_firstIslandAstray_3 : decode cX2_firstIslandAstray 3 = .ok (.aload_n 0, 1) := by decide +kernel
theorem dX2_firstIslandAstray_4 : decode cX2_firstIslandAstray 4 = .ok (.getfield 14, 3) := by decide +kernel
theorem dX2_firstIslandAstray_7 : decode cX2_firstIslandAstray 7 = .ok (.invokevirtual 135, 3) := by decide +kernel
theorem dX2_firstIslandAstray_10 : decode cX2_firstIslandAstray 10 = .ok (.if_icmp .ge 20, 3) := by decide +kernel
theorem dX2_firstIslandAstray_13 : decode cX2_firstIslandAstray 13 = .ok (.aload_n 0, 1) := by decide +kernel
theorem dX2_firstIslandAstray_14 : decode cX2_firstIslandAstray 14 = .ok (.iload_n 1, 1) := by decide +kernel
theorem dX2_firstIslandAstray_15 : decode cX2_firstIslandAstray 15 = .ok (.invokevirtual 177, 3) := by decide +kernel
theorem dX2_firstIslandAstray_18 : decode cX2_firstIslandAstray 18 = .ok (.iconst (-1), 1) := by decide +kernel
theorem dX2_firstIslandAstray_19 : decode cX2_firstIslandAstray 19 = .ok (.if_icmp .ne 5, 3) := by decide +kernel
theorem dX2_firstIslandAstray_22 : decode cX2_firstIslandAstray 22 = .ok (.iload_n 1, 1) := by decide +kernel
theorem dX2_firstIslandAstray_23 : decode cX2_firstIslandAstray 23 = .ok (.ireturn, 1) := by decide +kernel
theorem dX2_firstIslandAstray_24 : decode cX2_firstIslandAstray 24 = .ok (.iinc 1 1, 3) := by decide +kernel
theorem dX2_firstIslandAstray_27 : decode cX2_firstIslandAstray 27 = .ok (.goto (-25), 3) := by decide +kernel
theorem dX2_firstIslandAstray_30 : decode cX2_firstIslandAstray 30 = .ok (.iconst (-1), 1) := by decide +kernel
theorem dX2_firstIslandAstray_31 : decode cX2_firstIslandAstray 31 = .ok (.ireturn, 1) := by decide +kernel
theorem dX2_fails_0 : decode cX2_fails 0 = .ok (.aload_n 0, 1) := by decide +kernel
theorem dX2_fails_1 : decode cX2_fails 1 = .ok (.iload_n 1, 1) := by decide +kernel
theorem dX2_fails_2 : decode cX2_fails 2 = .ok (.putfield 43, 3) := by decide +kernel
theorem dX2_fails_5 : decode cX2_fails 5 = .ok (.aload_n 0, 1) := by decide +kernel
theorem dX2_fails_6 : decode cX2_fails 6 = .ok (.iload_n 2, 1) := by decide +kernel
theorem dX2_fails_7 : decode cX2_fails 7 = .ok (.putfield 47, 3) := by decide +kernel
theorem dX2_fails_10 : decode cX2_fails 10 = .ok (.iconst 0, 1) := by decide +kernel
theorem dX2_fails_11 : decode cX2_fails 11 = .ok (.ireturn, 1) := by decide +kernel
theorem dX2_lengthens_0 : decode cX2_lengthens 0 = .ok (.iload_n 1, 1) := by decide +kernel
theorem dX2_lengthens_1 : decode cX2_lengthens 1 = .ok (.ifCond .lt 12, 3) := by decide +kernel
theorem dX2_lengthens_4 : decode cX2_lengthens 4 = .ok (.iload_n 1, 1) := by decide +kernel
theorem dX2_lengthens_5 : decode cX2_lengthens 5 = .ok (.aload_n 0, 1) := by decide +kernel
theorem dX2_lengthens_6 : decode cX2_lengthens 6 = .ok (.getfield 23, 3) := by decide +kernel
theorem dX2_lengthens_9 : decode cX2_lengthens 9 = .ok (.arraylength, 1) := by decide +kernel
theorem dX2_lengthens_10 : decode cX2_lengthens 10 = .ok (.if_icmp .lt 5, 3) := by decide +kernel
theorem dX2_lengthens_13 : decode cX2_lengthens 13 = .ok (.iconst 0, 1) := by decide +kernel
theorem dX2_lengthens_14 : decode cX2_lengthens 14 = .ok (.ireturn, 1) := by decide +kernel
theorem dX2_lengthens_15 : decode cX2_lengthens 15 = .ok (.aload_n 0, 1) := by decide +kernel
theorem dX2_lengthens_16 : decode cX2_lengthens 16 = .ok (.getfield 23, 3) := by decide +kernel
theorem dX2_lengthens_19 : decode cX2_lengthens 19 = .ok (.iload_n 1, 1) := by decide +kernel
theorem dX2_lengthens_20 : decode cX2_lengthens 20 = .ok (.iconst 1, 1) := by decide +kernel
theorem dX2_lengthens_21 : decode cX2_lengthens 21 = .ok (.bastore, 1) := by decide +kernel
theorem dX2_lengthens_22 : decode cX2_lengthens 22 = .ok (.aload_n 0, 1) := by decide +kernel
theorem dX2_lengthens_23 : decode cX2_lengthens 23 = .ok (.dup, 1) := by decide +kernel
theorem dX2_lengthens_24 : decode cX2_lengthens 24 = .ok (.getfield 83, 3) := by decide +kernel
theorem dX2_lengthens_27 : decode cX2_lengthens 27 = .ok (.iconst 1, 1) := by decide +kernel
theorem dX2_lengthens_28 : decode cX2_lengthens 28 = .ok (.iadd, 1) := by decide +kernel
theorem dX2_lengthens_29 : decode cX2_lengthens 29 = .ok (.putfield 83, 3) := by decide +kernel
theorem dX2_lengthens_32 : decode cX2_lengthens 32 = .ok (.iconst 1, 1) := by decide +kernel
theorem dX2_lengthens_33 : decode cX2_lengthens 33 = .ok (.ireturn, 1) := by decide +kernel
set_option maxRecDepth 20000 in
theorem ggX2_bringsConstant_X2_addressOf : GoodIn wsX2_bringsConstant wsX2_addressOf := goodIn_r _ [7, 8, 59, 60, 61, 62, 63, 64, 65, 66, 67, 68, 69, 70, 71, 72, 73, 74] (by decide +kernel) (by decide +kernel)
set_option maxRecDepth 20000 in
theorem gX2_bringsConstant_X2_addressOf : GoodIn wsX2_bringsConstant (wsV RX2 122 RX2 yX2_addressOf wsX2_addressOf) := goodIn_app (goodIn_of _ (by decide +kernel)) ggX2_bringsConstant_X2_addressOf
set_option maxRecDepth 20000 in
theorem ggX2_bringsConstant_X0_size : GoodIn wsX2_bringsConstant wsX0_size := goodIn_r _ [13, 14, 75, 76, 77, 78] (by decide +kernel) (by decide +kernel)
set_option maxRecDepth 20000 in
theorem gX2_bringsConstant_X0_size : GoodIn wsX2_bringsConstant (wsV RX2 60 RX0 yX0_size wsX0_size) := goodIn_app (goodIn_of _ (by decide +kernel)) ggX2_bringsConstant_X0_size
set_option maxRecDepth 20000 in
theorem ggX2_bringsConstant_X0_kindOf : GoodIn wsX2_bringsConstant wsX0_kindOf := goodIn_r _ [18, 19, 20, 21, 22, 12, 23, 14, 24, 75, 76, 77, 78] (by decide +kernel) (by decide +kernel)
set_option maxRecDepth 20000 in
theorem gX2_bringsConstant_X0_kindOf : GoodIn wsX2_bringsConstant (wsV RX2 92 RX0 yX0_kindOf wsX0_kindOf) := goodIn_app (goodIn_of _ (by decide +kernel)) ggX2_bringsConstant_X0_kindOf
set_option maxRecDepth 20000 in
theorem ggX2_bringsConstant_X2_nextConstantIn : GoodIn wsX2_bringsConstant wsX2_nextConstantIn := goodIn_r _ [28, 2, 29, 30, 31, 32, 33, 34, 35, 36, 37, 38, 39, 40, 41, 59, 60, 61, 62, 63, 64, 65, 66, 67, 68, 69, 70, 71, 72, 73, 74, 79, 80, 81, 82, 83, 84] (by decide +kernel) (by decide +kernel)
set_option maxRecDepth 20000 in
theorem gX2_bringsConstant_X2_nextConstantIn : GoodIn wsX2_bringsConstant (wsV RX2 180 RX2 yX2_nextConstantIn wsX2_nextConstantIn) := goodIn_app (goodIn_of _ (by decide +kernel)) ggX2_bringsConstant_X2_nextConstantIn
set_option maxRecDepth 20000 in
theorem ggX2_bringsConstant_X2_isInLoadReach : GoodIn wsX2_bringsConstant wsX2_isInLoadReach := goodIn_r _ [45, 46, 59, 60, 61, 62, 63, 64, 65, 66, 67, 68, 69, 70, 71, 72, 73, 74] (by decide +kernel) (by decide +kernel)
set_option maxRecDepth 20000 in
theorem gX2_bringsConstant_X2_isInLoadReach : GoodIn wsX2_bringsConstant (wsV RX2 152 RX2 yX2_isInLoadReach wsX2_isInLoadReach) := goodIn_app (goodIn_of _ (by decide +kernel)) ggX2_bringsConstant_X2_isInLoadReach
set_option maxRecDepth 20000 in
theorem ggX2_bringsConstant_X0_toldOf : GoodIn wsX2_bringsConstant wsX0_toldOf := goodIn_r _ [50, 24, 20, 21, 22, 12, 23, 14, 19, 75, 76, 77, 78] (by decide +kernel) (by decide +kernel)
set_option maxRecDepth 20000 in
theorem gX2_bringsConstant_X0_toldOf : GoodIn wsX2_bringsConstant (wsV RX2 100 RX0 yX0_toldOf wsX0_toldOf) := goodIn_app (goodIn_of _ (by decide +kernel)) ggX2_bringsConstant_X0_toldOf
set_option maxRecDepth 20000 in
theorem ggX2_bringsConstant_X4_add : GoodIn wsX2_bringsConstant wsX4_add := goodIn_r _ [54, 55, 56, 57, 58, 35, 36, 37, 32, 38, 79, 80, 81, 82, 83, 84] (by decide +kernel) (by decide +kernel)
set_option maxRecDepth 20000 in
theorem gX2_bringsConstant_X4_add : GoodIn wsX2_bringsConstant (wsV RX2 183 RX4 yX4_add wsX4_add) := goodIn_app (goodIn_of _ (by decide +kernel)) ggX2_bringsConstant_X4_add
theorem dX2_bringsConstant_0 : decode cX2_bringsConstant 0 = .ok (.aload_n 0, 1) := by decide +kernel
end
section
theorem dX2_bringsConstant_1 : decode cX2_bringsConstant 1 = .ok (.iload_n 1, 1) := by decide +kernel
theorem dX2_bringsConstant_2 : decode cX2_bringsConstant 2 = .ok (.invokevirtual 122, 3) := by decide +kernel
theorem dX2_bringsConstant_5 : decode cX2_bringsConstant 5 = .ok (.istore_n 2, 1) := by decide +kernel
theorem dX2_bringsConstant_6 : decode cX2_bringsConstant 6 = .ok (.iconst (-1), 1) := by decide +kernel
theorem dX2_bringsConstant_7 : decode cX2_bringsConstant 7 = .ok (.istore_n 3, 1) := by decide +kernel
theorem dX2_bringsConstant_8 : decode cX2_bringsConstant 8 = .ok (.iload_n 1, 1) := by decide +kernel
theorem dX2_bringsConstant_9 : decode cX2_bringsConstant 9 = .ok (.iconst 1, 1) := by decide +kernel
theorem dX2_bringsConstant_10 : decode cX2_bringsConstant 10 = .ok (.iadd, 1) := by decide +kernel
theorem dX2_bringsConstant_11 : decode cX2_bringsConstant 11 = .ok (.istore 4, 2) := by decide +kernel
theorem dX2_bringsConstant_13 : decode cX2_bringsConstant 13 = .ok (.iload 4, 2) := by decide +kernel
theorem dX2_bringsConstant_15 : decode cX2_bringsConstant 15 = .ok (.aload_n 0, 1) := by decide +kernel
theorem dX2_bringsConstant_16 : decode cX2_bringsConstant 16 = .ok (.getfield 50, 3) := by decide +kernel
theorem dX2_bringsConstant_19 : decode cX2_bringsConstant 19 = .ok (.invokevirtual 60, 3) := by decide +kernel
theorem dX2_bringsConstant_22 : decode cX2_bringsConstant 22 = .ok (.if_icmp .ge 39, 3) := by decide +kernel
theorem dX2_bringsConstant_25 : decode cX2_bringsConstant 25 = .ok (.aload_n 0, 1) := by decide +kernel
theorem dX2_bringsConstant_26 : decode cX2_bringsConstant 26 = .ok (.getfield 50, 3) := by decide +kernel
theorem dX2_bringsConstant_29 : decode cX2_bringsConstant 29 = .ok (.iload 4, 2) := by decide +kernel
theorem dX2_bringsConstant_31 : decode cX2_bringsConstant 31 = .ok (.invokevirtual 92, 3) := by decide +kernel
theorem dX2_bringsConstant_34 : decode cX2_bringsConstant 34 = .ok (.iconst 5, 1) := by decide +kernel
theorem dX2_bringsConstant_35 : decode cX2_bringsConstant 35 = .ok (.if_icmp .ne 20, 3) := by decide +kernel
theorem dX2_bringsConstant_38 : decode cX2_bringsConstant 38 = .ok (.aload_n 0, 1) := by decide +kernel
theorem dX2_bringsConstant_39 : decode cX2_bringsConstant 39 = .ok (.iload_n 2, 1) := by decide +kernel
theorem dX2_bringsConstant_40 : decode cX2_bringsConstant 40 = .ok (.aload_n 0, 1) := by decide +kernel
theorem dX2_bringsConstant_41 : decode cX2_bringsConstant 41 = .ok (.iload 4, 2) := by decide +kernel
theorem dX2_bringsConstant_43 : decode cX2_bringsConstant 43 = .ok (.invokevirtual 180, 3) := by decide +kernel
theorem dX2_bringsConstant_46 : decode cX2_bringsConstant 46 = .ok (.invokevirtual 152, 3) := by decide +kernel
theorem dX2_bringsConstant_49 : decode cX2_bringsConstant 49 = .ok (.ifCond .eq 6, 3) := by decide +kernel
theorem dX2_bringsConstant_52 : decode cX2_bringsConstant 52 = .ok (.iload 4, 2) := by decide +kernel
theorem dX2_bringsConstant_54 : decode cX2_bringsConstant 54 = .ok (.istore_n 3, 1) := by decide +kernel
theorem dX2_bringsConstant_55 : decode cX2_bringsConstant 55 = .ok (.iinc 4 1, 3) := by decide +kernel
theorem dX2_bringsConstant_58 : decode cX2_bringsConstant 58 = .ok (.goto (-45), 3) := by decide +kernel
theorem dX2_bringsConstant_61 : decode cX2_bringsConstant 61 = .ok (.iload_n 3, 1) := by decide +kernel
theorem dX2_bringsConstant_62 : decode cX2_bringsConstant 62 = .ok (.iconst (-1), 1) := by decide +kernel
theorem dX2_bringsConstant_63 : decode cX2_bringsConstant 63 = .ok (.if_icmp .eq 26, 3) := by decide +kernel
theorem dX2_bringsConstant_66 : decode cX2_bringsConstant 66 = .ok (.aload_n 0, 1) := by decide +kernel
theorem dX2_bringsConstant_67 : decode cX2_bringsConstant 67 = .ok (.getfield 20, 3) := by decide +kernel
theorem dX2_bringsConstant_70 : decode cX2_bringsConstant 70 = .ok (.aload_n 0, 1) := by decide +kernel
theorem dX2_bringsConstant_71 : decode cX2_bringsConstant 71 = .ok (.getfield 50, 3) := by decide +kernel
theorem dX2_bringsConstant_74 : decode cX2_bringsConstant 74 = .ok (.iload_n 1, 1) := by decide +kernel
theorem dX2_bringsConstant_75 : decode cX2_bringsConstant 75 = .ok (.invokevirtual 100, 3) := by decide +kernel
theorem dX2_bringsConstant_78 : decode cX2_bringsConstant 78 = .ok (.iload_n 3, 1) := by decide +kernel
theorem dX2_bringsConstant_79 : decode cX2_bringsConstant 79 = .ok (.invokevirtual 183, 3) := by decide +kernel
theorem dX2_bringsConstant_82 : decode cX2_bringsConstant 82 = .ok (.ifCond .eq 7, 3) := by decide +kernel
theorem dX2_bringsConstant_85 : decode cX2_bringsConstant 85 = .ok (.iconst 1, 1) := by decide +kernel
theorem dX2_bringsConstant_86 : decode cX2_bringsConstant 86 = .ok (.goto 4, 3) := by decide +kernel
theorem dX2_bringsConstant_89 : decode cX2_bringsConstant 89 = .ok (.iconst 0, 1) := by decide +kernel
theorem dX2_bringsConstant_90 : decode cX2_bringsConstant 90 = .ok (.ireturn, 1) := by decide +kernel
set_option maxRecDepth 20000 in
theorem ggX2_nextConstantIn_X4_endOf : GoodIn wsX2_nextConstantIn wsX4_endOf := goodIn_r _ [6, 7, 8, 9, 10, 5, 11, 31, 32, 33, 34, 35, 36] (by decide +kernel) (by decide +kernel)
set_option maxRecDepth 20000 in
theorem gX2_nextConstantIn_X4_endOf : GoodIn wsX2_nextConstantIn (wsV RX2 186 RX4 yX4_endOf wsX4_endOf) := goodIn_app (goodIn_of _ (by decide +kernel)) ggX2_nextConstantIn_X4_endOf
set_option maxRecDepth 20000 in
theorem ggX2_nextConstantIn_X5_fillTo : GoodIn wsX2_nextConstantIn wsX5_fillTo := goodIn_r _ [14] (by decide +kernel) (by decide +kernel)
set_option maxRecDepth 20000 in
theorem gX2_nextConstantIn_X5_fillTo_n114 : GoodIn wsX2_nextConstantIn (wsX5_fillTo) := ggX2_nextConstantIn_X5_fillTo
theorem dX2_nextConstantIn_0 : decode cX2_nextConstantIn 0 = .ok (.aload_n 0, 1) := by decide +kernel
theorem dX2_nextConstantIn_1 : decode cX2_nextConstantIn 1 = .ok (.getfield 20, 3) := by decide +kernel
theorem dX2_nextConstantIn_4 : decode cX2_nextConstantIn 4 = .ok (.iload_n 1, 1) := by decide +kernel
theorem dX2_nextConstantIn_5 : decode cX2_nextConstantIn 5 = .ok (.invokevirtual 186, 3) := by decide +kernel
theorem dX2_nextConstantIn_8 : decode cX2_nextConstantIn 8 = .ok (.istore_n 2, 1) := by decide +kernel
theorem dX2_nextConstantIn_9 : decode cX2_nextConstantIn 9 = .ok (.iload_n 2, 1) := by decide +kernel
theorem dX2_nextConstantIn_10 : decode cX2_nextConstantIn 10 = .ok (.iconst 4, 1) := by decide +kernel
theorem dX2_nextConstantIn_11 : decode cX2_nextConstantIn 11 = .ok (.iload_n 2, 1) := by decide +kernel
theorem dX2_nextConstantIn_12 : decode cX2_nextConstantIn 12 = .ok (.invokestatic 114, 3) := by decide +kernel
theorem dX2_nextConstantIn_15 : decode cX2_nextConstantIn 15 = .ok (.iadd, 1) := by decide +kernel
theorem dX2_nextConstantIn_16 : decode cX2_nextConstantIn 16 = .ok (.ireturn, 1) := by decide +kernel
set_option maxRecDepth 20000 in
theorem ggX2_bringsIsland_X2_labelAddress : GoodIn wsX2_bringsIsland wsX2_labelAddress := goodIn_r _ [8, 9, 47, 48, 49, 50, 51, 52, 53, 54, 55, 56, 57, 58, 59, 60, 61, 62] (by decide +kernel) (by decide +kernel)
set_option maxRecDepth 20000 in
theorem gX2_bringsIsland_X2_labelAddress : GoodIn wsX2_bringsIsland (wsV RX2 139 RX2 yX2_labelAddress wsX2_labelAddress) := goodIn_app (goodIn_of _ (by decide +kernel)) ggX2_bringsIsland_X2_labelAddress
set_option maxRecDepth 20000 in
theorem ggX2_bringsIsland_X5_far : GoodIn wsX2_bringsIsland wsX5_far := goodIn_r _ [12] (by decide +kernel) (by decide +kernel)
set_option maxRecDepth 20000 in
theorem gX2_bringsIsland_X5_far_n142 : GoodIn wsX2_bringsIsland (wsX5_far) := ggX2_bringsIsland_X5_far
set_option maxRecDepth 20000 in
theorem ggX2_bringsIsland_X0_size : GoodIn wsX2_bringsIsland wsX0_size := goodIn_r _ [17, 18, 63, 64, 65, 66] (by decide +kernel) (by decide +kernel)
set_option maxRecDepth 20000 in
theorem gX2_bringsIsland_X0_size : GoodIn wsX2_bringsIsland (wsV RX2 60 RX0 yX0_size wsX0_size) := goodIn_app (goodIn_of _ (by decide +kernel)) ggX2_bringsIsland_X0_size
set_option maxRecDepth 20000 in
theorem ggX2_bringsIsland_X4_endOf : GoodIn wsX2_bringsIsland wsX4_endOf := goodIn_r _ [23, 24, 25, 26, 27, 22, 28, 67, 68, 69, 70, 71, 72] (by decide +kernel) (by decide +kernel)
set_option maxRecDepth 20000 in
theorem gX2_bringsIsland_X4_endOf : GoodIn wsX2_bringsIsland (wsV RX2 186 RX4 yX4_endOf wsX4_endOf) := goodIn_app (goodIn_of _ (by decide +kernel)) ggX2_bringsIsland_X4_endOf
set_option maxRecDepth 20000 in
theorem ggX2_bringsIsland_X0_kindOf : GoodIn wsX2_bringsIsland wsX0_kindOf := goodIn_r _ [32, 33, 34, 35, 36, 16, 37, 18, 38, 63, 64, 65, 66] (by decide +kernel) (by decide +kernel)
set_option maxRecDepth 20000 in
theorem gX2_bringsIsland_X0_kindOf : GoodIn wsX2_bringsIsland (wsV RX2 92 RX0 yX0_kindOf wsX0_kindOf) := goodIn_app (goodIn_of _ (by decide +kernel)) ggX2_bringsIsland_X0_kindOf
set_option maxRecDepth 20000 in
theorem ggX2_bringsIsland_X4_add : GoodIn wsX2_bringsIsland wsX4_add := goodIn_r _ [42, 43, 44, 45, 46, 25, 26, 27, 22, 28, 67, 68, 69, 70, 71, 72] (by decide +kernel) (by decide +kernel)
set_option maxRecDepth 20000 in
theorem gX2_bringsIsland_X4_add : GoodIn wsX2_bringsIsland (wsV RX2 183 RX4 yX4_add wsX4_add) := goodIn_app (goodIn_of _ (by decide +kernel)) ggX2_bringsIsland_X4_add
theorem dX2_bringsIsland_0 : decode cX2_bringsIsland 0 = .ok (.aload_n 0, 1) := by decide +kernel
theorem dX2_bringsIsland_1 : decode cX2_bringsIsland 1 = .ok (.iload_n 2, 1) := by decide +kernel
theorem dX2_bringsIsland_2 : decode cX2_bringsIsland 2 = .ok (.invokevirtual 139, 3) := by decide +kernel
theorem dX2_bringsIsland_5 : decode cX2_bringsIsland 5 = .ok (.istore_n 3, 1) := by decide +kernel
theorem dX2_bringsIsland_6 : decode cX2_bringsIsland 6 = .ok (.iconst (-1), 1) := by decide +kernel
theorem dX2_bringsIsland_7 : decode cX2_bringsIsland 7 = .ok (.istore 4, 2) := by decide +kernel
theorem dX2_bringsIsland_9 : decode cX2_bringsIsland 9 = .ok (.iload_n 1, 1) := by decide +kernel
theorem dX2_bringsIsland_10 : decode cX2_bringsIsland 10 = .ok (.iload_n 3, 1) := by decide +kernel
theorem dX2_bringsIsland_11 : decode cX2_bringsIsland 11 = .ok (.invokestatic 142, 3) := by decide +kernel
theorem dX2_bringsIsland_14 : decode cX2_bringsIsland 14 = .ok (.istore 5, 2) := by decide +kernel
theorem dX2_bringsIsland_16 : decode cX2_bringsIsland 16 = .ok (.iconst 0, 1) := by decide +kernel
theorem dX2_bringsIsland_17 : decode cX2_bringsIsland 17 = .ok (.istore 6, 2) := by decide +kernel
theorem dX2_bringsIsland_19 : decode cX2_bringsIsland 19 = .ok (.iload 6, 2) := by decide +kernel
theorem dX2_bringsIsland_21 : decode cX2_bringsIsland 21 = .ok (.aload_n 0, 1) := by decide +kernel
theorem dX2_bringsIsland_22 : decode cX2_bringsIsland 22 = .ok (.getfield 50, 3) := by decide +kernel
theorem dX2_bringsIsland_25 : decode cX2_bringsIsland 25 = .ok (.invokevirtual 60, 3) := by decide +kernel
theorem dX2_bringsIsland_28 : decode cX2_bringsIsland 28 = .ok (.if_icmp .ge 83, 3) := by decide +kernel
theorem dX2_bringsIsland_31 : decode cX2_bringsIsland 31 = .ok (.aload_n 0, 1) := by decide +kernel
theorem dX2_bringsIsland_32 : decode cX2_bringsIsland 32 = .ok (.getfield 14, 3) := by decide +kernel
theorem dX2_bringsIsland_35 : decode cX2_bringsIsland 35 = .ok (.iload 6, 2) := by decide +kernel
theorem dX2_bringsIsland_37 : decode cX2_bringsIsland 37 = .ok (.invokevirtual 186, 3) := by decide +kernel
theorem dX2_bringsIsland_40 : decode cX2_bringsIsland 40 = .ok (.istore 7, 2) := by decide +kernel
theorem dX2_bringsIsland_42 : decode cX2_bringsIsland 42 = .ok (.aload_n 0, 1) := by decide +kernel
theorem dX2_bringsIsland_43 : decode cX2_bringsIsland 43 = .ok (.getfield 50, 3) := by decide +kernel
theorem dX2_bringsIsland_46 : decode cX2_bringsIsland 46 = .ok (.iload 6, 2) := by decide +kernel
theorem dX2_bringsIsland_48 : decode cX2_bringsIsland 48 = .ok (.invokevirtual 92, 3) := by decide +kernel
theorem dX2_bringsIsland_51 : decode cX2_bringsIsland 51 = .ok (.iconst 5, 1) := by decide +kernel
theorem dX2_bringsIsland_52 : decode cX2_bringsIsland 52 = .ok (.if_icmp .ne 22, 3) := by decide +kernel
theorem dX2_bringsIsland_55 : decode cX2_bringsIsland 55 = .ok (.iload 7, 2) := by decide +kernel
theorem dX2_bringsIsland_57 : decode cX2_bringsIsland 57 = .ok (.iload_n 1, 1) := by decide +kernel
theorem dX2_bringsIsland_58 : decode cX2_bringsIsland 58 = .ok (.invokestatic 142, 3) := by decide +kernel
theorem dX2_bringsIsland_61 : decode cX2_bringsIsland 61 = .ok (.aload_n 0, 1) := by decide +kernel
theorem dX2_bringsIsland_62 : decode cX2_bringsIsland 62 = .ok (.getfield 54, 3) := by decide +kernel
theorem dX2_bringsIsland_65 : decode cX2_bringsIsland 65 = .ok (.iconst 1, 1) := by decide +kernel
theorem dX2_bringsIsland_66 : decode cX2_bringsIsland 66 = .ok (.iaload, 1) := by decide +kernel
theorem dX2_bringsIsland_67 : decode cX2_bringsIsland 67 = .ok (.if_icmp .gt 7, 3) := by decide +kernel
theorem dX2_bringsIsland_70 : decode cX2_bringsIsland 70 = .ok (.iconst 1, 1) := by decide +kernel
theorem dX2_bringsIsland_71 : decode cX2_bringsIsland 71 = .ok (.goto 4, 3) := by decide +kernel
theorem dX2_bringsIsland_74 : decode cX2_bringsIsland 74 = .ok (.iconst 0, 1) := by decide +kernel
theorem dX2_bringsIsland_75 : decode cX2_bringsIsland 75 = .ok (.istore 8, 2) := by decide +kernel
theorem dX2_bringsIsland_77 : decode cX2_bringsIsland 77 = .ok (.iload 8, 2) := by decide +kernel
theorem dX2_bringsIsland_79 : decode cX2_bringsIsland 79 = .ok (.ifCond .eq 26, 3) := by decide +kernel
theorem dX2_bringsIsland_82 : decode cX2_bringsIsland 82 = .ok (.iload 7, 2) := by decide +kernel
theorem dX2_bringsIsland_84 : decode cX2_bringsIsland 84 = .ok (.iload_n 3, 1) := by decide +kernel
theorem dX2_bringsIsland_85 : decode cX2_bringsIsland 85 = .ok (.invokestatic 142, 3) := by decide +kernel
theorem dX2_bringsIsland_88 : decode cX2_bringsIsland 88 = .ok (.iload 5, 2) := by decide +kernel
theorem dX2_bringsIsland_90 : decode cX2_bringsIsland 90 = .ok (.if_icmp .ge 15, 3) := by decide +kernel
theorem dX2_bringsIsland_93 : decode cX2_bringsIsland 93 = .ok (.iload 6, 2) := by decide +kernel
theorem dX2_bringsIsland_95 : decode cX2_bringsIsland 95 = .ok (.istore 4, 2) := by decide +kernel
theorem dX2_bringsIsland_97 : decode cX2_bringsIsland 97 = .ok (.iload 7, 2) := by decide +kernel
theorem dX2_bringsIsland_99 : decode cX2_bringsIsland 99 = .ok (.iload_n 3, 1) := by decide +kernel
theorem dX2_bringsIsland_100 : decode cX2_bringsIsland 100 = .ok (.invokestatic 142, 3) := by decide +kernel
theorem dX2_bringsIsland_103 : decode cX2_bringsIsland 103 = .ok (.istore 5, 2) := by decide +kernel
theorem dX2_bringsIsland_105 : decode cX2_bringsIsland 105 = .ok (.iinc 6 1, 3) := by decide +kernel
theorem dX2_bringsIsland_108 : decode cX2_bringsIsland 108 = .ok (.goto (-89), 3) := by decide +kernel
theorem dX2_bringsIsland_111 : decode cX2_bringsIsland 111 = .ok (.iload 4, 2) := by decide +kernel
theorem dX2_bringsIsland_113 : decode cX2_bringsIsland 113 = .ok (.iconst (-1), 1) := by decide +kernel
theorem dX2_bringsIsland_114 : decode cX2_bringsIsland 114 = .ok (.if_icmp .eq 20, 3) := by decide +kernel
theorem dX2_bringsIsland_117 : decode cX2_bringsIsland 117 = .ok (.aload_n 0, 1) := by decide +kernel
theorem dX2_bringsIsland_118 : decode cX2_bringsIsland 118 = .ok (.getfield 14, 3) := by decide +kernel
theorem dX2_bringsIsland_121 : decode cX2_bringsIsland 121 = .ok (.iload_n 2, 1) := by decide +kernel
theorem dX2_bringsIsland_122 : decode cX2_bringsIsland 122 = .ok (.iload 4, 2) := by decide +kernel
theorem dX2_bringsIsland_124 : decode cX2_bringsIsland 124 = .ok (.invokevirtual 183, 3) := by decide +kernel
theorem dX2_bringsIsland_127 : decode cX2_bringsIsland 127 = .ok (.ifCond .eq 7, 3) := by decide +kernel
theorem dX2_bringsIsland_130 : decode cX2_bringsIsland 130 = .ok (.iconst 1, 1) := by decide +kernel
theorem dX2_bringsIsland_131 : decode cX2_bringsIsland 131 = .ok (.goto 4, 3) := by decide +kernel
theorem dX2_bringsIsland_134 : decode cX2_bringsIsland 134 = .ok (.iconst 0, 1) := by decide +kernel
theorem dX2_bringsIsland_135 : decode cX2_bringsIsland 135 = .ok (.ireturn, 1) := by decide +kernel
set_option maxRecDepth 20000 in
theorem ggX3_init_X0_init : GoodIn wsX3_init wsX0_init := goodIn_r _ [9, 10, 2, 3, 11, 12, 13, 14, 15, 16, 17] (by decide +kernel) (by decide +kernel)
set_option maxRecDepth 20000 in
theorem gX3_init_X0_init_n11 : GoodIn wsX3_init (wsX0_init) := ggX3_init_X0_init
theorem dX3_init_0 : decode cX3_init 0 = .ok (.aload_n 0, 1) := by decide +kernel
theorem dX3_init_1 : decode cX3_init 1 = .ok (.invokespecial 3, 3) := by decide +kernel
theorem dX3_init_4 : decode cX3_init 4 = .ok (.aload_n 0, 1) := by decide +kernel
theorem dX3_init_5 : decode cX3_init 5 = .ok (.new 9, 3) := by decide +kernel
theorem dX3_init_8 : decode cX3_init 8 = .ok (.dup, 1) := by decide +kernel
theorem dX3_init_9 : decode cX3_init 9 = .ok (.invokespecial 11, 3) := by decide +kernel
theorem dX3_init_12 : decode cX3_init 12 = .ok (.putfield 12, 3) := by decide +kernel
theorem dX3_init_15 : decode cX3_init 15 = .ok (.return_, 1) := by decide +kernel
set_option maxRecDepth 20000 in
theorem ggX3_read_X0_clear : GoodIn wsX3_read wsX0_clear := goodIn_r _ [9, 10, 11, 53, 54, 55, 56] (by decide +kernel) (by decide +kernel)
set_option maxRecDepth 20000 in
theorem gX3_read_X0_clear : GoodIn wsX3_read (wsV RX3 18 RX0 yX0_clear wsX0_clear) := goodIn_app (goodIn_of _ (by decide +kernel)) ggX3_read_X0_clear
set_option maxRecDepth 20000 in
theorem ggX3_read_X1_length : GoodIn wsX3_read wsX1_length := goodIn_r _ [16, 17, 57, 58] (by decide +kernel) (by decide +kernel)
set_option maxRecDepth 20000 in
theorem gX3_read_X1_length : GoodIn wsX3_read (wsV RX3 31 RX1 yX1_length wsX1_length) := goodIn_app (goodIn_of _ (by decide +kernel)) ggX3_read_X1_length
set_option maxRecDepth 20000 in
theorem ggX3_read_X1_letterAt : GoodIn wsX3_read wsX1_letterAt := goodIn_r _ [21, 17, 22, 57, 58] (by decide +kernel) (by decide +kernel)
set_option maxRecDepth 20000 in
theorem gX3_read_X1_letterAt : GoodIn wsX3_read (wsV RX3 37 RX1 yX1_letterAt wsX1_letterAt) := goodIn_app (goodIn_of _ (by decide +kernel)) ggX3_read_X1_letterAt
set_option maxRecDepth 20000 in
theorem ggX3_read_X3_begins : GoodIn wsX3_read wsX3_begins := goodIn_r _ [27, 1, 3, 2, 28, 29, 26, 30, 31, 32, 33, 8, 34, 10, 35, 36, 37, 38, 39, 40, 11, 49, 50, 51, 52, 53, 54, 55, 56] (by decide +kernel) (by decide +kernel)
set_option maxRecDepth 20000 in
theorem gX3_read_X3_begins : GoodIn wsX3_read (wsV RX3 41 RX3 yX3_begins wsX3_begins) := goodIn_app (goodIn_of _ (by decide +kernel)) ggX3_read_X3_begins
set_option maxRecDepth 20000 in
theorem ggX3_read_X3_ends : GoodIn wsX3_read wsX3_ends := goodIn_r _ [44, 2, 1, 35, 36, 37, 8, 38, 10, 39, 40, 11, 45, 46, 47, 26, 48, 4, 3, 49, 50, 51, 52, 53, 54, 55, 56] (by decide +kernel) (by decide +kernel)
set_option maxRecDepth 20000 in
theorem gX3_read_X3_ends : GoodIn wsX3_read (wsV RX3 45 RX3 yX3_ends wsX3_ends) := goodIn_app (goodIn_of _ (by decide +kernel)) ggX3_read_X3_ends
theorem dX3_read_0 : decode cX3_read 0 = .ok (.aload_n 0, 1) := by decide +kernel
theorem dX3_read_1 : decode cX3_read 1 = .ok (.getfield 12, 3) := by decide +kernel
theorem dX3_read_4 : decode cX3_read 4 = .ok (.invokevirtual 18, 3) := by decide +kernel
theorem dX3_read_7 : decode cX3_read 7 = .ok (.aload_n 0, 1) := by decide +kernel
theorem dX3_read_8 : decode cX3_read 8 = .ok (.iconst (-1), 1) := by decide +kernel
theorem dX3_read_9 : decode cX3_read 9 = .ok (.putfield 21, 3) := by decide +kernel
theorem dX3_read_12 : decode cX3_read 12 = .ok (.aload_n 0, 1) := by decide +kernel
theorem dX3_read_13 : decode cX3_read 13 = .ok (.iconst 0, 1) := by decide +kernel
theorem dX3_read_14 : decode cX3_read 14 = .ok (.putfield 25, 3) := by decide +kernel
theorem dX3_read_17 : decode cX3_read 17 = .ok (.aload_n 0, 1) := by decide +kernel
theorem dX3_read_18 : decode cX3_read 18 = .ok (.iconst 0, 1) := by decide +kernel
theorem dX3_read_19 : decode cX3_read 19 = .ok (.putfield 28, 3) := by decide +kernel
theorem dX3_read_22 : decode cX3_read 22 = .ok (.iconst 0, 1) := by decide +kernel
theorem dX3_read_23 : decode cX3_read 23 = .ok (.istore_n 2, 1) := by decide +kernel
theorem dX3_read_24 : decode cX3_read 24 = .ok (.iload_n 2, 1) := by decide +kernel
theorem dX3_read_25 : decode cX3_read 25 = .ok (.aload_n 1, 1) := by decide +kernel
theorem dX3_read_26 : decode cX3_read 26 = .ok (.invokevirtual 31, 3) := by decide +kernel
theorem dX3_read_29 : decode cX3_read 29 = .ok (.if_icmp .ge 45, 3) := by decide +kernel
theorem dX3_read_32 : decode cX3_read 32 = .ok (.aload_n 1, 1) := by decide +kernel
theorem dX3_read_33 : decode cX3_read 33 = .ok (.iload_n 2, 1) := by decide +kernel
theorem dX3_read_34 : decode cX3_read 34 = .ok (.invokevirtual 37, 3) := by decide +kernel
theorem dX3_read_37 : decode cX3_read 37 = .ok (.istore_n 3, 1) := by decide +kernel
theorem dX3_read_38 : decode cX3_read 38 = .ok (.aload_n 0, 1) := by decide +kernel
theorem dX3_read_39 : decode cX3_read 39 = .ok (.getfield 21, 3) := by decide +kernel
theorem dX3_read_42 : decode cX3_read 42 = .ok (.iconst (-1), 1) := by decide +kernel
theorem dX3_read_43 : decode cX3_read 43 = .ok (.if_icmp .ne 11, 3) := by decide +kernel
theorem dX3_read_46 : decode cX3_read 46 = .ok (.aload_n 0, 1) := by decide +kernel
theorem dX3_read_47 : decode cX3_read 47 = .ok (.iload_n 3, 1) := by decide +kernel
theorem dX3_read_48 : decode cX3_read 48 = .ok (.invokevirtual 41, 3) := by decide +kernel
theorem dX3_read_51 : decode cX3_read 51 = .ok (.goto 8, 3) := by decide +kernel
theorem dX3_read_54 : decode cX3_read 54 = .ok (.aload_n 0, 1) := by decide +kernel
theorem dX3_read_55 : decode cX3_read 55 = .ok (.iload_n 3, 1) := by decide +kernel
theorem dX3_read_56 : decode cX3_read 56 = .ok (.invokevirtual 45, 3) := by decide +kernel
theorem dX3_read_59 : decode cX3_read 59 = .ok (.istore 4, 2) := by decide +kernel
theorem dX3_read_61 : decode cX3_read 61 = .ok (.iload 4, 2) := by decide +kernel
theorem dX3_read_63 : decode cX3_read 63 = .ok (.ifCond .ne 5, 3) := by decide +kernel
theorem dX3_read_66 : decode cX3_read 66 = .ok (.iload_n 2, 1) := by decide +kernel
theorem dX3_read_67 : decode cX3_read 67 = .ok (.ireturn, 1) := by decide +kernel
theorem dX3_read_68 : decode cX3_read 68 = .ok (.iinc 2 1, 3) := by decide +kernel
theorem dX3_read_71 : decode cX3_read 71 = .ok (.goto (-47), 3) := by decide +kernel
theorem dX3_read_74 : decode cX3_read 74 = .ok (.aload_n 1, 1) := by decide +kernel
theorem dX3_read_75 : decode cX3_read 75 = .ok (.invokevirtual 31, 3) := by decide +kernel
theorem dX3_read_78 : decode cX3_read 78 = .ok (.ireturn, 1) := by decide +kernel
set_option maxRecDepth 20000 in
theorem ggX3_isWhole_X0_size : GoodIn wsX3_isWhole wsX0_size := goodIn_r _ [9, 10, 15, 16, 17, 18] (by decide +kernel) (by decide +kernel)
set_option maxRecDepth 20000 in
theorem gX3_isWhole_X0_size : GoodIn wsX3_isWhole (wsV RX3 48 RX0 yX0_size wsX0_size) := goodIn_app (goodIn_of _ (by decide +kernel)) ggX3_isWhole_X0_size
theorem dX3_isWhole_0 : decode cX3_isWhole 0 = .ok (.aload_n 0, 1) := by decide +kernel
theorem dX3_isWhole_1 : decode cX3_isWhole 1 = .ok (.getfield 12, 3) := by decide +kernel
theorem dX3_isWhole_4 : decode cX3_isWhole 4 = .ok (.invokevirtual 48, 3) := by decide +kernel
theorem dX3_isWhole_7 : decode cX3_isWhole 7 = .ok (.ifCond .le 29, 3) := by decide +kernel
theorem dX3_isWhole_10 : decode cX3_isWhole 10 = .ok (.aload_n 0, 1) := by decide +kernel
theorem dX3_isWhole_11 : decode cX3_isWhole 11 = .ok (.getfield 21, 3) := by decide +kernel
theorem dX3_isWhole_14 : decode cX3_isWhole 14 = .ok (.iconst (-1), 1) := by decide +kernel
theorem dX3_isWhole_15 : decode cX3_isWhole 15 = .ok (.if_icmp .ne 21, 3) := by decide +kernel
theorem dX3_isWhole_18 : decode cX3_isWhole 18 = .ok (.aload_n 0, 1) := by decide +kernel
theorem dX3_isWhole_19 : decode cX3_isWhole 19 = .ok (.getfield 28, 3) := by decide +kernel
theorem dX3_isWhole_22 : decode cX3_isWhole 22 = .ok (.aload_n 0, 1) := by decide +kernel
theorem dX3_isWhole_23 : decode cX3_isWhole 23 = .ok (.getfield 25, 3) := by decide +kernel
theorem dX3_isWhole_26 : decode cX3_isWhole 26 = .ok (.iconst (-1), 1) := by decide +kernel
theorem dX3_isWhole_27 : decode cX3_isWhole 27 = .ok (.ixor, 1) := by decide +kernel
theorem dX3_isWhole_28 : decode cX3_isWhole 28 = .ok (.iand, 1) := by decide +kernel
theorem dX3_isWhole_29 : decode cX3_isWhole 29 = .ok (.ifCond .ne 7, 3) := by decide +kernel
theorem dX3_isWhole_32 : decode cX3_isWhole 32 = .ok (.iconst 1, 1) := by decide +kernel
theorem dX3_isWhole_33 : decode cX3_isWhole 33 = .ok (.goto 4, 3) := by decide +kernel
theorem dX3_isWhole_36 : decode cX3_isWhole 36 = .ok (.iconst 0, 1) := by decide +kernel
theorem dX3_isWhole_37 : decode cX3_isWhole 37 = .ok (.ireturn, 1) := by decide +kernel
set_option maxRecDepth 20000 in
theorem ggX3_begins_X3_kindBegunBy : GoodIn wsX3_begins wsX3_kindBegunBy := goodIn_r _ [7] (by decide +kernel) (by decide +kernel)
set_option maxRecDepth 20000 in
theorem gX3_begins_X3_kindBegunBy : GoodIn wsX3_begins (va_wsS RX3 51 yX3_kindBegunBy wsX3_kindBegunBy) := goodIn_app (goodIn_of _ (by decide +kernel)) ggX3_begins_X3_kindBegunBy
set_option maxRecDepth 20000 in
theorem ggX3_begins_X0_size : GoodIn wsX3_begins wsX0_size := goodIn_r _ [12, 13, 25, 26, 27, 28] (by decide +kernel) (by decide +kernel)
set_option maxRecDepth 20000 in
theorem gX3_begins_X0_size : GoodIn wsX3_begins (wsV RX3 48 RX0 yX0_size wsX0_size) := goodIn_app (goodIn_of _ (by decide +kernel)) ggX3_begins_X0_size
set_option maxRecDepth 20000 in
theorem ggX3_begins_X0_add : GoodIn wsX3_begins wsX0_add := goodIn_r _ [17, 13, 18, 19, 20, 25, 26, 27, 28] (by decide +kernel) (by decide +kernel)
set_option maxRecDepth 20000 in
theorem gX3_begins_X0_add : GoodIn wsX3_begins (wsV RX3 54 RX0 yX0_add wsX0_add) := goodIn_app (goodIn_of _ (by decide +kernel)) ggX3_begins_X0_add
theorem dX3_begins_0 : decode cX3_begins 0 = .ok (.iload_n 1, 1) := by decide +kernel
theorem dX3_begins_1 : decode cX3_begins 1 = .ok (.invokestatic 51, 3) := by decide +kernel
theorem dX3_begins_4 : decode cX3_begins 4 = .ok (.istore_n 2, 1) := by decide +kernel
theorem dX3_begins_5 : decode cX3_begins 5 = .ok (.iload_n 2, 1) := by decide +kernel
theorem dX3_begins_6 : decode cX3_begins 6 = .ok (.iconst (-1), 1) := by decide +kernel
theorem dX3_begins_7 : decode cX3_begins 7 = .ok (.if_icmp .eq 15, 3) := by decide +kernel
theorem dX3_begins_10 : decode cX3_begins 10 = .ok (.aload_n 0, 1) := by decide +kernel
theorem dX3_begins_11 : decode cX3_begins 11 = .ok (.getfield 12, 3) := by decide +kernel
theorem dX3_begins_14 : decode cX3_begins 14 = .ok (.invokevirtual 48, 3) := by decide +kernel
theorem dX3_begins_17 : decode cX3_begins 17 = .ok (.bipush 24, 2) := by decide +kernel
theorem dX3_begins_19 : decode cX3_begins 19 = .ok (.if_icmp .lt 5, 3) := by decide +kernel
theorem dX3_begins_22 : decode cX3_begins 22 = .ok (.iconst 0, 1) := by decide +kernel
theorem dX3_begins_23 : decode cX3_begins 23 = .ok (.ireturn, 1) := by decide +kernel
theorem dX3_begins_24 : decode cX3_begins 24 = .ok (.iload_n 2, 1) := by decide +kernel
theorem dX3_begins_25 : decode cX3_begins 25 = .ok (.iconst 5, 1) := by decide +kernel
theorem dX3_begins_26 : decode cX3_begins 26 = .ok (.if_icmp .ne 13, 3) := by decide +kernel
theorem dX3_begins_29 : decode cX3_begins 29 = .ok (.aload_n 0, 1) := by decide +kernel
theorem dX3_begins_30 : decode cX3_begins 30 = .ok (.getfield 12, 3) := by decide +kernel
theorem dX3_begins_33 : decode cX3_begins 33 = .ok (.iconst 5, 1) := by decide +kernel
theorem dX3_begins_34 : decode cX3_begins 34 = .ok (.iconst 0, 1) := by decide +kernel
theorem dX3_begins_35 : decode cX3_begins 35 = .ok (.invokevirtual 54, 3) := by decide +kernel
theorem dX3_begins_38 : decode cX3_begins 38 = .ok (.ireturn, 1) := by decide +kernel
theorem dX3_begins_39 : decode cX3_begins 39 = .ok (.iload_n 2, 1) := by decide +kernel
theorem dX3_begins_40 : decode cX3_begins 40 = .ok (.iconst 3, 1) := by decide +kernel
theorem dX3_begins_41 : decode cX3_begins 41 = .ok (.if_icmp .ne 15, 3) := by decide +kernel
theorem dX3_begins_44 : decode cX3_begins 44 = .ok (.aload_n 0, 1) := by decide +kernel
theorem dX3_begins_45 : decode cX3_begins 45 = .ok (.getfield 25, 3) := by decide +kernel
theorem dX3_begins_48 : decode cX3_begins 48 = .ok (.sipush 255, 3) := by decide +kernel
theorem dX3_begins_51 : decode cX3_begins 51 = .ok (.if_icmp .ne 5, 3) := by decide +kernel
theorem dX3_begins_54 : decode cX3_begins 54 = .ok (.iconst 0, 1) := by decide +kernel
theorem dX3_begins_55 : decode cX3_begins 55 = .ok (.ireturn, 1) := by decide +kernel
theorem dX3_begins_56 : decode cX3_begins 56 = .ok (.aload_n 0, 1) := by decide +kernel
theorem dX3_begins_57 : decode cX3_begins 57 = .ok (.iload_n 2, 1) := by decide +kernel
theorem dX3_begins_58 : decode cX3_begins 58 = .ok (.putfield 21, 3) := by decide +kernel
theorem dX3_begins_61 : decode cX3_begins 61 = .ok (.iconst 1, 1) := by decide +kernel
theorem dX3_begins_62 : decode cX3_begins 62 = .ok (.ireturn, 1) := by decide +kernel
set_option maxRecDepth 20000 in
theorem ggX3_ends_X0_add : GoodIn wsX3_ends wsX0_add := goodIn_r _ [7, 8, 9, 10, 11, 23, 24, 25, 26] (by decide +kernel) (by decide +kernel)
set_option maxRecDepth 20000 in
theorem gX3_ends_X0_add : GoodIn wsX3_ends (wsV RX3 54 RX0 yX0_add wsX0_add) := goodIn_app (goodIn_of _ (by decide +kernel)) ggX3_ends_X0_add
set_option maxRecDepth 20000 in
theorem ggX3_ends_X3_endsWithLabel : GoodIn wsX3_ends wsX3_endsWithLabel := goodIn_r _ [16, 17, 2, 18, 3, 4, 5, 6, 7, 8, 9, 10, 11, 19, 20, 21, 22, 23, 24, 25, 26] (by decide +kernel) (by decide +kernel)
set_option maxRecDepth 20000 in
theorem gX3_ends_X3_endsWithLabel : GoodIn wsX3_ends (wsV RX3 58 RX3 yX3_endsWithLabel wsX3_endsWithLabel) := goodIn_app (goodIn_of _ (by decide +kernel)) ggX3_ends_X3_endsWithLabel
theorem dX3_ends_0 : decode cX3_ends 0 = .ok (.aload_n 0, 1) := by decide +kernel
theorem dX3_ends_1 : decode cX3_ends 1 = .ok (.getfield 21, 3) := by decide +kernel
theorem dX3_ends_4 : decode cX3_ends 4 = .ok (.istore_n 2, 1) := by decide +kernel
theorem dX3_ends_5 : decode cX3_ends 5 = .ok (.aload_n 0, 1) := by decide +kernel
theorem dX3_ends_6 : decode cX3_ends 6 = .ok (.iconst (-1), 1) := by decide +kernel
theorem dX3_ends_7 : decode cX3_ends 7 = .ok (.putfield 21, 3) := by decide +kernel
theorem dX3_ends_10 : decode cX3_ends 10 = .ok (.iload_n 2, 1) := by decide +kernel
theorem dX3_ends_11 : decode cX3_ends 11 = .ok (.tableswitch 134 0 4 #[33, 66, 134, 134, 99], 33) := by decide +kernel
theorem dX3_ends_44 : decode cX3_ends 44 = .ok (.iload_n 1, 1) := by decide +kernel
theorem dX3_ends_45 : decode cX3_ends 45 = .ok (.bipush 49, 2) := by decide +kernel
theorem dX3_ends_47 : decode cX3_ends 47 = .ok (.if_icmp .lt 28, 3) := by decide +kernel
theorem dX3_ends_50 : decode cX3_ends 50 = .ok (.iload_n 1, 1) := by decide +kernel
theorem dX3_ends_51 : decode cX3_ends 51 = .ok (.bipush 57, 2) := by decide +kernel
theorem dX3_ends_53 : decode cX3_ends 53 = .ok (.if_icmp .gt 22, 3) := by decide +kernel
theorem dX3_ends_56 : decode cX3_ends 56 = .ok (.aload_n 0, 1) := by decide +kernel
theorem dX3_ends_57 : decode cX3_ends 57 = .ok (.getfield 12, 3) := by decide +kernel
theorem dX3_ends_60 : decode cX3_ends 60 = .ok (.iconst 0, 1) := by decide +kernel
theorem dX3_ends_61 : decode cX3_ends 61 = .ok (.iload_n 1, 1) := by decide +kernel
theorem dX3_ends_62 : decode cX3_ends 62 = .ok (.bipush 48, 2) := by decide +kernel
theorem dX3_ends_64 : decode cX3_ends 64 = .ok (.isub, 1) := by decide +kernel
theorem dX3_ends_65 : decode cX3_ends 65 = .ok (.invokevirtual 54, 3) := by decide +kernel
theorem dX3_ends_68 : decode cX3_ends 68 = .ok (.ifCond .eq 7, 3) := by decide +kernel
theorem dX3_ends_71 : decode cX3_ends 71 = .ok (.iconst 1, 1) := by decide +kernel
theorem dX3_ends_72 : decode cX3_ends 72 = .ok (.goto 4, 3) := by decide +kernel
theorem dX3_ends_75 : decode cX3_ends 75 = .ok (.iconst 0, 1) := by decide +kernel
theorem dX3_ends_76 : decode cX3_ends 76 = .ok (.ireturn, 1) := by decide +kernel
theorem dX3_ends_77 : decode cX3_ends 77 = .ok (.iload_n 1, 1) := by decide +kernel
theorem dX3_ends_78 : decode cX3_ends 78 = .ok (.bipush 48, 2) := by decide +kernel
theorem dX3_ends_80 : decode cX3_ends 80 = .ok (.if_icmp .lt 28, 3) := by decide +kernel
theorem dX3_ends_83 : decode cX3_ends 83 = .ok (.iload_n 1, 1) := by decide +kernel
theorem dX3_ends_84 : decode cX3_ends 84 = .ok (.bipush 57, 2) := by decide +kernel
theorem dX3_ends_86 : decode cX3_ends 86 = .ok (.if_icmp .gt 22, 3) := by decide +kernel
theorem dX3_ends_89 : decode cX3_ends 89 = .ok (.aload_n 0, 1) := by decide +kernel
theorem dX3_ends_90 : decode cX3_ends 90 = .ok (.getfield 12, 3) := by decide +kernel
theorem dX3_ends_93 : decode cX3_ends 93 = .ok (.iconst 1, 1) := by decide +kernel
theorem dX3_ends_94 : decode cX3_ends 94 = .ok (.iload_n 1, 1) := by decide +kernel
theorem dX3_ends_95 : decode cX3_ends 95 = .ok (.bipush 48, 2) := by decide +kernel
theorem dX3_ends_97 : decode cX3_ends 97 = .ok (.isub, 1) := by decide +kernel
theorem dX3_ends_98 : decode cX3_ends 98 = .ok (.invokevirtual 54, 3) := by decide +kernel
theorem dX3_ends_101 : decode cX3_ends 101 = .ok (.ifCond .eq 7, 3) := by decide +kernel
theorem dX3_ends_104 : decode cX3_ends 104 = .ok (.iconst 1, 1) := by decide +kernel
theorem dX3_ends_105 : decode cX3_ends 105 = .ok (.goto 4, 3) := by decide +kernel
theorem dX3_ends_108 : decode cX3_ends 108 = .ok (.iconst 0, 1) := by decide +kernel
theorem dX3_ends_109 : decode cX3_ends 109 = .ok (.ireturn, 1) := by decide +kernel
theorem dX3_ends_110 : decode cX3_ends 110 = .ok (.iload_n 1, 1) := by decide +kernel
theorem dX3_ends_111 : decode cX3_ends 111 = .ok (.bipush 49, 2) := by decide +kernel
theorem dX3_ends_113 : decode cX3_ends 113 = .ok (.if_icmp .lt 30, 3) := by decide +kernel
theorem dX3_ends_116 : decode cX3_ends 116 = .ok (.iload_n 1, 1) := by decide +kernel
theorem dX3_ends_117 : decode cX3_ends 117 = .ok (.bipush 51, 2) := by decide +kernel
theorem dX3_ends_119 : decode cX3_ends 119 = .ok (.if_icmp .gt 24, 3) := by decide +kernel
theorem dX3_ends_122 : decode cX3_ends 122 = .ok (.aload_n 0, 1) := by decide +kernel
theorem dX3_ends_123 : decode cX3_ends 123 = .ok (.getfield 12, 3) := by decide +kernel
theorem dX3_ends_126 : decode cX3_ends 126 = .ok (.iconst 4, 1) := by decide +kernel
theorem dX3_ends_127 : decode cX3_ends 127 = .ok (.iconst 1, 1) := by decide +kernel
theorem dX3_ends_128 : decode cX3_ends 128 = .ok (.iload_n 1, 1) := by decide +kernel
theorem dX3_ends_129 : decode cX3_ends 129 = .ok (.bipush 48, 2) := by decide +kernel
theorem dX3_ends_131 : decode cX3_ends 131 = .ok (.isub, 1) := by decide +kernel
theorem dX3_ends_132 : decode cX3_ends 132 = .ok (.ishl, 1) := by decide +kernel
theorem dX3_ends_133 : decode cX3_ends 133 = .ok (.invokevirtual 54, 3) := by decide +kernel
theorem dX3_ends_136 : decode cX3_ends 136 = .ok (.ifCond .eq 7, 3) := by decide +kernel
theorem dX3_ends_139 : decode cX3_ends 139 = .ok (.iconst 1, 1) := by decide +kernel
theorem dX3_ends_140 : decode cX3_ends 140 = .ok (.goto 4, 3) := by decide +kernel
theorem dX3_ends_143 : decode cX3_ends 143 = .ok (.iconst 0, 1) := by decide +kernel
theorem dX3_ends_144 : decode cX3_ends 144 = .ok (.ireturn, 1) := by decide +kernel
theorem dX3_ends_145 : decode cX3_ends 145 = .ok (.iload_n 1, 1) := by decide +kernel
theorem dX3_ends_146 : decode cX3_ends 146 = .ok (.bipush 65, 2) := by decide +kernel
theorem dX3_ends_148 : decode cX3_ends 148 = .ok (.if_icmp .lt 25, 3) := by decide +kernel
theorem dX3_ends_151 : decode cX3_ends 151 = .ok (.iload_n 1, 1) := by decide +kernel
theorem dX3_ends_152 : decode cX3_ends 152 = .ok (.bipush 73, 2) := by decide +kernel
theorem dX3_ends_154 : decode cX3_ends 154 = .ok (.if_icmp .ge 19, 3) := by decide +kernel
theorem dX3_ends_157 : decode cX3_ends 157 = .ok (.aload_n 0, 1) := by decide +kernel
theorem dX3_ends_158 : decode cX3_ends 158 = .ok (.iload_n 2, 1) := by decide +kernel
theorem dX3_ends_159 : decode cX3_ends 159 = .ok (.iload_n 1, 1) := by decide +kernel
theorem dX3_ends_160 : decode cX3_ends 160 = .ok (.bipush 65, 2) := by decide +kernel
theorem dX3_ends_162 : decode cX3_ends 162 = .ok (.isub, 1) := by decide +kernel
theorem dX3_ends_163 : decode cX3_ends 163 = .ok (.invokevirtual 58, 3) := by decide +kernel
theorem dX3_ends_166 : decode cX3_ends 166 = .ok (.ifCond .eq 7, 3) := by decide +kernel
theorem dX3_ends_169 : decode cX3_ends 169 = .ok (.iconst 1, 1) := by decide +kernel
theorem dX3_ends_170 : decode cX3_ends 170 = .ok (.goto 4, 3) := by decide +kernel
theorem dX3_ends_173 : decode cX3_ends 173 = .ok (.iconst 0, 1) := by decide +kernel
theorem dX3_ends_174 : decode cX3_ends 174 = .ok (.ireturn, 1) := by decide +kernel
set_option maxRecDepth 20000 in
theorem ggX3_endsWithLabel_X0_add : GoodIn wsX3_endsWithLabel wsX0_add := goodIn_r _ [8, 9, 10, 11, 12, 17, 18, 19, 20] (by decide +kernel) (by decide +kernel)
set_option maxRecDepth 20000 in
theorem gX3_endsWithLabel_X0_add : GoodIn wsX3_endsWithLabel (wsV RX3 54 RX0 yX0_add wsX0_add) := goodIn_app (goodIn_of _ (by decide +kernel)) ggX3_endsWithLabel_X0_add
theorem dX3_endsWithLabel_0 : decode cX3_endsWithLabel 0 = .ok (.iconst 1, 1) := by decide +kernel
theorem dX3_endsWithLabel_1 : decode cX3_endsWithLabel 1 = .ok (.iload_n 2, 1) := by decide +kernel
theorem dX3_endsWithLabel_2 : decode cX3_endsWithLabel 2 = .ok (.ishl, 1) := by decide +kernel
theorem dX3_endsWithLabel_3 : decode cX3_endsWithLabel 3 = .ok (.istore_n 3, 1) := by decide +kernel
theorem dX3_endsWithLabel_4 : decode cX3_endsWithLabel 4 = .ok (.iload_n 1, 1) := by decide +kernel
theorem dX3_endsWithLabel_5 : decode cX3_endsWithLabel 5 = .ok (.iconst 2, 1) := by decide +kernel
theorem dX3_endsWithLabel_6 : decode cX3_endsWithLabel 6 = .ok (.if_icmp .ne 23, 3) := by decide +kernel
theorem dX3_endsWithLabel_9 : decode cX3_endsWithLabel 9 = .ok (.aload_n 0, 1) := by decide +kernel
theorem dX3_endsWithLabel_10 : decode cX3_endsWithLabel 10 = .ok (.dup, 1) := by decide +kernel
theorem dX3_endsWithLabel_11 : decode cX3_endsWithLabel 11 = .ok (.getfield 28, 3) := by decide +kernel
theorem dX3_endsWithLabel_14 : decode cX3_endsWithLabel 14 = .ok (.iload_n 3, 1) := by decide +kernel
theorem dX3_endsWithLabel_15 : decode cX3_endsWithLabel 15 = .ok (.ior, 1) := by decide +kernel
theorem dX3_endsWithLabel_16 : decode cX3_endsWithLabel 16 = .ok (.putfield 28, 3) := by decide +kernel
theorem dX3_endsWithLabel_19 : decode cX3_endsWithLabel 19 = .ok (.aload_n 0, 1) := by decide +kernel
theorem dX3_endsWithLabel_20 : decode cX3_endsWithLabel 20 = .ok (.getfield 12, 3) := by decide +kernel
theorem dX3_endsWithLabel_23 : decode cX3_endsWithLabel 23 = .ok (.iconst 2, 1) := by decide +kernel
theorem dX3_endsWithLabel_24 : decode cX3_endsWithLabel 24 = .ok (.iload_n 2, 1) := by decide +kernel
theorem dX3_endsWithLabel_25 : decode cX3_endsWithLabel 25 = .ok (.invokevirtual 54, 3) := by decide +kernel
theorem dX3_endsWithLabel_28 : decode cX3_endsWithLabel 28 = .ok (.ireturn, 1) := by decide +kernel
theorem dX3_endsWithLabel_29 : decode cX3_endsWithLabel 29 = .ok (.aload_n 0, 1) := by decide +kernel
theorem dX3_endsWithLabel_30 : decode cX3_endsWithLabel 30 = .ok (.getfield 25, 3) := by decide +kernel
theorem dX3_endsWithLabel_33 : decode cX3_endsWithLabel 33 = .ok (.iload_n 3, 1) := by decide +kernel
theorem dX3_endsWithLabel_34 : decode cX3_endsWithLabel 34 = .ok (.iand, 1) := by decide +kernel
theorem dX3_endsWithLabel_35 : decode cX3_endsWithLabel 35 = .ok (.ifCond .eq 5, 3) := by decide +kernel
theorem dX3_endsWithLabel_38 : decode cX3_endsWithLabel 38 = .ok (.iconst 0, 1) := by decide +kernel
theorem dX3_endsWithLabel_39 : decode cX3_endsWithLabel 39 = .ok (.ireturn, 1) := by decide +kernel
theorem dX3_endsWithLabel_40 : decode cX3_endsWithLabel 40 = .ok (.aload_n 0, 1) := by decide +kernel
theorem dX3_endsWithLabel_41 : decode cX3_endsWithLabel 41 = .ok (.dup, 1) := by decide +kernel
theorem dX3_endsWithLabel_42 : decode cX3_endsWithLabel 42 = .ok (.getfield 25, 3) := by decide +kernel
theorem dX3_endsWithLabel_45 : decode cX3_endsWithLabel 45 = .ok (.iload_n 3, 1) := by decide +kernel
theorem dX3_endsWithLabel_46 : decode cX3_endsWithLabel 46 = .ok (.ior, 1) := by decide +kernel
theorem dX3_endsWithLabel_47 : decode cX3_endsWithLabel 47 = .ok (.putfield 25, 3) := by decide +kernel
theorem dX3_endsWithLabel_50 : decode cX3_endsWithLabel 50 = .ok (.aload_n 0, 1) := by decide +kernel
theorem dX3_endsWithLabel_51 : decode cX3_endsWithLabel 51 = .ok (.getfield 12, 3) := by decide +kernel
theorem dX3_endsWithLabel_54 : decode cX3_endsWithLabel 54 = .ok (.iconst 3, 1) := by decide +kernel
theorem dX3_endsWithLabel_55 : decode cX3_endsWithLabel 55 = .ok (.iload_n 2, 1) := by decide +kernel
theorem dX3_endsWithLabel_56 : decode cX3_endsWithLabel 56 = .ok (.invokevirtual 54, 3) := by decide +kernel
theorem dX3_endsWithLabel_59 : decode cX3_endsWithLabel 59 = .ok (.ireturn, 1) := by decide +kernel
theorem dX3_kindBegunBy_0 : decode cX3_kindBegunBy 0 = .ok (.iload_n 0, 1) := by decide +kernel
theorem dX3_kindBegunBy_1 : decode cX3_kindBegunBy 1 = .ok (.lookupswitch 71 #[(58, 65), (97, 67), (98, 63), (108, 61), (110, 59), (114, 69)], 59) := by decide +kernel
theorem dX3_kindBegunBy_60 : decode cX3_kindBegunBy 60 = .ok (.iconst 0, 1) := by decide +kernel
theorem dX3_kindBegunBy_61 : decode cX3_kindBegunBy 61 = .ok (.ireturn, 1) := by decide +kernel
theorem dX3_kindBegunBy_62 : decode cX3_kindBegunBy 62 = .ok (.iconst 1, 1) := by decide +kernel
theorem dX3_kindBegunBy_63 : decode cX3_kindBegunBy 63 = .ok (.ireturn, 1) := by decide +kernel
theorem dX3_kindBegunBy_64 : decode cX3_kindBegunBy 64 = .ok (.iconst 2, 1) := by decide +kernel
theorem dX3_kindBegunBy_65 : decode cX3_kindBegunBy 65 = .ok (.ireturn, 1) := by decide +kernel
theorem dX3_kindBegunBy_66 : decode cX3_kindBegunBy 66 = .ok (.iconst 3, 1) := by decide +kernel
theorem dX3_kindBegunBy_67 : decode cX3_kindBegunBy 67 = .ok (.ireturn, 1) := by decide +kernel
theorem dX3_kindBegunBy_68 : decode cX3_kindBegunBy 68 = .ok (.iconst 4, 1) := by decide +kernel
theorem dX3_kindBegunBy_69 : decode cX3_kindBegunBy 69 = .ok (.ireturn, 1) := by decide +kernel
theorem dX3_kindBegunBy_70 : decode cX3_kindBegunBy 70 = .ok (.iconst 5, 1) := by decide +kernel
theorem dX3_kindBegunBy_71 : decode cX3_kindBegunBy 71 = .ok (.ireturn, 1) := by decide +kernel
theorem dX3_kindBegunBy_72 : decode cX3_kindBegunBy 72 = .ok (.iconst (-1), 1) := by decide +kernel
theorem dX3_kindBegunBy_73 : decode cX3_kindBegunBy 73 = .ok (.ireturn, 1) := by decide +kernel
theorem dX4_init_0 : decode cX4_init 0 = .ok (.aload_n 0, 1) := by decide +kernel
theorem dX4_init_1 : decode cX4_init 1 = .ok (.invokespecial 3, 3) := by decide +kernel
theorem dX4_init_4 : decode cX4_init 4 = .ok (.aload_n 0, 1) := by decide +kernel
theorem dX4_init_5 : decode cX4_init 5 = .ok (.bipush 24, 2) := by decide +kernel
theorem dX4_init_7 : decode cX4_init 7 = .ok (.newarray .int, 2) := by decide +kernel
theorem dX4_init_9 : decode cX4_init 9 = .ok (.putfield 9, 3) := by decide +kernel
theorem dX4_init_12 : decode cX4_init 12 = .ok (.aload_n 0, 1) := by decide +kernel
theorem dX4_init_13 : decode cX4_init 13 = .ok (.bipush 24, 2) := by decide +kernel
theorem dX4_init_15 : decode cX4_init 15 = .ok (.newarray .int, 2) := by decide +kernel
theorem dX4_init_17 : decode cX4_init 17 = .ok (.putfield 15, 3) := by decide +kernel
theorem dX4_init_20 : decode cX4_init 20 = .ok (.iconst 0, 1) := by decide +kernel
theorem dX4_init_21 : decode cX4_init 21 = .ok (.iload_n 1, 1) := by decide +kernel
theorem dX4_init_22 : decode cX4_init 22 = .ok (.invokestatic 18, 3) := by decide +kernel
theorem dX4_init_25 : decode cX4_init 25 = .ok (.istore_n 2, 1) := by decide +kernel
theorem dX4_init_26 : decode cX4_init 26 = .ok (.aload_n 0, 1) := by decide +kernel
theorem dX4_init_27 : decode cX4_init 27 = .ok (.iload_n 2, 1) := by decide +kernel
theorem dX4_init_28 : decode cX4_init 28 = .ok (.newarray .int, 2) := by decide +kernel
theorem dX4_init_30 : decode cX4_init 30 = .ok (.putfield 24, 3) := by decide +kernel
theorem dX4_init_33 : decode cX4_init 33 = .ok (.aload_n 0, 1) := by decide +kernel
theorem dX4_init_34 : decode cX4_init 34 = .ok (.iload_n 2, 1) := by decide +kernel
theorem dX4_init_35 : decode cX4_init 35 = .ok (.newarray .int, 2) := by decide +kernel
theorem dX4_init_37 : decode cX4_init 37 = .ok (.putfield 27, 3) := by decide +kernel
theorem dX4_init_40 : decode cX4_init 40 = .ok (.aload_n 0, 1) := by decide +kernel
theorem dX4_init_41 : decode cX4_init 41 = .ok (.iload_n 2, 1) := by decide +kernel
theorem dX4_init_42 : decode cX4_init 42 = .ok (.newarray .int, 2) := by decide +kernel
theorem dX4_init_44 : decode cX4_init 44 = .ok (.putfield 30, 3) := by decide +kernel
theorem dX4_init_47 : decode cX4_init 47 = .ok (.return_, 1) := by decide +kernel
theorem dX4_clear_0 : decode cX4_clear 0 = .ok (.aload_n 0, 1) := by decide +kernel
theorem dX4_clear_1 : decode cX4_clear 1 = .ok (.iconst 0, 1) := by decide +kernel
theorem dX4_clear_2 : decode cX4_clear 2 = .ok (.putfield 33, 3) := by decide +kernel
theorem dX4_clear_5 : decode cX4_clear 5 = .ok (.iconst 0, 1) := by decide +kernel
theorem dX4_clear_6 : decode cX4_clear 6 = .ok (.istore_n 1, 1) := by decide +kernel
theorem dX4_clear_7 : decode cX4_clear 7 = .ok (.iload_n 1, 1) := by decide +kernel
theorem dX4_clear_8 : decode cX4_clear 8 = .ok (.bipush 24, 2) := by decide +kernel
theorem dX4_clear_10 : decode cX4_clear 10 = .ok (.if_icmp .ge 23, 3) := by decide +kernel
theorem dX4_clear_13 : decode cX4_clear 13 = .ok (.aload_n 0, 1) := by decide +kernel
theorem dX4_clear_14 : decode cX4_clear 14 = .ok (.getfield 9, 3) := by decide +kernel
theorem dX4_clear_17 : decode cX4_clear 17 = .ok (.iload_n 1, 1) := by decide +kernel
theorem dX4_clear_18 : decode cX4_clear 18 = .ok (.iconst 0, 1) := by decide +kernel
theorem dX4_clear_19 : decode cX4_clear 19 = .ok (.iastore, 1) := by decide +kernel
theorem dX4_clear_20 : decode cX4_clear 20 = .ok (.aload_n 0, 1) := by decide +kernel
theorem dX4_clear_21 : decode cX4_clear 21 = .ok (.getfield 15, 3) := by decide +kernel
theorem dX4_clear_24 : decode cX4_clear 24 = .ok (.iload_n 1, 1) := by decide +kernel
theorem dX4_clear_25 : decode cX4_clear 25 = .ok (.iconst 0, 1) := by decide +kernel
theorem dX4_clear_26 : decode cX4_clear 26 = .ok (.iastore, 1) := by decide +kernel
theorem dX4_clear_27 : decode cX4_clear 27 = .ok (.iinc 1 1, 3) := by decide +kernel
theorem dX4_clear_30 : decode cX4_clear 30 = .ok (.goto (-23), 3) := by decide +kernel
theorem dX4_clear_33 : decode cX4_clear 33 = .ok (.return_, 1) := by decide +kernel
theorem dX4_size_0 : decode cX4_size 0 = .ok (.aload_n 0, 1) := by decide +kernel
theorem dX4_size_1 : decode cX4_size 1 = .ok (.getfield 33, 3) := by decide +kernel
theorem dX4_size_4 : decode cX4_size 4 = .ok (.ireturn, 1) := by decide +kernel
theorem dX4_has_0 : decode cX4_has 0 = .ok (.iload_n 1, 1) := by decide +kernel
theorem dX4_has_1 : decode cX4_has 1 = .ok (.ifCond .lt 24, 3) := by decide +kernel
theorem dX4_has_4 : decode cX4_has 4 = .ok (.iload_n 1, 1) := by decide +kernel
theorem dX4_has_5 : decode cX4_has 5 = .ok (.aload_n 0, 1) := by decide +kernel
theorem dX4_has_6 : decode cX4_has 6 = .ok (.getfield 33, 3) := by decide +kernel
theorem dX4_has_9 : decode cX4_has 9 = .ok (.if_icmp .ge 16, 3) := by decide +kernel
theorem dX4_has_12 : decode cX4_has 12 = .ok (.iload_n 1, 1) := by decide +kernel
theorem dX4_has_13 : decode cX4_has 13 = .ok (.aload_n 0, 1) := by decide +kernel
theorem dX4_has_14 : decode cX4_has 14 = .ok (.getfield 24, 3) := by decide +kernel
theorem dX4_has_17 : decode cX4_has 17 = .ok (.arraylength, 1) := by decide +kernel
theorem dX4_has_18 : decode cX4_has 18 = .ok (.if_icmp .ge 7, 3) := by decide +kernel
theorem dX4_has_21 : decode cX4_has 21 = .ok (.iconst 1, 1) := by decide +kernel
theorem dX4_has_22 : decode cX4_has 22 = .ok (.goto 4, 3) := by decide +kernel
theorem dX4_has_25 : decode cX4_has 25 = .ok (.iconst 0, 1) := by decide +kernel
theorem dX4_has_26 : decode cX4_has 26 = .ok (.ireturn, 1) := by decide +kernel
set_option maxRecDepth 20000 in
theorem ggX4_add_X4_isItem : GoodIn wsX4_add wsX4_isItem := goodIn_r _ [9] (by decide +kernel) (by decide +kernel)
set_option maxRecDepth 20000 in
theorem gX4_add_X4_isItem : GoodIn wsX4_add (va_wsS RX4 37 yX4_isItem wsX4_isItem) := goodIn_app (goodIn_of _ (by decide +kernel)) ggX4_add_X4_isItem
theorem dX4_add_0 : decode cX4_add 0 = .ok (.aload_n 0, 1) := by decide +kernel
theorem dX4_add_1 : decode cX4_add 1 = .ok (.getfield 33, 3) := by decide +kernel
theorem dX4_add_4 : decode cX4_add 4 = .ok (.ifCond .lt 22, 3) := by decide +kernel
theorem dX4_add_7 : decode cX4_add 7 = .ok (.aload_n 0, 1) := by decide +kernel
theorem dX4_add_8 : decode cX4_add 8 = .ok (.getfield 33, 3) := by decide +kernel
theorem dX4_add_11 : decode cX4_add 11 = .ok (.aload_n 0, 1) := by decide +kernel
theorem dX4_add_12 : decode cX4_add 12 = .ok (.getfield 24, 3) := by decide +kernel
theorem dX4_add_15 : decode cX4_add 15 = .ok (.arraylength, 1) := by decide +kernel
theorem dX4_add_16 : decode cX4_add 16 = .ok (.if_icmp .ge 10, 3) := by decide +kernel
theorem dX4_add_19 : decode cX4_add 19 = .ok (.iload_n 2, 1) := by decide +kernel
theorem dX4_add_20 : decode cX4_add 20 = .ok (.invokestatic 37, 3) := by decide +kernel
theorem dX4_add_23 : decode cX4_add 23 = .ok (.ifCond .ne 5, 3) := by decide +kernel
theorem dX4_add_26 : decode cX4_add 26 = .ok (.iconst 0, 1) := by decide +kernel
theorem dX4_add_27 : decode cX4_add 27 = .ok (.ireturn, 1) := by decide +kernel
theorem dX4_add_28 : decode cX4_add 28 = .ok (.aload_n 0, 1) := by decide +kernel
theorem dX4_add_29 : decode cX4_add 29 = .ok (.getfield 24, 3) := by decide +kernel
theorem dX4_add_32 : decode cX4_add 32 = .ok (.aload_n 0, 1) := by decide +kernel
theorem dX4_add_33 : decode cX4_add 33 = .ok (.getfield 33, 3) := by decide +kernel
theorem dX4_add_36 : decode cX4_add 36 = .ok (.iload_n 1, 1) := by decide +kernel
theorem dX4_add_37 : decode cX4_add 37 = .ok (.iastore, 1) := by decide +kernel
theorem dX4_add_38 : decode cX4_add 38 = .ok (.aload_n 0, 1) := by decide +kernel
theorem dX4_add_39 : decode cX4_add 39 = .ok (.getfield 27, 3) := by decide +kernel
theorem dX4_add_42 : decode cX4_add 42 = .ok (.aload_n 0, 1) := by decide +kernel
theorem dX4_add_43 : decode cX4_add 43 = .ok (.getfield 33, 3) := by decide +kernel
theorem dX4_add_46 : decode cX4_add 46 = .ok (.iload_n 2, 1) := by decide +kernel
theorem dX4_add_47 : decode cX4_add 47 = .ok (.iastore, 1) := by decide +kernel
theorem dX4_add_48 : decode cX4_add 48 = .ok (.aload_n 0, 1) := by decide +kernel
theorem dX4_add_49 : decode cX4_add 49 = .ok (.getfield 30, 3) := by decide +kernel
theorem dX4_add_52 : decode cX4_add 52 = .ok (.aload_n 0, 1) := by decide +kernel
theorem dX4_add_53 : decode cX4_add 53 = .ok (.getfield 33, 3) := by decide +kernel
theorem dX4_add_56 : decode cX4_add 56 = .ok (.aload_n 0, 1) := by decide +kernel
theorem dX4_add_57 : decode cX4_add 57 = .ok (.getfield 9, 3) := by decide +kernel
theorem dX4_add_60 : decode cX4_add 60 = .ok (.iload_n 2, 1) := by decide +kernel
theorem dX4_add_61 : decode cX4_add 61 = .ok (.iaload, 1) := by decide +kernel
theorem dX4_add_62 : decode cX4_add 62 = .ok (.iastore, 1) := by decide +kernel
theorem dX4_add_63 : decode cX4_add 63 = .ok (.aload_n 0, 1) := by decide +kernel
theorem dX4_add_64 : decode cX4_add 64 = .ok (.getfield 9, 3) := by decide +kernel
theorem dX4_add_67 : decode cX4_add 67 = .ok (.iload_n 2, 1) := by decide +kernel
theorem dX4_add_68 : decode cX4_add 68 = .ok (.dup2, 1) := by decide +kernel
theorem dX4_add_69 : decode cX4_add 69 = .ok (.iaload, 1) := by decide +kernel
theorem dX4_add_70 : decode cX4_add 70 = .ok (.iconst 1, 1) := by decide +kernel
theorem dX4_add_71 : decode cX4_add 71 = .ok (.iadd, 1) := by decide +kernel
theorem dX4_add_72 : decode cX4_add 72 = .ok (.iastore, 1) := by decide +kernel
theorem dX4_add_73 : decode cX4_add 73 = .ok (.aload_n 0, 1) := by decide +kernel
theorem dX4_add_74 : decode cX4_add 74 = .ok (.dup, 1) := by decide +kernel
theorem dX4_add_75 : decode cX4_add 75 = .ok (.getfield 33, 3) := by decide +kernel
theorem dX4_add_78 : decode cX4_add 78 = .ok (.iconst 1, 1) := by decide +kernel
theorem dX4_add_79 : decode cX4_add 79 = .ok (.iadd, 1) := by decide +kernel
theorem dX4_add_80 : decode cX4_add 80 = .ok (.putfield 33, 3) := by decide +kernel
theorem dX4_add_83 : decode cX4_add 83 = .ok (.iconst 1, 1) := by decide +kernel
theorem dX4_add_84 : decode cX4_add 84 = .ok (.ireturn, 1) := by decide +kernel
set_option maxRecDepth 20000 in
theorem ggX4_lay_X4_isItem : GoodIn wsX4_lay wsX4_isItem := goodIn_r _ [6] (by decide +kernel) (by decide +kernel)
set_option maxRecDepth 20000 in
theorem gX4_lay_X4_isItem : GoodIn wsX4_lay (va_wsS RX4 37 yX4_isItem wsX4_isItem) := goodIn_app (goodIn_of _ (by decide +kernel)) ggX4_lay_X4_isItem
theorem dX4_lay_0 : decode cX4_lay 0 = .ok (.iload_n 1, 1) := by decide +kernel
theorem dX4_lay_1 : decode cX4_lay 1 = .ok (.invokestatic 37, 3) := by decide +kernel
theorem dX4_lay_4 : decode cX4_lay 4 = .ok (.ifCond .ne 5, 3) := by decide +kernel
theorem dX4_lay_7 : decode cX4_lay 7 = .ok (.iload_n 2, 1) := by decide +kernel
theorem dX4_lay_8 : decode cX4_lay 8 = .ok (.ireturn, 1) := by decide +kernel
theorem dX4_lay_9 : decode cX4_lay 9 = .ok (.aload_n 0, 1) := by decide +kernel
theorem dX4_lay_10 : decode cX4_lay 10 = .ok (.getfield 15, 3) := by decide +kernel
theorem dX4_lay_13 : decode cX4_lay 13 = .ok (.iload_n 1, 1) := by decide +kernel
theorem dX4_lay_14 : decode cX4_lay 14 = .ok (.iload_n 2, 1) := by decide +kernel
theorem dX4_lay_15 : decode cX4_lay 15 = .ok (.iastore, 1) := by decide +kernel
theorem dX4_lay_16 : decode cX4_lay 16 = .ok (.iload_n 2, 1) := by decide +kernel
theorem dX4_lay_17 : decode cX4_lay 17 = .ok (.iconst 4, 1) := by decide +kernel
theorem dX4_lay_18 : decode cX4_lay 18 = .ok (.aload_n 0, 1) := by decide +kernel
theorem dX4_lay_19 : decode cX4_lay 19 = .ok (.getfield 9, 3) := by decide +kernel
theorem dX4_lay_22 : decode cX4_lay 22 = .ok (.iload_n 1, 1) := by decide +kernel
theorem dX4_lay_23 : decode cX4_lay 23 = .ok (.iaload, 1) := by decide +kernel
theorem dX4_lay_24 : decode cX4_lay 24 = .ok (.imul, 1) := by decide +kernel
theorem dX4_lay_25 : decode cX4_lay 25 = .ok (.iadd, 1) := by decide +kernel
theorem dX4_lay_26 : decode cX4_lay 26 = .ok (.ireturn, 1) := by decide +kernel
set_option maxRecDepth 20000 in
theorem ggX4_isIn_X4_isItem : GoodIn wsX4_isIn wsX4_isItem := goodIn_r _ [5] (by decide +kernel) (by decide +kernel)
set_option maxRecDepth 20000 in
theorem gX4_isIn_X4_isItem : GoodIn wsX4_isIn (va_wsS RX4 37 yX4_isItem wsX4_isItem) := goodIn_app (goodIn_of _ (by decide +kernel)) ggX4_isIn_X4_isItem
theorem dX4_isIn_0 : decode cX4_isIn 0 = .ok (.iload_n 1, 1) := by decide +kernel
theorem dX4_isIn_1 : decode cX4_isIn 1 = .ok (.invokestatic 37, 3) := by decide +kernel
theorem dX4_isIn_4 : decode cX4_isIn 4 = .ok (.ifCond .eq 16, 3) := by decide +kernel
theorem dX4_isIn_7 : decode cX4_isIn 7 = .ok (.aload_n 0, 1) := by decide +kernel
theorem dX4_isIn_8 : decode cX4_isIn 8 = .ok (.getfield 9, 3) := by decide +kernel
theorem dX4_isIn_11 : decode cX4_isIn 11 = .ok (.iload_n 1, 1) := by decide +kernel
theorem dX4_isIn_12 : decode cX4_isIn 12 = .ok (.iaload, 1) := by decide +kernel
theorem dX4_isIn_13 : decode cX4_isIn 13 = .ok (.ifCond .le 7, 3) := by decide +kernel
theorem dX4_isIn_16 : decode cX4_isIn 16 = .ok (.iconst 1, 1) := by decide +kernel
theorem dX4_isIn_17 : decode cX4_isIn 17 = .ok (.goto 4, 3) := by decide +kernel
theorem dX4_isIn_20 : decode cX4_isIn 20 = .ok (.iconst 0, 1) := by decide +kernel
theorem dX4_isIn_21 : decode cX4_isIn 21 = .ok (.ireturn, 1) := by decide +kernel
set_option maxRecDepth 20000 in
theorem ggX4_endOf_X4_isItem : GoodIn wsX4_endOf wsX4_isItem := goodIn_r _ [6] (by decide +kernel) (by decide +kernel)
set_option maxRecDepth 20000 in
theorem gX4_endOf_X4_isItem : GoodIn wsX4_endOf (va_wsS RX4 37 yX4_isItem wsX4_isItem) := goodIn_app (goodIn_of _ (by decide +kernel)) ggX4_endOf_X4_isItem
theorem dX4_endOf_0 : decode cX4_endOf 0 = .ok (.iload_n 1, 1) := by decide +kernel
theorem dX4_endOf_1 : decode cX4_endOf 1 = .ok (.invokestatic 37, 3) := by decide +kernel
theorem dX4_endOf_4 : decode cX4_endOf 4 = .ok (.ifCond .eq 21, 3) := by decide +kernel
theorem dX4_endOf_7 : decode cX4_endOf 7 = .ok (.aload_n 0, 1) := by decide +kernel
theorem dX4_endOf_8 : decode cX4_endOf 8 = .ok (.getfield 15, 3) := by decide +kernel
theorem dX4_endOf_11 : decode cX4_endOf 11 = .ok (.iload_n 1, 1) := by decide +kernel
theorem dX4_endOf_12 : decode cX4_endOf 12 = .ok (.iaload, 1) := by decide +kernel
theorem dX4_endOf_13 : decode cX4_endOf 13 = .ok (.iconst 4, 1) := by decide +kernel
theorem dX4_endOf_14 : decode cX4_endOf 14 = .ok (.aload_n 0, 1) := by decide +kernel
theorem dX4_endOf_15 : decode cX4_endOf 15 = .ok (.getfield 9, 3) := by decide +kernel
theorem dX4_endOf_18 : decode cX4_endOf 18 = .ok (.iload_n 1, 1) := by decide +kernel
theorem dX4_endOf_19 : decode cX4_endOf 19 = .ok (.iaload, 1) := by decide +kernel
theorem dX4_endOf_20 : decode cX4_endOf 20 = .ok (.imul, 1) := by decide +kernel
theorem dX4_endOf_21 : decode cX4_endOf 21 = .ok (.iadd, 1) := by decide +kernel
theorem dX4_endOf_22 : decode cX4_endOf 22 = .ok (.goto 4, 3) := by decide +kernel
theorem dX4_endOf_25 : decode cX4_endOf 25 = .ok (.iconst (-1), 1) := by decide +kernel
theorem dX4_endOf_26 : decode cX4_endOf 26 = .ok (.ireturn, 1) := by decide +kernel
set_option maxRecDepth 20000 in
theorem ggX4_nameOf_X4_has : GoodIn wsX4_nameOf wsX4_has := goodIn_r _ [6, 7, 1, 8, 9, 10, 11, 12, 13] (by decide +kernel) (by decide +kernel)
set_option maxRecDepth 20000 in
theorem gX4_nameOf_X4_has : GoodIn wsX4_nameOf (wsV RX4 41 RX4 yX4_has wsX4_has) := goodIn_app (goodIn_of _ (by decide +kernel)) ggX4_nameOf_X4_has
theorem dX4_nameOf_0 : decode cX4_nameOf 0 = .ok (.aload_n 0, 1) := by decide +kernel
theorem dX4_nameOf_1 : decode cX4_nameOf 1 = .ok (.iload_n 1, 1) := by decide +kernel
theorem dX4_nameOf_2 : decode cX4_nameOf 2 = .ok (.invokevirtual 41, 3) := by decide +kernel
theorem dX4_nameOf_5 : decode cX4_nameOf 5 = .ok (.ifCond .eq 12, 3) := by decide +kernel
theorem dX4_nameOf_8 : decode cX4_nameOf 8 = .ok (.aload_n 0, 1) := by decide +kernel
theorem dX4_nameOf_9 : decode cX4_nameOf 9 = .ok (.getfield 24, 3) := by decide +kernel
theorem dX4_nameOf_12 : decode cX4_nameOf 12 = .ok (.iload_n 1, 1) := by decide +kernel
theorem dX4_nameOf_13 : decode cX4_nameOf 13 = .ok (.iaload, 1) := by decide +kernel
theorem dX4_nameOf_14 : decode cX4_nameOf 14 = .ok (.goto 4, 3) := by decide +kernel
theorem dX4_nameOf_17 : decode cX4_nameOf 17 = .ok (.iconst (-1), 1) := by decide +kernel
theorem dX4_nameOf_18 : decode cX4_nameOf 18 = .ok (.ireturn, 1) := by decide +kernel
set_option maxRecDepth 20000 in
theorem ggX4_returnOf_X4_has : GoodIn wsX4_returnOf wsX4_has := goodIn_r _ [6, 7, 8, 9, 10, 11, 12, 13, 14] (by decide +kernel) (by decide +kernel)
set_option maxRecDepth 20000 in
theorem gX4_returnOf_X4_has : GoodIn wsX4_returnOf (wsV RX4 41 RX4 yX4_has wsX4_has) := goodIn_app (goodIn_of _ (by decide +kernel)) ggX4_returnOf_X4_has
theorem dX4_returnOf_0 : decode cX4_returnOf 0 = .ok (.aload_n 0, 1) := by decide +kernel
theorem dX4_returnOf_1 : decode cX4_returnOf 1 = .ok (.iload_n 1, 1) := by decide +kernel
theorem dX4_returnOf_2 : decode cX4_returnOf 2 = .ok (.invokevirtual 41, 3) := by decide +kernel
theorem dX4_returnOf_5 : decode cX4_returnOf 5 = .ok (.ifCond .eq 12, 3) := by decide +kernel
theorem dX4_returnOf_8 : decode cX4_returnOf 8 = .ok (.aload_n 0, 1) := by decide +kernel
theorem dX4_returnOf_9 : decode cX4_returnOf 9 = .ok (.getfield 27, 3) := by decide +kernel
theorem dX4_returnOf_12 : decode cX4_returnOf 12 = .ok (.iload_n 1, 1) := by decide +kernel
theorem dX4_returnOf_13 : decode cX4_returnOf 13 = .ok (.iaload, 1) := by decide +kernel
theorem dX4_returnOf_14 : decode cX4_returnOf 14 = .ok (.goto 4, 3) := by decide +kernel
theorem dX4_returnOf_17 : decode cX4_returnOf 17 = .ok (.iconst (-1), 1) := by decide +kernel
theorem dX4_returnOf_18 : decode cX4_returnOf 18 = .ok (.ireturn, 1) := by decide +kernel
set_option maxRecDepth 20000 in
theorem ggX4_addressOf_X4_has : GoodIn wsX4_addressOf wsX4_has := goodIn_r _ [8, 9, 10, 14, 15, 16, 17, 18, 19] (by decide +kernel) (by decide +kernel)
set_option maxRecDepth 20000 in
theorem gX4_addressOf_X4_has : GoodIn wsX4_addressOf (wsV RX4 41 RX4 yX4_has wsX4_has) := goodIn_app (goodIn_of _ (by decide +kernel)) ggX4_addressOf_X4_has
set_option maxRecDepth 20000 in
theorem ggX4_addressOf_X4_isItem : GoodIn wsX4_addressOf wsX4_isItem := goodIn_r _ [13] (by decide +kernel) (by decide +kernel)
set_option maxRecDepth 20000 in
theorem gX4_addressOf_X4_isItem : GoodIn wsX4_addressOf (va_wsS RX4 37 yX4_isItem wsX4_isItem) := goodIn_app (goodIn_of _ (by decide +kernel)) ggX4_addressOf_X4_isItem
theorem dX4_addressOf_0 : decode cX4_addressOf 0 = .ok (.aload_n 0, 1) := by decide +kernel
theorem dX4_addressOf_1 : decode cX4_addressOf 1 = .ok (.iload_n 1, 1) := by decide +kernel
theorem dX4_addressOf_2 : decode cX4_addressOf 2 = .ok (.invokevirtual 41, 3) := by decide +kernel
theorem dX4_addressOf_5 : decode cX4_addressOf 5 = .ok (.ifCond .ne 5, 3) := by decide +kernel
theorem dX4_addressOf_8 : decode cX4_addressOf 8 = .ok (.iconst (-1), 1) := by decide +kernel
theorem dX4_addressOf_9 : decode cX4_addressOf 9 = .ok (.ireturn, 1) := by decide +kernel
theorem dX4_addressOf_10 : decode cX4_addressOf 10 = .ok (.aload_n 0, 1) := by decide +kernel
theorem dX4_addressOf_11 : decode cX4_addressOf 11 = .ok (.getfield 27, 3) := by decide +kernel
theorem dX4_addressOf_14 : decode cX4_addressOf 14 = .ok (.iload_n 1, 1) := by decide +kernel
theorem dX4_addressOf_15 : decode cX4_addressOf 15 = .ok (.iaload, 1) := by decide +kernel
theorem dX4_addressOf_16 : decode cX4_addressOf 16 = .ok (.istore_n 2, 1) := by decide +kernel
theorem dX4_addressOf_17 : decode cX4_addressOf 17 = .ok (.iload_n 2, 1) := by decide +kernel
theorem dX4_addressOf_18 : decode cX4_addressOf 18 = .ok (.invokestatic 37, 3) := by decide +kernel
theorem dX4_addressOf_21 : decode cX4_addressOf 21 = .ok (.ifCond .eq 21, 3) := by decide +kernel
theorem dX4_addressOf_24 : decode cX4_addressOf 24 = .ok (.aload_n 0, 1) := by decide +kernel
theorem dX4_addressOf_25 : decode cX4_addressOf 25 = .ok (.getfield 15, 3) := by decide +kernel
theorem dX4_addressOf_28 : decode cX4_addressOf 28 = .ok (.iload_n 2, 1) := by decide +kernel
theorem dX4_addressOf_29 : decode cX4_addressOf 29 = .ok (.iaload, 1) := by decide +kernel
theorem dX4_addressOf_30 : decode cX4_addressOf 30 = .ok (.iconst 4, 1) := by decide +kernel
theorem dX4_addressOf_31 : decode cX4_addressOf 31 = .ok (.aload_n 0, 1) := by decide +kernel
theorem dX4_addressOf_32 : decode cX4_addressOf 32 = .ok (.getfield 30, 3) := by decide +kernel
theorem dX4_addressOf_35 : decode cX4_addressOf 35 = .ok (.iload_n 1, 1) := by decide +kernel
theorem dX4_addressOf_36 : decode cX4_addressOf 36 = .ok (.iaload, 1) := by decide +kernel
theorem dX4_addressOf_37 : decode cX4_addressOf 37 = .ok (.imul, 1) := by decide +kernel
theorem dX4_addressOf_38 : decode cX4_addressOf 38 = .ok (.iadd, 1) := by decide +kernel
theorem dX4_addressOf_39 : decode cX4_addressOf 39 = .ok (.goto 4, 3) := by decide +kernel
theorem dX4_addressOf_42 : decode cX4_addressOf 42 = .ok (.iconst (-1), 1) := by decide +kernel
theorem dX4_addressOf_43 : decode cX4_addressOf 43 = .ok (.ireturn, 1) := by decide +kernel
theorem dX4_isItem_0 : decode cX4_isItem 0 = .ok (.iload_n 0, 1) := by decide +kernel
theorem dX4_isItem_1 : decode cX4_isItem 1 = .ok (.ifCond .lt 13, 3) := by decide +kernel
theorem dX4_isItem_4 : decode cX4_isItem 4 = .ok (.iload_n 0, 1) := by decide +kernel
theorem dX4_isItem_5 : decode cX4_isItem 5 = .ok (.bipush 24, 2) := by decide +kernel
theorem dX4_isItem_7 : decode cX4_isItem 7 = .ok (.if_icmp .ge 7, 3) := by decide +kernel
theorem dX4_isItem_10 : decode cX4_isItem 10 = .ok (.iconst 1, 1) := by decide +kernel
theorem dX4_isItem_11 : decode cX4_isItem 11 = .ok (.goto 4, 3) := by decide +kernel
theorem dX4_isItem_14 : decode cX4_isItem 14 = .ok (.iconst 0, 1) := by decide +kernel
theorem dX4_isItem_15 : decode cX4_isItem 15 = .ok (.ireturn, 1) := by decide +kernel
set_option maxRecDepth 20000 in
theorem ggX5_init_X1_init : GoodIn wsX5_init wsX1_init := goodIn_r _ [23, 24, 2, 3, 16, 25, 69, 70] (by decide +kernel) (by decide +kernel)
set_option maxRecDepth 20000 in
theorem gX5_init_X1_init_n11 : GoodIn wsX5_init (wsX1_init) := ggX5_init_X1_init
set_option maxRecDepth 20000 in
theorem ggX5_init_X3_init : GoodIn wsX5_init wsX3_init := goodIn_r _ [27, 28, 2, 3, 29, 13, 14, 30, 31, 32, 33, 16, 34, 35, 82, 83, 84, 85, 78, 79, 80, 81] (by decide +kernel) (by decide +kernel)
set_option maxRecDepth 20000 in
theorem gX5_init_X3_init_n18 : GoodIn wsX5_init (wsX3_init) := ggX5_init_X3_init
set_option maxRecDepth 20000 in
theorem ggX5_init_X0_init : GoodIn wsX5_init wsX0_init := goodIn_r _ [32, 33, 2, 3, 16, 34, 35, 82, 83, 84, 85] (by decide +kernel) (by decide +kernel)
set_option maxRecDepth 20000 in
theorem gX5_init_X0_init_n25 : GoodIn wsX5_init (wsX0_init) := ggX5_init_X0_init
set_option maxRecDepth 20000 in
theorem ggX5_init_X2_init : GoodIn wsX5_init wsX2_init := goodIn_r _ [38, 39, 2, 3, 40, 41, 42, 43, 44, 45, 46, 16, 47, 48, 49, 50, 51, 52, 53, 54, 55, 56, 57, 58, 59, 60, 61, 62, 63, 64, 65, 66, 67, 68, 102, 103, 104, 105, 106, 107, 86, 87, 88, 89, 90, 91, 92, 93, 94, 95, 96, 97, 98, 99, 100, 101] (by decide +kernel) (by decide +kernel)
set_option maxRecDepth 20000 in
theorem gX5_init_X2_init : GoodIn wsX5_init (wsX2_init) := ggX5_init_X2_init
theorem dX5_init_0 : decode cX5_init 0 = .ok (.aload_n 0, 1) := by decide +kernel
theorem dX5_init_1 : decode cX5_init 1 = .ok (.invokespecial 3, 3) := by decide +kernel
theorem dX5_init_4 : decode cX5_init 4 = .ok (.aload_n 0, 1) := by decide +kernel
theorem dX5_init_5 : decode cX5_init 5 = .ok (.new 9, 3) := by decide +kernel
theorem dX5_init_8 : decode cX5_init 8 = .ok (.dup, 1) := by decide +kernel
theorem dX5_init_9 : decode cX5_init 9 = .ok (.invokespecial 11, 3) := by decide +kernel
theorem dX5_init_12 : decode cX5_init 12 = .ok (.putfield 12, 3) := by decide +kernel
theorem dX5_init_15 : decode cX5_init 15 = .ok (.aload_n 0, 1) := by decide +kernel
theorem dX5_init_16 : decode cX5_init 16 = .ok (.new 16, 3) := by decide +kernel
theorem dX5_init_19 : decode cX5_init 19 = .ok (.dup, 1) := by decide +kernel
theorem dX5_init_20 : decode cX5_init 20 = .ok (.invokespecial 18, 3) := by decide +kernel
theorem dX5_init_23 : decode cX5_init 23 = .ok (.putfield 19, 3) := by decide +kernel
theorem dX5_init_26 : decode cX5_init 26 = .ok (.aload_n 0, 1) := by decide +kernel
theorem dX5_init_27 : decode cX5_init 27 = .ok (.new 23, 3) := by decide +kernel
theorem dX5_init_30 : decode cX5_init 30 = .ok (.dup, 1) := by decide +kernel
theorem dX5_init_31 : decode cX5_init 31 = .ok (.invokespecial 25, 3) := by decide +kernel
theorem dX5_init_34 : decode cX5_init 34 = .ok (.putfield 26, 3) := by decide +kernel
theorem dX5_init_37 : decode cX5_init 37 = .ok (.aload_n 0, 1) := by decide +kernel
theorem dX5_init_38 : decode cX5_init 38 = .ok (.iconst 3, 1) := by decide +kernel
theorem dX5_init_39 : decode cX5_init 39 = .ok (.newarray .int, 2) := by decide +kernel
theorem dX5_init_41 : decode cX5_init 41 = .ok (.dup, 1) := by decide +kernel
theorem dX5_init_42 : decode cX5_init 42 = .ok (.iconst 0, 1) := by decide +kernel
theorem dX5_init_43 : decode cX5_init 43 = .ok (.bipush 8, 2) := by decide +kernel
theorem dX5_init_45 : decode cX5_init 45 = .ok (.iastore, 1) := by decide +kernel
theorem dX5_init_46 : decode cX5_init 46 = .ok (.dup, 1) := by decide +kernel
theorem dX5_init_47 : decode cX5_init 47 = .ok (.iconst 1, 1) := by decide +kernel
theorem dX5_init_48 : decode cX5_init 48 = .ok (.bipush 32, 2) := by decide +kernel
theorem dX5_init_50 : decode cX5_init 50 = .ok (.iastore, 1) := by decide +kernel
theorem dX5_init_51 : decode cX5_init 51 = .ok (.dup, 1) := by decide +kernel
theorem dX5_init_52 : decode cX5_init 52 = .ok (.iconst 2, 1) := by decide +kernel
theorem dX5_init_53 : decode cX5_init 53 = .ok (.bipush 24, 2) := by decide +kernel
theorem dX5_init_55 : decode cX5_init 55 = .ok (.iastore, 1) := by decide +kernel
theorem dX5_init_56 : decode cX5_init 56 = .ok (.putfield 30, 3) := by decide +kernel
theorem dX5_init_59 : decode cX5_init 59 = .ok (.aload_n 0, 1) := by decide +kernel
theorem dX5_init_60 : decode cX5_init 60 = .ok (.new 34, 3) := by decide +kernel
theorem dX5_init_63 : decode cX5_init 63 = .ok (.dup, 1) := by decide +kernel
theorem dX5_init_64 : decode cX5_init 64 = .ok (.aload_n 0, 1) := by decide +kernel
theorem dX5_init_65 : decode cX5_init 65 = .ok (.getfield 26, 3) := by decide +kernel
theorem dX5_init_68 : decode cX5_init 68 = .ok (.aload_n 0, 1) := by decide +kernel
theorem dX5_init_69 : decode cX5_init 69 = .ok (.getfield 30, 3) := by decide +kernel
theorem dX5_init_72 : decode cX5_init 72 = .ok (.invokespecial 36, 3) := by decide +kernel
theorem dX5_init_75 : decode cX5_init 75 = .ok (.putfield 39, 3) := by decide +kernel
theorem dX5_init_78 : decode cX5_init 78 = .ok (.return_, 1) := by decide +kernel
set_option maxRecDepth 20000 in
theorem ggX5_letter_X1_append : GoodIn wsX5_letter wsX1_append := goodIn_r _ [6, 7, 8, 20, 21] (by decide +kernel) (by decide +kernel)
set_option maxRecDepth 20000 in
theorem gX5_letter_X1_append : GoodIn wsX5_letter (wsV RX5 43 RX1 yX1_append wsX1_append) := goodIn_app (goodIn_of _ (by decide +kernel)) ggX5_letter_X1_append
set_option maxRecDepth 20000 in
theorem ggX5_letter_X1_length : GoodIn wsX5_letter wsX1_length := goodIn_r _ [12, 7, 20, 21] (by decide +kernel) (by decide +kernel)
set_option maxRecDepth 20000 in
theorem gX5_letter_X1_length : GoodIn wsX5_letter (wsV RX5 47 RX1 yX1_length wsX1_length) := goodIn_app (goodIn_of _ (by decide +kernel)) ggX5_letter_X1_length
theorem dX5_letter_0 : decode cX5_letter 0 = .ok (.iload_n 1, 1) := by decide +kernel
theorem dX5_letter_1 : decode cX5_letter 1 = .ok (.bipush 32, 2) := by decide +kernel
theorem dX5_letter_3 : decode cX5_letter 3 = .ok (.if_icmp .lt 9, 3) := by decide +kernel
theorem dX5_letter_6 : decode cX5_letter 6 = .ok (.iload_n 1, 1) := by decide +kernel
theorem dX5_letter_7 : decode cX5_letter 7 = .ok (.bipush 126, 2) := by decide +kernel
theorem dX5_letter_9 : decode cX5_letter 9 = .ok (.if_icmp .le 7, 3) := by decide +kernel
theorem dX5_letter_12 : decode cX5_letter 12 = .ok (.sipush (-1002), 3) := by decide +kernel
theorem dX5_letter_15 : decode cX5_letter 15 = .ok (.ireturn, 1) := by decide +kernel
theorem dX5_letter_16 : decode cX5_letter 16 = .ok (.aload_n 0, 1) := by decide +kernel
theorem dX5_letter_17 : decode cX5_letter 17 = .ok (.getfield 12, 3) := by decide +kernel
theorem dX5_letter_20 : decode cX5_letter 20 = .ok (.iload_n 1, 1) := by decide +kernel
theorem dX5_letter_21 : decode cX5_letter 21 = .ok (.invokevirtual 43, 3) := by decide +kernel
theorem dX5_letter_24 : decode cX5_letter 24 = .ok (.ifCond .eq 13, 3) := by decide +kernel
theorem dX5_letter_27 : decode cX5_letter 27 = .ok (.aload_n 0, 1) := by decide +kernel
theorem dX5_letter_28 : decode cX5_letter 28 = .ok (.getfield 12, 3) := by decide +kernel
theorem dX5_letter_31 : decode cX5_letter 31 = .ok (.invokevirtual 47, 3) := by decide +kernel
theorem dX5_letter_34 : decode cX5_letter 34 = .ok (.goto 6, 3) := by decide +kernel
theorem dX5_letter_37 : decode cX5_letter 37 = .ok (.sipush (-1004), 3) := by decide +kernel
theorem dX5_letter_40 : decode cX5_letter 40 = .ok (.ireturn, 1) := by decide +kernel
set_option maxRecDepth 20000 in
theorem ggX5_blank_X1_length : GoodIn wsX5_blank wsX1_length := goodIn_r _ [6, 7, 19, 20] (by decide +kernel) (by decide +kernel)
set_option maxRecDepth 20000 in
theorem gX5_blank_X1_length : GoodIn wsX5_blank (wsV RX5 47 RX1 yX1_length wsX1_length) := goodIn_app (goodIn_of _ (by decide +kernel)) ggX5_blank_X1_length
set_option maxRecDepth 20000 in
theorem ggX5_blank_X1_clear : GoodIn wsX5_blank wsX1_clear := goodIn_r _ [11, 7, 19, 20] (by decide +kernel) (by decide +kernel)
set_option maxRecDepth 20000 in
theorem gX5_blank_X1_clear : GoodIn wsX5_blank (wsV RX5 51 RX1 yX1_clear wsX1_clear) := goodIn_app (goodIn_of _ (by decide +kernel)) ggX5_blank_X1_clear
theorem dX5_blank_0 : decode cX5_blank 0 = .ok (.aload_n 0, 1) := by decide +kernel
theorem dX5_blank_1 : decode cX5_blank 1 = .ok (.getfield 12, 3) := by decide +kernel
theorem dX5_blank_4 : decode cX5_blank 4 = .ok (.invokevirtual 47, 3) := by decide +kernel
theorem dX5_blank_7 : decode cX5_blank 7 = .ok (.istore_n 1, 1) := by decide +kernel
theorem dX5_blank_8 : decode cX5_blank 8 = .ok (.aload_n 0, 1) := by decide +kernel
theorem dX5_blank_9 : decode cX5_blank 9 = .ok (.getfield 12, 3) := by decide +kernel
theorem dX5_blank_12 : decode cX5_blank 12 = .ok (.invokevirtual 51, 3) := by decide +kernel
theorem dX5_blank_15 : decode cX5_blank 15 = .ok (.iload_n 1, 1) := by decide +kernel
theorem dX5_blank_16 : decode cX5_blank 16 = .ok (.ireturn, 1) := by decide +kernel
set_option maxRecDepth 20000 in
theorem ggX5_fault_X3_read : GoodIn wsX5_fault wsX3_read := goodIn_r _ [7, 8, 9, 10, 11, 12, 13, 14, 15, 16, 17, 18, 19, 20, 21, 22, 23, 24, 25, 26, 27, 28, 29, 30, 31, 32, 6, 33, 34, 35, 36, 37, 38, 39, 40, 41, 42, 43, 44, 45, 46, 47, 48, 49, 50, 51, 52, 53, 54, 62, 63, 64, 65, 66, 67, 68, 69, 70, 71] (by decide +kernel) (by decide +kernel)
set_option maxRecDepth 20000 in
theorem gX5_fault_X3_read : GoodIn wsX5_fault (wsV RX5 54 RX3 yX3_read wsX3_read) := goodIn_app (goodIn_of _ (by decide +kernel)) ggX5_fault_X3_read
theorem dX5_fault_0 : decode cX5_fault 0 = .ok (.aload_n 0, 1) := by decide +kernel
theorem dX5_fault_1 : decode cX5_fault 1 = .ok (.getfield 19, 3) := by decide +kernel
theorem dX5_fault_4 : decode cX5_fault 4 = .ok (.aload_n 0, 1) := by decide +kernel
theorem dX5_fault_5 : decode cX5_fault 5 = .ok (.getfield 12, 3) := by decide +kernel
theorem dX5_fault_8 : decode cX5_fault 8 = .ok (.invokevirtual 54, 3) := by decide +kernel
theorem dX5_fault_11 : decode cX5_fault 11 = .ok (.ireturn, 1) := by decide +kernel
set_option maxRecDepth 20000 in
theorem ggX5_code_X3_read : GoodIn wsX5_code wsX3_read := goodIn_r _ [10, 11, 12, 13, 14, 15, 16, 17, 18, 19, 20, 21, 22, 23, 24, 25, 26, 27, 28, 29, 30, 31, 32, 33, 34, 35, 9, 36, 37, 38, 39, 40, 41, 42, 43, 44, 45, 46, 47, 48, 49, 50, 51, 52, 53, 54, 55, 56, 57, 273, 274, 275, 276, 277, 278, 279, 280, 281, 282] (by decide +kernel) (by decide +kernel)
set_option maxRecDepth 20000 in
theorem gX5_code_X3_read : GoodIn wsX5_code (wsV RX5 54 RX3 yX3_read wsX3_read) := goodIn_app (goodIn_of _ (by decide +kernel)) ggX5_code_X3_read
set_option maxRecDepth 20000 in
theorem ggX5_code_X1_length : GoodIn wsX5_code wsX1_length := goodIn_r _ [26, 27, 281, 282] (by decide +kernel) (by decide +kernel)
set_option maxRecDepth 20000 in
theorem gX5_code_X1_length : GoodIn wsX5_code (wsV RX5 47 RX1 yX1_length wsX1_length) := goodIn_app (goodIn_of _ (by decide +kernel)) ggX5_code_X1_length
set_option maxRecDepth 20000 in
theorem ggX5_code_X3_isWhole : GoodIn wsX5_code wsX3_isWhole := goodIn_r _ [62, 11, 12, 14, 13, 40, 41, 42, 18, 43, 20, 273, 274, 275, 276, 277, 278, 279, 280] (by decide +kernel) (by decide +kernel)
set_option maxRecDepth 20000 in
theorem gX5_code_X3_isWhole : GoodIn wsX5_code (wsV RX5 58 RX3 yX3_isWhole wsX3_isWhole) := goodIn_app (goodIn_of _ (by decide +kernel)) ggX5_code_X3_isWhole
set_option maxRecDepth 20000 in
theorem ggX5_code_X0_takeFrom : GoodIn wsX5_code wsX0_takeFrom := goodIn_r _ [66, 67, 16, 17, 18, 19, 20, 21, 68, 41, 42, 43, 69, 70, 71, 72, 48, 73, 74, 75, 76, 49, 77, 78, 79, 80, 81, 45, 46, 47, 277, 278, 279, 280] (by decide +kernel) (by decide +kernel)
set_option maxRecDepth 20000 in
theorem gX5_code_X0_takeFrom : GoodIn wsX5_code (wsV RX5 65 RX0 yX0_takeFrom wsX0_takeFrom) := goodIn_app (goodIn_of _ (by decide +kernel)) ggX5_code_X0_takeFrom
set_option maxRecDepth 20000 in
theorem ggX5_code_X1_clear : GoodIn wsX5_code wsX1_clear := goodIn_r _ [85, 27, 281, 282] (by decide +kernel) (by decide +kernel)
set_option maxRecDepth 20000 in
theorem gX5_code_X1_clear : GoodIn wsX5_code (wsV RX5 51 RX1 yX1_clear wsX1_clear) := goodIn_app (goodIn_of _ (by decide +kernel)) ggX5_code_X1_clear
set_option maxRecDepth 20000 in
theorem ggX5_code_X2_placeAll : GoodIn wsX5_code wsX2_placeAll := goodIn_r _ [90, 91, 92, 93, 94, 95, 89, 96, 97, 98, 99, 100, 101, 102, 103, 104, 105, 106, 107, 108, 109, 110, 111, 112, 113, 41, 42, 18, 43, 20, 114, 115, 116, 117, 118, 119, 120, 70, 71, 72, 48, 73, 74, 75, 76, 49, 121, 122, 123, 124, 125, 78, 79, 80, 126, 127, 128, 129, 130, 131, 132, 133, 134, 135, 136, 137, 138, 139, 140, 141, 142, 143, 144, 145, 146, 147, 148, 149, 150, 151, 152, 153, 154, 155, 156, 157, 158, 159, 160, 161, 162, 163, 164, 165, 166, 167, 168, 169, 170, 171, 172, 173, 174, 175, 176, 177, 178, 179, 180, 181, 182, 183, 184, 185, 186, 187, 188, 189, 190, 191, 192, 193, 194, 195, 196, 197, 198, 199, 200, 201, 202, 203, 204, 205, 206, 207, 208, 209, 210, 211, 212, 213, 214, 215, 216, 217, 218, 219, 220, 221, 222, 223, 224, 225, 226, 227, 228, 229, 230, 231, 232, 233, 234, 235, 236, 237, 238, 239, 240, 241, 242, 243, 244, 245, 246, 247, 248, 249, 250, 251, 252, 253, 254, 255, 256, 257, 258, 259, 260, 261, 262, 263, 264, 283, 284, 285, 286, 287, 288, 289, 290, 291, 292, 293, 294, 295, 296, 297, 298, 299, 300, 301, 302, 303, 304, 277, 278, 279, 280] (by decide +kernel) (by decide +kernel)
set_option maxRecDepth 20000 in
theorem gX5_code_X2_placeAll : GoodIn wsX5_code (wsV RX5 73 RX2 yX2_placeAll wsX2_placeAll) := goodIn_app (goodIn_of _ (by decide +kernel)) ggX5_code_X2_placeAll
set_option maxRecDepth 20000 in
theorem ggX5_code_X0_size : GoodIn wsX5_code wsX0_size := goodIn_r _ [43, 20, 277, 278, 279, 280] (by decide +kernel) (by decide +kernel)
set_option maxRecDepth 20000 in
theorem gX5_code_X0_size : GoodIn wsX5_code (wsV RX5 76 RX0 yX0_size wsX0_size) := goodIn_app (goodIn_of _ (by decide +kernel)) ggX5_code_X0_size
theorem dX5_code_0 : decode cX5_code 0 = .ok (.aload_n 0, 1) := by decide +kernel
theorem dX5_code_1 : decode cX5_code 1 = .ok (.getfield 19, 3) := by decide +kernel
theorem dX5_code_4 : decode cX5_code 4 = .ok (.aload_n 0, 1) := by decide +kernel
theorem dX5_code_5 : decode cX5_code 5 = .ok (.getfield 12, 3) := by decide +kernel
theorem dX5_code_8 : decode cX5_code 8 = .ok (.invokevirtual 54, 3) := by decide +kernel
theorem dX5_code_11 : decode cX5_code 11 = .ok (.aload_n 0, 1) := by decide +kernel
theorem dX5_code_12 : decode cX5_code 12 = .ok (.getfield 12, 3) := by decide +kernel
theorem dX5_code_15 : decode cX5_code 15 = .ok (.invokevirtual 47, 3) := by decide +kernel
theorem dX5_code_18 : decode cX5_code 18 = .ok (.if_icmp .lt 13, 3) := by decide +kernel
theorem dX5_code_21 : decode cX5_code 21 = .ok (.aload_n 0, 1) := by decide +kernel
theorem dX5_code_22 : decode cX5_code 22 = .ok (.getfield 19, 3) := by decide +kernel
theorem dX5_code_25 : decode cX5_code 25 = .ok (.invokevirtual 58, 3) := by decide +kernel
theorem dX5_code_28 : decode cX5_code 28 = .ok (.ifCond .ne 7, 3) := by decide +kernel
theorem dX5_code_31 : decode cX5_code 31 = .ok (.sipush (-1003), 3) := by decide +kernel
theorem dX5_code_34 : decode cX5_code 34 = .ok (.ireturn, 1) := by decide +kernel
theorem dX5_code_35 : decode cX5_code 35 = .ok (.aload_n 0, 1) := by decide +kernel
theorem dX5_code_36 : decode cX5_code 36 = .ok (.getfield 26, 3) := by decide +kernel
theorem dX5_code_39 : decode cX5_code 39 = .ok (.aload_n 0, 1) := by decide +kernel
theorem dX5_code_40 : decode cX5_code 40 = .ok (.getfield 19, 3) := by decide +kernel
theorem dX5_code_43 : decode cX5_code 43 = .ok (.getfield 62, 3) := by decide +kernel
theorem dX5_code_46 : decode cX5_code 46 = .ok (.invokevirtual 65, 3) := by decide +kernel
theorem dX5_code_49 : decode cX5_code 49 = .ok (.aload_n 0, 1) := by decide +kernel
theorem dX5_code_50 : decode cX5_code 50 = .ok (.getfield 12, 3) := by decide +kernel
theorem dX5_code_53 : decode cX5_code 53 = .ok (.invokevirtual 51, 3) := by decide +kernel
theorem dX5_code_56 : decode cX5_code 56 = .ok (.aload_n 0, 1) := by decide +kernel
theorem dX5_code_57 : decode cX5_code 57 = .ok (.dup, 1) := by decide +kernel
theorem dX5_code_58 : decode cX5_code 58 = .ok (.getfield 69, 3) := by decide +kernel
theorem dX5_code_61 : decode cX5_code 61 = .ok (.iconst 1, 1) := by decide +kernel
theorem dX5_code_62 : decode cX5_code 62 = .ok (.iadd, 1) := by decide +kernel
theorem dX5_code_63 : decode cX5_code 63 = .ok (.putfield 69, 3) := by decide +kernel
theorem dX5_code_66 : decode cX5_code 66 = .ok (.aload_n 0, 1) := by decide +kernel
theorem dX5_code_67 : decode cX5_code 67 = .ok (.getfield 39, 3) := by decide +kernel
theorem dX5_code_70 : decode cX5_code 70 = .ok (.invokevirtual 73, 3) := by decide +kernel
theorem dX5_code_73 : decode cX5_code 73 = .ok (.aload_n 0, 1) := by decide +kernel
theorem dX5_code_74 : decode cX5_code 74 = .ok (.getfield 26, 3) := by decide +kernel
theorem dX5_code_77 : decode cX5_code 77 = .ok (.invokevirtual 76, 3) := by decide +kernel
theorem dX5_code_80 : decode cX5_code 80 = .ok (.ireturn, 1) := by decide +kernel
set_option maxRecDepth 20000 in
theorem ggX5_reach_X2_placeAll : GoodIn wsX5_reach wsX2_placeAll := goodIn_r _ [10, 11, 12, 13, 14, 15, 9, 16, 17, 18, 19, 20, 21, 22, 23, 24, 25, 26, 27, 28, 29, 30, 31, 32, 33, 34, 35, 36, 37, 38, 39, 40, 41, 42, 43, 44, 45, 46, 47, 48, 49, 50, 51, 52, 53, 54, 55, 56, 57, 58, 59, 60, 61, 62, 63, 64, 65, 66, 67, 68, 69, 70, 71, 72, 73, 74, 75, 76, 77, 78, 79, 80, 81, 82, 83, 84, 85, 86, 87, 88, 89, 90, 91, 92, 93, 94, 95, 96, 97, 98, 99, 100, 101, 102, 103, 104, 105, 106, 107, 108, 109, 110, 111, 112, 113, 114, 115, 116, 117, 118, 119, 120, 121, 122, 123, 124, 125, 126, 127, 128, 129, 130, 131, 132, 133, 134, 135, 136, 137, 138, 139, 140, 141, 142, 143, 144, 145, 146, 147, 148, 149, 150, 151, 152, 153, 154, 155, 156, 157, 158, 159, 160, 161, 162, 163, 164, 165, 166, 167, 168, 169, 170, 171, 172, 173, 174, 175, 176, 177, 178, 179, 180, 181, 182, 183, 184, 185, 186, 187, 188, 189, 190, 191, 192, 193, 194, 195, 196, 197, 198, 199, 200, 201, 209, 210, 211, 212, 213, 214, 215, 216, 217, 218, 219, 220, 221, 222, 223, 224, 225, 226, 227, 228, 229, 230, 231, 232, 233, 234] (by decide +kernel) (by decide +kernel)
set_option maxRecDepth 20000 in
theorem gX5_reach_X2_placeAll : GoodIn wsX5_reach (wsV RX5 73 RX2 yX2_placeAll wsX2_placeAll) := goodIn_app (goodIn_of _ (by decide +kernel)) ggX5_reach_X2_placeAll
theorem dX5_reach_0 : decode cX5_reach 0 = .ok (.iload_n 1, 1) := by decide +kernel
theorem dX5_reach_1 : decode cX5_reach 1 = .ok (.ifCond .lt 8, 3) := by decide +kernel
theorem dX5_reach_4 : decode cX5_reach 4 = .ok (.iload_n 1, 1) := by decide +kernel
theorem dX5_reach_5 : decode cX5_reach 5 = .ok (.iconst 2, 1) := by decide +kernel
theorem dX5_reach_6 : decode cX5_reach 6 = .ok (.if_icmp .le 7, 3) := by decide +kernel
theorem dX5_reach_9 : decode cX5_reach 9 = .ok (.sipush (-1002), 3) := by decide +kernel
theorem dX5_reach_12 : decode cX5_reach 12 = .ok (.ireturn, 1) := by decide +kernel
theorem dX5_reach_13 : decode cX5_reach 13 = .ok (.iload_n 2, 1) := by decide +kernel
theorem dX5_reach_14 : decode cX5_reach 14 = .ok (.getstatic 79, 3) := by decide +kernel
theorem dX5_reach_17 : decode cX5_reach 17 = .ok (.iload_n 1, 1) := by decide +kernel
theorem dX5_reach_18 : decode cX5_reach 18 = .ok (.iaload, 1) := by decide +kernel
theorem dX5_reach_19 : decode cX5_reach 19 = .ok (.if_icmp .lt 12, 3) := by decide +kernel
theorem dX5_reach_22 : decode cX5_reach 22 = .ok (.iload_n 2, 1) := by decide +kernel
theorem dX5_reach_23 : decode cX5_reach 23 = .ok (.getstatic 82, 3) := by decide +kernel
theorem dX5_reach_26 : decode cX5_reach 26 = .ok (.iload_n 1, 1) := by decide +kernel
theorem dX5_reach_27 : decode cX5_reach 27 = .ok (.iaload, 1) := by decide +kernel
theorem dX5_reach_28 : decode cX5_reach 28 = .ok (.if_icmp .le 7, 3) := by decide +kernel
theorem dX5_reach_31 : decode cX5_reach 31 = .ok (.sipush (-1002), 3) := by decide +kernel
theorem dX5_reach_34 : decode cX5_reach 34 = .ok (.ireturn, 1) := by decide +kernel
theorem dX5_reach_35 : decode cX5_reach 35 = .ok (.aload_n 0, 1) := by decide +kernel
theorem dX5_reach_36 : decode cX5_reach 36 = .ok (.getfield 30, 3) := by decide +kernel
theorem dX5_reach_39 : decode cX5_reach 39 = .ok (.iload_n 1, 1) := by decide +kernel
theorem dX5_reach_40 : decode cX5_reach 40 = .ok (.iaload, 1) := by decide +kernel
theorem dX5_reach_41 : decode cX5_reach 41 = .ok (.istore_n 3, 1) := by decide +kernel
theorem dX5_reach_42 : decode cX5_reach 42 = .ok (.aload_n 0, 1) := by decide +kernel
theorem dX5_reach_43 : decode cX5_reach 43 = .ok (.getfield 30, 3) := by decide +kernel
theorem dX5_reach_46 : decode cX5_reach 46 = .ok (.iload_n 1, 1) := by decide +kernel
theorem dX5_reach_47 : decode cX5_reach 47 = .ok (.iload_n 2, 1) := by decide +kernel
theorem dX5_reach_48 : decode cX5_reach 48 = .ok (.iastore, 1) := by decide +kernel
theorem dX5_reach_49 : decode cX5_reach 49 = .ok (.aload_n 0, 1) := by decide +kernel
theorem dX5_reach_50 : decode cX5_reach 50 = .ok (.dup, 1) := by decide +kernel
theorem dX5_reach_51 : decode cX5_reach 51 = .ok (.getfield 85, 3) := by decide +kernel
theorem dX5_reach_54 : decode cX5_reach 54 = .ok (.iconst 1, 1) := by decide +kernel
theorem dX5_reach_55 : decode cX5_reach 55 = .ok (.iadd, 1) := by decide +kernel
theorem dX5_reach_56 : decode cX5_reach 56 = .ok (.putfield 85, 3) := by decide +kernel
theorem dX5_reach_59 : decode cX5_reach 59 = .ok (.aload_n 0, 1) := by decide +kernel
theorem dX5_reach_60 : decode cX5_reach 60 = .ok (.getfield 39, 3) := by decide +kernel
theorem dX5_reach_63 : decode cX5_reach 63 = .ok (.invokevirtual 73, 3) := by decide +kernel
theorem dX5_reach_66 : decode cX5_reach 66 = .ok (.iload_n 3, 1) := by decide +kernel
theorem dX5_reach_67 : decode cX5_reach 67 = .ok (.ireturn, 1) := by decide +kernel
set_option maxRecDepth 20000 in
theorem ggX5_grow_X0_has : GoodIn wsX5_grow wsX0_has := goodIn_r _ [8, 9, 10, 11, 214, 215, 216, 217] (by decide +kernel) (by decide +kernel)
set_option maxRecDepth 20000 in
theorem gX5_grow_X0_has : GoodIn wsX5_grow (wsV RX5 88 RX0 yX0_has wsX0_has) := goodIn_app (goodIn_of _ (by decide +kernel)) ggX5_grow_X0_has
set_option maxRecDepth 20000 in
theorem ggX5_grow_X0_kindOf : GoodIn wsX5_grow wsX0_kindOf := goodIn_r _ [15, 10, 16, 5, 6, 7, 8, 9, 11, 214, 215, 216, 217] (by decide +kernel) (by decide +kernel)
set_option maxRecDepth 20000 in
theorem gX5_grow_X0_kindOf : GoodIn wsX5_grow (wsV RX5 91 RX0 yX0_kindOf wsX0_kindOf) := goodIn_app (goodIn_of _ (by decide +kernel)) ggX5_grow_X0_kindOf
set_option maxRecDepth 20000 in
theorem ggX5_grow_X0_toldOf : GoodIn wsX5_grow wsX0_toldOf := goodIn_r _ [20, 11, 16, 5, 6, 7, 8, 9, 10, 214, 215, 216, 217] (by decide +kernel) (by decide +kernel)
set_option maxRecDepth 20000 in
theorem gX5_grow_X0_toldOf : GoodIn wsX5_grow (wsV RX5 95 RX0 yX0_toldOf wsX0_toldOf) := goodIn_app (goodIn_of _ (by decide +kernel)) ggX5_grow_X0_toldOf
set_option maxRecDepth 20000 in
theorem ggX5_grow_X0_tell : GoodIn wsX5_grow wsX0_tell := goodIn_r _ [24, 11, 16, 5, 6, 7, 8, 9, 10, 214, 215, 216, 217] (by decide +kernel) (by decide +kernel)
set_option maxRecDepth 20000 in
theorem gX5_grow_X0_tell : GoodIn wsX5_grow (wsV RX5 98 RX0 yX0_tell wsX0_tell) := goodIn_app (goodIn_of _ (by decide +kernel)) ggX5_grow_X0_tell
set_option maxRecDepth 20000 in
theorem ggX5_grow_X2_placeAll : GoodIn wsX5_grow wsX2_placeAll := goodIn_r _ [29, 30, 31, 32, 33, 34, 28, 35, 36, 37, 38, 39, 40, 41, 42, 43, 44, 45, 46, 47, 48, 49, 50, 51, 52, 53, 54, 7, 55, 9, 56, 57, 58, 59, 60, 61, 62, 13, 14, 15, 10, 16, 5, 6, 8, 11, 63, 64, 65, 66, 67, 18, 19, 20, 68, 69, 70, 71, 72, 73, 74, 75, 76, 77, 78, 79, 80, 81, 82, 83, 84, 85, 86, 87, 88, 89, 90, 91, 92, 93, 94, 95, 96, 97, 98, 99, 100, 101, 102, 103, 104, 105, 106, 107, 108, 109, 110, 111, 112, 113, 114, 115, 116, 117, 118, 119, 120, 121, 122, 123, 124, 125, 126, 127, 128, 129, 130, 131, 132, 133, 134, 135, 136, 137, 138, 139, 140, 141, 142, 143, 144, 145, 146, 147, 148, 149, 150, 151, 152, 153, 154, 155, 156, 157, 158, 159, 160, 161, 162, 163, 164, 165, 166, 167, 168, 169, 170, 171, 172, 173, 174, 175, 176, 177, 178, 179, 180, 181, 182, 183, 184, 185, 186, 187, 188, 189, 190, 191, 192, 193, 194, 195, 196, 197, 198, 199, 200, 201, 202, 203, 204, 205, 206, 218, 219, 220, 221, 222, 223, 224, 225, 226, 227, 228, 229, 230, 231, 232, 233, 234, 235, 236, 237, 238, 239, 214, 215, 216, 217] (by decide +kernel) (by decide +kernel)
set_option maxRecDepth 20000 in
theorem gX5_grow_X2_placeAll : GoodIn wsX5_grow (wsV RX5 73 RX2 yX2_placeAll wsX2_placeAll) := goodIn_app (goodIn_of _ (by decide +kernel)) ggX5_grow_X2_placeAll
theorem dX5_grow_0 : decode cX5_grow 0 = .ok (.aload_n 0, 1) := by decide +kernel
theorem dX5_grow_1 : decode cX5_grow 1 = .ok (.getfield 26, 3) := by decide +kernel
theorem dX5_grow_4 : decode cX5_grow 4 = .ok (.iload_n 1, 1) := by decide +kernel
theorem dX5_grow_5 : decode cX5_grow 5 = .ok (.invokevirtual 88, 3) := by decide +kernel
theorem dX5_grow_8 : decode cX5_grow 8 = .ok (.ifCond .ne 7, 3) := by decide +kernel
theorem dX5_grow_11 : decode cX5_grow 11 = .ok (.sipush (-1001), 3) := by decide +kernel
theorem dX5_grow_14 : decode cX5_grow 14 = .ok (.ireturn, 1) := by decide +kernel
theorem dX5_grow_15 : decode cX5_grow 15 = .ok (.iload_n 2, 1) := by decide +kernel
theorem dX5_grow_16 : decode cX5_grow 16 = .ok (.iconst 1, 1) := by decide +kernel
theorem dX5_grow_17 : decode cX5_grow 17 = .ok (.if_icmp .lt 9, 3) := by decide +kernel
theorem dX5_grow_20 : decode cX5_grow 20 = .ok (.iload_n 2, 1) := by decide +kernel
theorem dX5_grow_21 : decode cX5_grow 21 = .ok (.bipush 40, 2) := by decide +kernel
theorem dX5_grow_23 : decode cX5_grow 23 = .ok (.if_icmp .le 7, 3) := by decide +kernel
theorem dX5_grow_26 : decode cX5_grow 26 = .ok (.sipush (-1002), 3) := by decide +kernel
theorem dX5_grow_29 : decode cX5_grow 29 = .ok (.ireturn, 1) := by decide +kernel
theorem dX5_grow_30 : decode cX5_grow 30 = .ok (.aload_n 0, 1) := by decide +kernel
theorem dX5_grow_31 : decode cX5_grow 31 = .ok (.getfield 26, 3) := by decide +kernel
theorem dX5_grow_34 : decode cX5_grow 34 = .ok (.iload_n 1, 1) := by decide +kernel
theorem dX5_grow_35 : decode cX5_grow 35 = .ok (.invokevirtual 91, 3) := by decide +kernel
theorem dX5_grow_38 : decode cX5_grow 38 = .ok (.ifCond .eq 7, 3) := by decide +kernel
theorem dX5_grow_41 : decode cX5_grow 41 = .ok (.sipush (-1003), 3) := by decide +kernel
theorem dX5_grow_44 : decode cX5_grow 44 = .ok (.ireturn, 1) := by decide +kernel
theorem dX5_grow_45 : decode cX5_grow 45 = .ok (.aload_n 0, 1) := by decide +kernel
theorem dX5_grow_46 : decode cX5_grow 46 = .ok (.getfield 26, 3) := by decide +kernel
theorem dX5_grow_49 : decode cX5_grow 49 = .ok (.iload_n 1, 1) := by decide +kernel
theorem dX5_grow_50 : decode cX5_grow 50 = .ok (.invokevirtual 95, 3) := by decide +kernel
theorem dX5_grow_53 : decode cX5_grow 53 = .ok (.istore_n 3, 1) := by decide +kernel
theorem dX5_grow_54 : decode cX5_grow 54 = .ok (.aload_n 0, 1) := by decide +kernel
theorem dX5_grow_55 : decode cX5_grow 55 = .ok (.getfield 26, 3) := by decide +kernel
theorem dX5_grow_58 : decode cX5_grow 58 = .ok (.iload_n 1, 1) := by decide +kernel
theorem dX5_grow_59 : decode cX5_grow 59 = .ok (.iload_n 2, 1) := by decide +kernel
theorem dX5_grow_60 : decode cX5_grow 60 = .ok (.invokevirtual 98, 3) := by decide +kernel
theorem dX5_grow_63 : decode cX5_grow 63 = .ok (.aload_n 0, 1) := by decide +kernel
theorem dX5_grow_64 : decode cX5_grow 64 = .ok (.dup, 1) := by decide +kernel
theorem dX5_grow_65 : decode cX5_grow 65 = .ok (.getfield 85, 3) := by decide +kernel
theorem dX5_grow_68 : decode cX5_grow 68 = .ok (.iconst 1, 1) := by decide +kernel
theorem dX5_grow_69 : decode cX5_grow 69 = .ok (.iadd, 1) := by decide +kernel
theorem dX5_grow_70 : decode cX5_grow 70 = .ok (.putfield 85, 3) := by decide +kernel
theorem dX5_grow_73 : decode cX5_grow 73 = .ok (.aload_n 0, 1) := by decide +kernel
theorem dX5_grow_74 : decode cX5_grow 74 = .ok (.getfield 39, 3) := by decide +kernel
theorem dX5_grow_77 : decode cX5_grow 77 = .ok (.invokevirtual 73, 3) := by decide +kernel
theorem dX5_grow_80 : decode cX5_grow 80 = .ok (.iload_n 3, 1) := by decide +kernel
theorem dX5_grow_81 : decode cX5_grow 81 = .ok (.ireturn, 1) := by decide +kernel
set_option maxRecDepth 20000 in
theorem ggX5_item_X0_has : GoodIn wsX5_item wsX0_has := goodIn_r _ [7, 8, 9, 10, 48, 49, 50, 51] (by decide +kernel) (by decide +kernel)
set_option maxRecDepth 20000 in
theorem gX5_item_X0_has : GoodIn wsX5_item (wsV RX5 88 RX0 yX0_has wsX0_has) := goodIn_app (goodIn_of _ (by decide +kernel)) ggX5_item_X0_has
set_option maxRecDepth 20000 in
theorem ggX5_item_X0_kindOf : GoodIn wsX5_item wsX0_kindOf := goodIn_r _ [14, 9, 15, 4, 5, 6, 7, 8, 10, 48, 49, 50, 51] (by decide +kernel) (by decide +kernel)
set_option maxRecDepth 20000 in
theorem gX5_item_X0_kindOf : GoodIn wsX5_item (wsV RX5 91 RX0 yX0_kindOf wsX0_kindOf) := goodIn_app (goodIn_of _ (by decide +kernel)) ggX5_item_X0_kindOf
set_option maxRecDepth 20000 in
theorem ggX5_item_X0_toldOf : GoodIn wsX5_item wsX0_toldOf := goodIn_r _ [19, 10, 15, 4, 5, 6, 7, 8, 9, 48, 49, 50, 51] (by decide +kernel) (by decide +kernel)
set_option maxRecDepth 20000 in
theorem gX5_item_X0_toldOf : GoodIn wsX5_item (wsV RX5 95 RX0 yX0_toldOf wsX0_toldOf) := goodIn_app (goodIn_of _ (by decide +kernel)) ggX5_item_X0_toldOf
set_option maxRecDepth 20000 in
theorem ggX5_item_X2_addressOf : GoodIn wsX5_item wsX2_addressOf := goodIn_r _ [24, 25, 52, 53, 54, 55, 56, 57, 58, 59, 60, 61, 62, 63, 64, 65, 66, 67] (by decide +kernel) (by decide +kernel)
set_option maxRecDepth 20000 in
theorem gX5_item_X2_addressOf : GoodIn wsX5_item (wsV RX5 102 RX2 yX2_addressOf wsX2_addressOf) := goodIn_app (goodIn_of _ (by decide +kernel)) ggX5_item_X2_addressOf
set_option maxRecDepth 20000 in
theorem ggX5_item_X2_sizeOf : GoodIn wsX5_item wsX2_sizeOf := goodIn_r _ [29, 30, 52, 53, 54, 55, 56, 57, 58, 59, 60, 61, 62, 63, 64, 65, 66, 67] (by decide +kernel) (by decide +kernel)
set_option maxRecDepth 20000 in
theorem gX5_item_X2_sizeOf : GoodIn wsX5_item (wsV RX5 105 RX2 yX2_sizeOf wsX2_sizeOf) := goodIn_app (goodIn_of _ (by decide +kernel)) ggX5_item_X2_sizeOf
set_option maxRecDepth 20000 in
theorem ggX5_item_X2_isLong : GoodIn wsX5_item wsX2_isLong := goodIn_r _ [34, 35, 52, 53, 54, 55, 56, 57, 58, 59, 60, 61, 62, 63, 64, 65, 66, 67] (by decide +kernel) (by decide +kernel)
set_option maxRecDepth 20000 in
theorem gX5_item_X2_isLong : GoodIn wsX5_item (wsV RX5 108 RX2 yX2_isLong wsX2_isLong) := goodIn_app (goodIn_of _ (by decide +kernel)) ggX5_item_X2_isLong
set_option maxRecDepth 20000 in
theorem ggX5_item_X2_aimOf : GoodIn wsX5_item wsX2_aimOf := goodIn_r _ [39, 40, 52, 53, 54, 55, 56, 57, 58, 59, 60, 61, 62, 63, 64, 65, 66, 67] (by decide +kernel) (by decide +kernel)
set_option maxRecDepth 20000 in
theorem gX5_item_X2_aimOf : GoodIn wsX5_item (wsV RX5 111 RX2 yX2_aimOf wsX2_aimOf) := goodIn_app (goodIn_of _ (by decide +kernel)) ggX5_item_X2_aimOf
theorem dX5_item_0 : decode cX5_item 0 = .ok (.aload_n 0, 1) := by decide +kernel
theorem dX5_item_1 : decode cX5_item 1 = .ok (.getfield 26, 3) := by decide +kernel
theorem dX5_item_4 : decode cX5_item 4 = .ok (.iload_n 1, 1) := by decide +kernel
theorem dX5_item_5 : decode cX5_item 5 = .ok (.invokevirtual 88, 3) := by decide +kernel
theorem dX5_item_8 : decode cX5_item 8 = .ok (.ifCond .ne 7, 3) := by decide +kernel
theorem dX5_item_11 : decode cX5_item 11 = .ok (.sipush (-1001), 3) := by decide +kernel
theorem dX5_item_14 : decode cX5_item 14 = .ok (.ireturn, 1) := by decide +kernel
theorem dX5_item_15 : decode cX5_item 15 = .ok (.iload_n 2, 1) := by decide +kernel
theorem dX5_item_16 : decode cX5_item 16 = .ok (.tableswitch 102 0 5 #[40, 49, 58, 67, 76, 93], 40) := by decide +kernel
theorem dX5_item_56 : decode cX5_item 56 = .ok (.aload_n 0, 1) := by decide +kernel
theorem dX5_item_57 : decode cX5_item 57 = .ok (.getfield 26, 3) := by decide +kernel
theorem dX5_item_60 : decode cX5_item 60 = .ok (.iload_n 1, 1) := by decide +kernel
theorem dX5_item_61 : decode cX5_item 61 = .ok (.invokevirtual 91, 3) := by decide +kernel
theorem dX5_item_64 : decode cX5_item 64 = .ok (.ireturn, 1) := by decide +kernel
theorem dX5_item_65 : decode cX5_item 65 = .ok (.aload_n 0, 1) := by decide +kernel
theorem dX5_item_66 : decode cX5_item 66 = .ok (.getfield 26, 3) := by decide +kernel
theorem dX5_item_69 : decode cX5_item 69 = .ok (.iload_n 1, 1) := by decide +kernel
theorem dX5_item_70 : decode cX5_item 70 = .ok (.invokevirtual 95, 3) := by decide +kernel
theorem dX5_item_73 : decode cX5_item 73 = .ok (.ireturn, 1) := by decide +kernel
theorem dX5_item_74 : decode cX5_item 74 = .ok (.aload_n 0, 1) := by decide +kernel
theorem dX5_item_75 : decode cX5_item 75 = .ok (.getfield 39, 3) := by decide +kernel
theorem dX5_item_78 : decode cX5_item 78 = .ok (.iload_n 1, 1) := by decide +kernel
theorem dX5_item_79 : decode cX5_item 79 = .ok (.invokevirtual 102, 3) := by decide +kernel
theorem dX5_item_82 : decode cX5_item 82 = .ok (.ireturn, 1) := by decide +kernel
theorem dX5_item_83 : decode cX5_item 83 = .ok (.aload_n 0, 1) := by decide +kernel
theorem dX5_item_84 : decode cX5_item 84 = .ok (.getfield 39, 3) := by decide +kernel
theorem dX5_item_87 : decode cX5_item 87 = .ok (.iload_n 1, 1) := by decide +kernel
theorem dX5_item_88 : decode cX5_item 88 = .ok (.invokevirtual 105, 3) := by decide +kernel
theorem dX5_item_91 : decode cX5_item 91 = .ok (.ireturn, 1) := by decide +kernel
theorem dX5_item_92 : decode cX5_item 92 = .ok (.aload_n 0, 1) := by decide +kernel
theorem dX5_item_93 : decode cX5_item 93 = .ok (.getfield 39, 3) := by decide +kernel
theorem dX5_item_96 : decode cX5_item 96 = .ok (.iload_n 1, 1) := by decide +kernel
theorem dX5_item_97 : decode cX5_item 97 = .ok (.invokevirtual 108, 3) := by decide +kernel
theorem dX5_item_100 : decode cX5_item 100 = .ok (.ifCond .eq 7, 3) := by decide +kernel
theorem dX5_item_103 : decode cX5_item 103 = .ok (.iconst 1, 1) := by decide +kernel
theorem dX5_item_104 : decode cX5_item 104 = .ok (.goto 4, 3) := by decide +kernel
theorem dX5_item_107 : decode cX5_item 107 = .ok (.iconst 0, 1) := by decide +kernel
theorem dX5_item_108 : decode cX5_item 108 = .ok (.ireturn, 1) := by decide +kernel
theorem dX5_item_109 : decode cX5_item 109 = .ok (.aload_n 0, 1) := by decide +kernel
theorem dX5_item_110 : decode cX5_item 110 = .ok (.getfield 39, 3) := by decide +kernel
theorem dX5_item_113 : decode cX5_item 113 = .ok (.iload_n 1, 1) := by decide +kernel
theorem dX5_item_114 : decode cX5_item 114 = .ok (.invokevirtual 111, 3) := by decide +kernel
theorem dX5_item_117 : decode cX5_item 117 = .ok (.ireturn, 1) := by decide +kernel
theorem dX5_item_118 : decode cX5_item 118 = .ok (.sipush (-1002), 3) := by decide +kernel
theorem dX5_item_121 : decode cX5_item 121 = .ok (.ireturn, 1) := by decide +kernel
set_option maxRecDepth 20000 in
theorem ggX5_island_X4_has : GoodIn wsX5_island wsX4_has := goodIn_r _ [6, 7, 8, 57, 58, 59, 60, 61, 62] (by decide +kernel) (by decide +kernel)
set_option maxRecDepth 20000 in
theorem gX5_island_X4_has : GoodIn wsX5_island (wsV RX5 118 RX4 yX4_has wsX4_has) := goodIn_app (goodIn_of _ (by decide +kernel)) ggX5_island_X4_has
set_option maxRecDepth 20000 in
theorem ggX5_island_X4_nameOf : GoodIn wsX5_island wsX4_nameOf := goodIn_r _ [12, 8, 13, 3, 4, 5, 6, 7, 57, 58, 59, 60, 61, 62] (by decide +kernel) (by decide +kernel)
set_option maxRecDepth 20000 in
theorem gX5_island_X4_nameOf : GoodIn wsX5_island (wsV RX5 121 RX4 yX4_nameOf wsX4_nameOf) := goodIn_app (goodIn_of _ (by decide +kernel)) ggX5_island_X4_nameOf
set_option maxRecDepth 20000 in
theorem ggX5_island_X4_returnOf : GoodIn wsX5_island wsX4_returnOf := goodIn_r _ [17, 18, 13, 3, 4, 5, 6, 7, 8, 57, 58, 59, 60, 61, 62] (by decide +kernel) (by decide +kernel)
set_option maxRecDepth 20000 in
theorem gX5_island_X4_returnOf : GoodIn wsX5_island (wsV RX5 124 RX4 yX4_returnOf wsX4_returnOf) := goodIn_app (goodIn_of _ (by decide +kernel)) ggX5_island_X4_returnOf
set_option maxRecDepth 20000 in
theorem ggX5_island_X4_addressOf : GoodIn wsX5_island wsX4_addressOf := goodIn_r _ [22, 18, 23, 24, 13, 3, 4, 5, 6, 7, 8, 25, 26, 27, 57, 58, 59, 60, 61, 62] (by decide +kernel) (by decide +kernel)
set_option maxRecDepth 20000 in
theorem gX5_island_X4_addressOf : GoodIn wsX5_island (wsV RX5 127 RX4 yX4_addressOf wsX4_addressOf) := goodIn_app (goodIn_of _ (by decide +kernel)) ggX5_island_X4_addressOf
set_option maxRecDepth 20000 in
theorem ggX5_island_X2_islandAimOf : GoodIn wsX5_island wsX2_islandAimOf := goodIn_r _ [32, 33, 41, 42, 43, 44, 45, 46, 47, 48, 49, 50, 51, 52, 53, 54, 55, 56] (by decide +kernel) (by decide +kernel)
set_option maxRecDepth 20000 in
theorem gX5_island_X2_islandAimOf : GoodIn wsX5_island (wsV RX5 128 RX2 yX2_islandAimOf wsX2_islandAimOf) := goodIn_app (goodIn_of _ (by decide +kernel)) ggX5_island_X2_islandAimOf
theorem dX5_island_0 : decode cX5_island 0 = .ok (.aload_n 0, 1) := by decide +kernel
theorem dX5_island_1 : decode cX5_island 1 = .ok (.getfield 39, 3) := by decide +kernel
theorem dX5_island_4 : decode cX5_island 4 = .ok (.getfield 114, 3) := by decide +kernel
theorem dX5_island_7 : decode cX5_island 7 = .ok (.astore_n 3, 1) := by decide +kernel
theorem dX5_island_8 : decode cX5_island 8 = .ok (.aload_n 3, 1) := by decide +kernel
theorem dX5_island_9 : decode cX5_island 9 = .ok (.iload_n 1, 1) := by decide +kernel
theorem dX5_island_10 : decode cX5_island 10 = .ok (.invokevirtual 118, 3) := by decide +kernel
theorem dX5_island_13 : decode cX5_island 13 = .ok (.ifCond .ne 7, 3) := by decide +kernel
theorem dX5_island_16 : decode cX5_island 16 = .ok (.sipush (-1001), 3) := by decide +kernel
theorem dX5_island_19 : decode cX5_island 19 = .ok (.ireturn, 1) := by decide +kernel
theorem dX5_island_20 : decode cX5_island 20 = .ok (.iload_n 2, 1) := by decide +kernel
theorem dX5_island_21 : decode cX5_island 21 = .ok (.tableswitch 58 0 3 #[31, 37, 43, 49], 31) := by decide +kernel
theorem dX5_island_52 : decode cX5_island 52 = .ok (.aload_n 3, 1) := by decide +kernel
theorem dX5_island_53 : decode cX5_island 53 = .ok (.iload_n 1, 1) := by decide +kernel
theorem dX5_island_54 : decode cX5_island 54 = .ok (.invokevirtual 121, 3) := by decide +kernel
theorem dX5_island_57 : decode cX5_island 57 = .ok (.ireturn, 1) := by decide +kernel
theorem dX5_island_58 : decode cX5_island 58 = .ok (.aload_n 3, 1) := by decide +kernel
theorem dX5_island_59 : decode cX5_island 59 = .ok (.iload_n 1, 1) := by decide +kernel
theorem dX5_island_60 : decode cX5_island 60 = .ok (.invokevirtual 124, 3) := by decide +kernel
theorem dX5_island_63 : decode cX5_island 63 = .ok (.ireturn, 1) := by decide +kernel
theorem dX5_island_64 : decode cX5_island 64 = .ok (.aload_n 3, 1) := by decide +kernel
theorem dX5_island_65 : decode cX5_island 65 = .ok (.iload_n 1, 1) := by decide +kernel
theorem dX5_island_66 : decode cX5_island 66 = .ok (.invokevirtual 127, 3) := by decide +kernel
theorem dX5_island_69 : decode cX5_island 69 = .ok (.ireturn, 1) := by decide +kernel
theorem dX5_island_70 : decode cX5_island 70 = .ok (.aload_n 0, 1) := by decide +kernel
theorem dX5_island_71 : decode cX5_island 71 = .ok (.getfield 39, 3) := by decide +kernel
theorem dX5_island_74 : decode cX5_island 74 = .ok (.iload_n 1, 1) := by decide +kernel
theorem dX5_island_75 : decode cX5_island 75 = .ok (.invokevirtual 128, 3) := by decide +kernel
theorem dX5_island_78 : decode cX5_island 78 = .ok (.ireturn, 1) := by decide +kernel
theorem dX5_island_79 : decode cX5_island 79 = .ok (.sipush (-1002), 3) := by decide +kernel
theorem dX5_island_82 : decode cX5_island 82 = .ok (.ireturn, 1) := by decide +kernel
set_option maxRecDepth 20000 in
theorem ggX5_constant_X4_has : GoodIn wsX5_constant wsX4_has := goodIn_r _ [6, 7, 8, 80, 81, 82, 83, 84, 85] (by decide +kernel) (by decide +kernel)
set_option maxRecDepth 20000 in
theorem gX5_constant_X4_has : GoodIn wsX5_constant (wsV RX5 118 RX4 yX4_has wsX4_has) := goodIn_app (goodIn_of _ (by decide +kernel)) ggX5_constant_X4_has
set_option maxRecDepth 20000 in
theorem ggX5_constant_X4_nameOf : GoodIn wsX5_constant wsX4_nameOf := goodIn_r _ [12, 8, 13, 3, 4, 5, 6, 7, 80, 81, 82, 83, 84, 85] (by decide +kernel) (by decide +kernel)
set_option maxRecDepth 20000 in
theorem gX5_constant_X4_nameOf : GoodIn wsX5_constant (wsV RX5 121 RX4 yX4_nameOf wsX4_nameOf) := goodIn_app (goodIn_of _ (by decide +kernel)) ggX5_constant_X4_nameOf
set_option maxRecDepth 20000 in
theorem ggX5_constant_X4_returnOf : GoodIn wsX5_constant wsX4_returnOf := goodIn_r _ [17, 18, 13, 3, 4, 5, 6, 7, 8, 80, 81, 82, 83, 84, 85] (by decide +kernel) (by decide +kernel)
set_option maxRecDepth 20000 in
theorem gX5_constant_X4_returnOf : GoodIn wsX5_constant (wsV RX5 124 RX4 yX4_returnOf wsX4_returnOf) := goodIn_app (goodIn_of _ (by decide +kernel)) ggX5_constant_X4_returnOf
set_option maxRecDepth 20000 in
theorem ggX5_constant_X4_addressOf : GoodIn wsX5_constant wsX4_addressOf := goodIn_r _ [22, 18, 23, 24, 13, 3, 4, 5, 6, 7, 8, 25, 26, 27, 80, 81, 82, 83, 84, 85] (by decide +kernel) (by decide +kernel)
set_option maxRecDepth 20000 in
theorem gX5_constant_X4_addressOf : GoodIn wsX5_constant (wsV RX5 127 RX4 yX4_addressOf wsX4_addressOf) := goodIn_app (goodIn_of _ (by decide +kernel)) ggX5_constant_X4_addressOf
set_option maxRecDepth 20000 in
theorem ggX5_constant_X2_loadsOf : GoodIn wsX5_constant wsX2_loadsOf := goodIn_r _ [32, 33, 34, 35, 20, 21, 5, 22, 18, 23, 24, 13, 3, 4, 6, 7, 8, 25, 26, 27, 36, 37, 38, 39, 40, 41, 42, 43, 44, 45, 46, 47, 48, 49, 50, 51, 52, 53, 54, 31, 55, 56, 64, 65, 66, 67, 68, 69, 70, 71, 72, 73, 74, 75, 76, 77, 78, 79, 80, 81, 82, 83, 84, 85, 86, 87, 88, 89] (by decide +kernel) (by decide +kernel)
set_option maxRecDepth 20000 in
theorem gX5_constant_X2_loadsOf : GoodIn wsX5_constant (wsV RX5 134 RX2 yX2_loadsOf wsX2_loadsOf) := goodIn_app (goodIn_of _ (by decide +kernel)) ggX5_constant_X2_loadsOf
theorem dX5_constant_0 : decode cX5_constant 0 = .ok (.aload_n 0, 1) := by decide +kernel
theorem dX5_constant_1 : decode cX5_constant 1 = .ok (.getfield 39, 3) := by decide +kernel
theorem dX5_constant_4 : decode cX5_constant 4 = .ok (.getfield 131, 3) := by decide +kernel
theorem dX5_constant_7 : decode cX5_constant 7 = .ok (.astore_n 3, 1) := by decide +kernel
theorem dX5_constant_8 : decode cX5_constant 8 = .ok (.aload_n 3, 1) := by decide +kernel
theorem dX5_constant_9 : decode cX5_constant 9 = .ok (.iload_n 1, 1) := by decide +kernel
theorem dX5_constant_10 : decode cX5_constant 10 = .ok (.invokevirtual 118, 3) := by decide +kernel
theorem dX5_constant_13 : decode cX5_constant 13 = .ok (.ifCond .ne 7, 3) := by decide +kernel
theorem dX5_constant_16 : decode cX5_constant 16 = .ok (.sipush (-1001), 3) := by decide +kernel
theorem dX5_constant_19 : decode cX5_constant 19 = .ok (.ireturn, 1) := by decide +kernel
theorem dX5_constant_20 : decode cX5_constant 20 = .ok (.iload_n 2, 1) := by decide +kernel
theorem dX5_constant_21 : decode cX5_constant 21 = .ok (.tableswitch 58 0 3 #[31, 37, 43, 49], 31) := by decide +kernel
theorem dX5_constant_52 : decode cX5_constant 52 = .ok (.aload_n 3, 1) := by decide +kernel
theorem dX5_constant_53 : decode cX5_constant 53 = .ok (.iload_n 1, 1) := by decide +kernel
theorem dX5_constant_54 : decode cX5_constant 54 = .ok (.invokevirtual 121, 3) := by decide +kernel
theorem dX5_constant_57 : decode cX5_constant 57 = .ok (.ireturn, 1) := by decide +kernel
theorem dX5_constant_58 : decode cX5_constant 58 = .ok (.aload_n 3, 1) := by decide +kernel
theorem dX5_constant_59 : decode cX5_constant 59 = .ok (.iload_n 1, 1) := by decide +kernel
theorem dX5_constant_60 : decode cX5_constant 60 = .ok (.invokevirtual 124, 3) := by decide +kernel
theorem dX5_constant_63 : decode cX5_constant 63 = .ok (.ireturn, 1) := by decide +kernel
theorem dX5_constant_64 : decode cX5_constant 64 = .ok (.aload_n 3, 1) := by decide +kernel
theorem dX5_constant_65 : decode cX5_constant 65 = .ok (.iload_n 1, 1) := by decide +kernel
theorem dX5_constant_66 : decode cX5_constant 66 = .ok (.invokevirtual 127, 3) := by decide +kernel
theorem dX5_constant_69 : decode cX5_constant 69 = .ok (.ireturn, 1) := by decide +kernel
theorem dX5_constant_70 : decode cX5_constant 70 = .ok (.aload_n 0, 1) := by decide +kernel
theorem dX5_constant_71 : decode cX5_constant 71 = .ok (.getfield 39, 3) := by decide +kernel
theorem dX5_constant_74 : decode cX5_constant 74 = .ok (.iload_n 1, 1) := by decide +kernel
theorem dX5_constant_75 : decode cX5_constant 75 = .ok (.invokevirtual 134, 3) := by decide +kernel
theorem dX5_constant_78 : decode cX5_constant 78 = .ok (.ireturn, 1) := by decide +kernel
theorem dX5_constant_79 : decode cX5_constant 79 = .ok (.sipush (-1002), 3) := by decide +kernel
theorem dX5_constant_82 : decode cX5_constant 82 = .ok (.ireturn, 1) := by decide +kernel
set_option maxRecDepth 20000 in
theorem ggX5_hops_X0_has : GoodIn wsX5_hops wsX0_has := goodIn_r _ [7, 8, 9, 10, 91, 92, 93, 94] (by decide +kernel) (by decide +kernel)
set_option maxRecDepth 20000 in
theorem gX5_hops_X0_has : GoodIn wsX5_hops (wsV RX5 88 RX0 yX0_has wsX0_has) := goodIn_app (goodIn_of _ (by decide +kernel)) ggX5_hops_X0_has
set_option maxRecDepth 20000 in
theorem ggX5_hops_X0_kindOf : GoodIn wsX5_hops wsX0_kindOf := goodIn_r _ [14, 9, 15, 4, 5, 6, 7, 8, 10, 91, 92, 93, 94] (by decide +kernel) (by decide +kernel)
set_option maxRecDepth 20000 in
theorem gX5_hops_X0_kindOf : GoodIn wsX5_hops (wsV RX5 91 RX0 yX0_kindOf wsX0_kindOf) := goodIn_app (goodIn_of _ (by decide +kernel)) ggX5_hops_X0_kindOf
set_option maxRecDepth 20000 in
theorem ggX5_hops_X2_hopsFrom : GoodIn wsX5_hops wsX2_hopsFrom := goodIn_r _ [20, 21, 22, 23, 24, 25, 6, 26, 10, 15, 4, 5, 7, 8, 9, 27, 28, 29, 19, 30, 31, 32, 33, 34, 35, 36, 37, 38, 39, 40, 41, 42, 43, 44, 45, 46, 47, 48, 49, 50, 51, 52, 53, 54, 55, 56, 57, 58, 59, 60, 61, 62, 63, 64, 65, 66, 67, 68, 69, 70, 71, 72, 73, 74, 75, 76, 77, 78, 79, 80, 81, 82, 83, 95, 96, 97, 98, 99, 100, 101, 102, 103, 104, 105, 106, 107, 108, 109, 110, 91, 92, 93, 94, 111, 112, 113, 114, 115, 116] (by decide +kernel) (by decide +kernel)
set_option maxRecDepth 20000 in
theorem gX5_hops_X2_hopsFrom : GoodIn wsX5_hops (wsV RX5 137 RX2 yX2_hopsFrom wsX2_hopsFrom) := goodIn_app (goodIn_of _ (by decide +kernel)) ggX5_hops_X2_hopsFrom
theorem dX5_hops_0 : decode cX5_hops 0 = .ok (.aload_n 0, 1) := by decide +kernel
theorem dX5_hops_1 : decode cX5_hops 1 = .ok (.getfield 26, 3) := by decide +kernel
theorem dX5_hops_4 : decode cX5_hops 4 = .ok (.iload_n 1, 1) := by decide +kernel
theorem dX5_hops_5 : decode cX5_hops 5 = .ok (.invokevirtual 88, 3) := by decide +kernel
theorem dX5_hops_8 : decode cX5_hops 8 = .ok (.ifCond .ne 7, 3) := by decide +kernel
theorem dX5_hops_11 : decode cX5_hops 11 = .ok (.sipush (-1001), 3) := by decide +kernel
theorem dX5_hops_14 : decode cX5_hops 14 = .ok (.ireturn, 1) := by decide +kernel
theorem dX5_hops_15 : decode cX5_hops 15 = .ok (.aload_n 0, 1) := by decide +kernel
theorem dX5_hops_16 : decode cX5_hops 16 = .ok (.getfield 26, 3) := by decide +kernel
theorem dX5_hops_19 : decode cX5_hops 19 = .ok (.iload_n 1, 1) := by decide +kernel
theorem dX5_hops_20 : decode cX5_hops 20 = .ok (.invokevirtual 91, 3) := by decide +kernel
theorem dX5_hops_23 : decode cX5_hops 23 = .ok (.iconst 2, 1) := by decide +kernel
theorem dX5_hops_24 : decode cX5_hops 24 = .ok (.if_icmp .eq 7, 3) := by decide +kernel
theorem dX5_hops_27 : decode cX5_hops 27 = .ok (.sipush (-1003), 3) := by decide +kernel
theorem dX5_hops_30 : decode cX5_hops 30 = .ok (.ireturn, 1) := by decide +kernel
theorem dX5_hops_31 : decode cX5_hops 31 = .ok (.aload_n 0, 1) := by decide +kernel
theorem dX5_hops_32 : decode cX5_hops 32 = .ok (.getfield 39, 3) := by decide +kernel
theorem dX5_hops_35 : decode cX5_hops 35 = .ok (.iload_n 1, 1) := by decide +kernel
theorem dX5_hops_36 : decode cX5_hops 36 = .ok (.invokevirtual 137, 3) := by decide +kernel
theorem dX5_hops_39 : decode cX5_hops 39 = .ok (.ireturn, 1) := by decide +kernel
set_option maxRecDepth 20000 in
theorem ggX5_placed_X4_size : GoodIn wsX5_placed wsX4_size := goodIn_r _ [6, 7, 31, 32, 33, 34, 35, 36] (by decide +kernel) (by decide +kernel)
set_option maxRecDepth 20000 in
theorem gX5_placed_X4_size : GoodIn wsX5_placed (wsV RX5 155 RX4 yX4_size wsX4_size) := goodIn_app (goodIn_of _ (by decide +kernel)) ggX5_placed_X4_size
theorem dX5_placed_0 : decode cX5_placed 0 = .ok (.iload_n 1, 1) := by decide +kernel
theorem dX5_placed_1 : decode cX5_placed 1 = .ok (.tableswitch 137 0 8 #[51, 67, 75, 83, 91, 99, 107, 118, 129], 51) := by decide +kernel
theorem dX5_placed_52 : decode cX5_placed 52 = .ok (.aload_n 0, 1) := by decide +kernel
theorem dX5_placed_53 : decode cX5_placed 53 = .ok (.getfield 39, 3) := by decide +kernel
theorem dX5_placed_56 : decode cX5_placed 56 = .ok (.getfield 140, 3) := by decide +kernel
theorem dX5_placed_59 : decode cX5_placed 59 = .ok (.ifCond .ne 7, 3) := by decide +kernel
theorem dX5_placed_62 : decode cX5_placed 62 = .ok (.iconst 1, 1) := by decide +kernel
theorem dX5_placed_63 : decode cX5_placed 63 = .ok (.goto 4, 3) := by decide +kernel
theorem dX5_placed_66 : decode cX5_placed 66 = .ok (.iconst 0, 1) := by decide +kernel
theorem dX5_placed_67 : decode cX5_placed 67 = .ok (.ireturn, 1) := by decide +kernel
theorem dX5_placed_68 : decode cX5_placed 68 = .ok (.aload_n 0, 1) := by decide +kernel
theorem dX5_placed_69 : decode cX5_placed 69 = .ok (.getfield 39, 3) := by decide +kernel
theorem dX5_placed_72 : decode cX5_placed 72 = .ok (.getfield 143, 3) := by decide +kernel
theorem dX5_placed_75 : decode cX5_placed 75 = .ok (.ireturn, 1) := by decide +kernel
theorem dX5_placed_76 : decode cX5_placed 76 = .ok (.aload_n 0, 1) := by decide +kernel
theorem dX5_placed_77 : decode cX5_placed 77 = .ok (.getfield 39, 3) := by decide +kernel
theorem dX5_placed_80 : decode cX5_placed 80 = .ok (.getfield 146, 3) := by decide +kernel
theorem dX5_placed_83 : decode cX5_placed 83 = .ok (.ireturn, 1) := by decide +kernel
theorem dX5_placed_84 : decode cX5_placed 84 = .ok (.aload_n 0, 1) := by decide +kernel
theorem dX5_placed_85 : decode cX5_placed 85 = .ok (.getfield 39, 3) := by decide +kernel
theorem dX5_placed_88 : decode cX5_placed 88 = .ok (.getfield 149, 3) := by decide +kernel
theorem dX5_placed_91 : decode cX5_placed 91 = .ok (.ireturn, 1) := by decide +kernel
theorem dX5_placed_92 : decode cX5_placed 92 = .ok (.aload_n 0, 1) := by decide +kernel
theorem dX5_placed_93 : decode cX5_placed 93 = .ok (.getfield 39, 3) := by decide +kernel
theorem dX5_placed_96 : decode cX5_placed 96 = .ok (.getfield 140, 3) := by decide +kernel
theorem dX5_placed_99 : decode cX5_placed 99 = .ok (.ireturn, 1) := by decide +kernel
theorem dX5_placed_100 : decode cX5_placed 100 = .ok (.aload_n 0, 1) := by decide +kernel
theorem dX5_placed_101 : decode cX5_placed 101 = .ok (.getfield 39, 3) := by decide +kernel
theorem dX5_placed_104 : decode cX5_placed 104 = .ok (.getfield 152, 3) := by decide +kernel
theorem dX5_placed_107 : decode cX5_placed 107 = .ok (.ireturn, 1) := by decide +kernel
theorem dX5_placed_108 : decode cX5_placed 108 = .ok (.aload_n 0, 1) := by decide +kernel
theorem dX5_placed_109 : decode cX5_placed 109 = .ok (.getfield 39, 3) := by decide +kernel
theorem dX5_placed_112 : decode cX5_placed 112 = .ok (.getfield 114, 3) := by decide +kernel
theorem dX5_placed_115 : decode cX5_placed 115 = .ok (.invokevirtual 155, 3) := by decide +kernel
theorem dX5_placed_118 : decode cX5_placed 118 = .ok (.ireturn, 1) := by decide +kernel
theorem dX5_placed_119 : decode cX5_placed 119 = .ok (.aload_n 0, 1) := by decide +kernel
theorem dX5_placed_120 : decode cX5_placed 120 = .ok (.getfield 39, 3) := by decide +kernel
theorem dX5_placed_123 : decode cX5_placed 123 = .ok (.getfield 131, 3) := by decide +kernel
theorem dX5_placed_126 : decode cX5_placed 126 = .ok (.invokevirtual 155, 3) := by decide +kernel
theorem dX5_placed_129 : decode cX5_placed 129 = .ok (.ireturn, 1) := by decide +kernel
theorem dX5_placed_130 : decode cX5_placed 130 = .ok (.aload_n 0, 1) := by decide +kernel
theorem dX5_placed_131 : decode cX5_placed 131 = .ok (.getfield 39, 3) := by decide +kernel
theorem dX5_placed_134 : decode cX5_placed 134 = .ok (.getfield 156, 3) := by decide +kernel
theorem dX5_placed_137 : decode cX5_placed 137 = .ok (.ireturn, 1) := by decide +kernel
theorem dX5_placed_138 : decode cX5_placed 138 = .ok (.sipush (-1002), 3) := by decide +kernel
theorem dX5_placed_141 : decode cX5_placed 141 = .ok (.ireturn, 1) := by decide +kernel
set_option maxRecDepth 20000 in
theorem ggX5_count_X0_size : GoodIn wsX5_count wsX0_size := goodIn_r _ [10, 11, 30, 31, 32, 33] (by decide +kernel) (by decide +kernel)
set_option maxRecDepth 20000 in
theorem gX5_count_X0_size : GoodIn wsX5_count (wsV RX5 76 RX0 yX0_size wsX0_size) := goodIn_app (goodIn_of _ (by decide +kernel)) ggX5_count_X0_size
set_option maxRecDepth 20000 in
theorem ggX5_count_X1_length : GoodIn wsX5_count wsX1_length := goodIn_r _ [16, 17, 34, 35] (by decide +kernel) (by decide +kernel)
set_option maxRecDepth 20000 in
theorem gX5_count_X1_length : GoodIn wsX5_count (wsV RX5 47 RX1 yX1_length wsX1_length) := goodIn_app (goodIn_of _ (by decide +kernel)) ggX5_count_X1_length
set_option maxRecDepth 20000 in
theorem ggX5_count_X0_gaps : GoodIn wsX5_count wsX0_gaps := goodIn_r _ [21, 22, 30, 31, 32, 33] (by decide +kernel) (by decide +kernel)
set_option maxRecDepth 20000 in
theorem gX5_count_X0_gaps : GoodIn wsX5_count (wsV RX5 159 RX0 yX0_gaps wsX0_gaps) := goodIn_app (goodIn_of _ (by decide +kernel)) ggX5_count_X0_gaps
theorem dX5_count_0 : decode cX5_count 0 = .ok (.iload_n 1, 1) := by decide +kernel
theorem dX5_count_1 : decode cX5_count 1 = .ok (.tableswitch 102 0 7 #[47, 55, 63, 71, 78, 85, 92, 97], 47) := by decide +kernel
theorem dX5_count_48 : decode cX5_count 48 = .ok (.aload_n 0, 1) := by decide +kernel
theorem dX5_count_49 : decode cX5_count 49 = .ok (.getfield 26, 3) := by decide +kernel
theorem dX5_count_52 : decode cX5_count 52 = .ok (.invokevirtual 76, 3) := by decide +kernel
theorem dX5_count_55 : decode cX5_count 55 = .ok (.ireturn, 1) := by decide +kernel
theorem dX5_count_56 : decode cX5_count 56 = .ok (.aload_n 0, 1) := by decide +kernel
theorem dX5_count_57 : decode cX5_count 57 = .ok (.getfield 12, 3) := by decide +kernel
theorem dX5_count_60 : decode cX5_count 60 = .ok (.invokevirtual 47, 3) := by decide +kernel
theorem dX5_count_63 : decode cX5_count 63 = .ok (.ireturn, 1) := by decide +kernel
theorem dX5_count_64 : decode cX5_count 64 = .ok (.aload_n 0, 1) := by decide +kernel
theorem dX5_count_65 : decode cX5_count 65 = .ok (.getfield 26, 3) := by decide +kernel
theorem dX5_count_68 : decode cX5_count 68 = .ok (.invokevirtual 159, 3) := by decide +kernel
theorem dX5_count_71 : decode cX5_count 71 = .ok (.ireturn, 1) := by decide +kernel
theorem dX5_count_72 : decode cX5_count 72 = .ok (.aload_n 0, 1) := by decide +kernel
theorem dX5_count_73 : decode cX5_count 73 = .ok (.getfield 30, 3) := by decide +kernel
theorem dX5_count_76 : decode cX5_count 76 = .ok (.iconst 0, 1) := by decide +kernel
theorem dX5_count_77 : decode cX5_count 77 = .ok (.iaload, 1) := by decide +kernel
theorem dX5_count_78 : decode cX5_count 78 = .ok (.ireturn, 1) := by decide +kernel
theorem dX5_count_79 : decode cX5_count 79 = .ok (.aload_n 0, 1) := by decide +kernel
theorem dX5_count_80 : decode cX5_count 80 = .ok (.getfield 30, 3) := by decide +kernel
theorem dX5_count_83 : decode cX5_count 83 = .ok (.iconst 1, 1) := by decide +kernel
theorem dX5_count_84 : decode cX5_count 84 = .ok (.iaload, 1) := by decide +kernel
theorem dX5_count_85 : decode cX5_count 85 = .ok (.ireturn, 1) := by decide +kernel
theorem dX5_count_86 : decode cX5_count 86 = .ok (.aload_n 0, 1) := by decide +kernel
theorem dX5_count_87 : decode cX5_count 87 = .ok (.getfield 30, 3) := by decide +kernel
theorem dX5_count_90 : decode cX5_count 90 = .ok (.iconst 2, 1) := by decide +kernel
theorem dX5_count_91 : decode cX5_count 91 = .ok (.iaload, 1) := by decide +kernel
theorem dX5_count_92 : decode cX5_count 92 = .ok (.ireturn, 1) := by decide +kernel
theorem dX5_count_93 : decode cX5_count 93 = .ok (.aload_n 0, 1) := by decide +kernel
theorem dX5_count_94 : decode cX5_count 94 = .ok (.getfield 69, 3) := by decide +kernel
theorem dX5_count_97 : decode cX5_count 97 = .ok (.ireturn, 1) := by decide +kernel
theorem dX5_count_98 : decode cX5_count 98 = .ok (.aload_n 0, 1) := by decide +kernel
theorem dX5_count_99 : decode cX5_count 99 = .ok (.getfield 85, 3) := by decide +kernel
theorem dX5_count_102 : decode cX5_count 102 = .ok (.ireturn, 1) := by decide +kernel
theorem dX5_count_103 : decode cX5_count 103 = .ok (.sipush (-1002), 3) := by decide +kernel
theorem dX5_count_106 : decode cX5_count 106 = .ok (.ireturn, 1) := by decide +kernel
set_option maxRecDepth 20000 in
theorem ggX5_digest_X5_digestItems : GoodIn wsX5_digest wsX5_digestItems := goodIn_r _ [8, 9, 2, 10, 11, 12, 13, 14, 15, 16, 17, 18, 7, 19, 20, 21, 22, 23, 24, 25, 26, 27, 28, 29, 30, 31, 32, 33, 34, 35, 36, 37, 38, 39, 40, 41, 42, 43, 44, 45, 46, 47, 48, 49, 50, 51, 52, 53, 54, 55, 56, 145, 146, 147, 148, 149, 150, 151, 152, 153, 154, 155, 156, 157, 158, 159, 160, 161, 162, 163, 164, 165, 166, 167, 168, 169, 170, 171] (by decide +kernel) (by decide +kernel)
set_option maxRecDepth 20000 in
theorem gX5_digest_X5_digestItems : GoodIn wsX5_digest (wsV RX5 164 RX5 yX5_digestItems wsX5_digestItems) := goodIn_app (goodIn_of _ (by decide +kernel)) ggX5_digest_X5_digestItems
set_option maxRecDepth 20000 in
theorem ggX5_digest_X5_digestIslands : GoodIn wsX5_digest wsX5_digestIslands := goodIn_r _ [60, 20, 2, 61, 62, 63, 64, 65, 66, 67, 68, 69, 7, 70, 71, 72, 73, 74, 75, 76, 77, 78, 79, 80, 81, 82, 83, 84, 85, 86, 87, 88, 89, 90, 91, 92, 93, 94, 95, 96, 97, 39, 98, 99, 145, 146, 147, 148, 149, 150, 151, 156, 157, 158, 159, 160, 161, 162, 163, 164, 165, 166, 167, 168, 169, 170, 171, 172, 173, 174, 175, 176, 177] (by decide +kernel) (by decide +kernel)
set_option maxRecDepth 20000 in
theorem gX5_digest_X5_digestIslands : GoodIn wsX5_digest (wsV RX5 168 RX5 yX5_digestIslands wsX5_digestIslands) := goodIn_app (goodIn_of _ (by decide +kernel)) ggX5_digest_X5_digestIslands
set_option maxRecDepth 20000 in
theorem ggX5_digest_X5_digestConstants : GoodIn wsX5_digest wsX5_digestConstants := goodIn_r _ [103, 20, 2, 61, 62, 63, 64, 65, 66, 104, 105, 106, 7, 107, 71, 72, 73, 74, 75, 76, 77, 78, 79, 80, 81, 82, 83, 84, 85, 86, 87, 88, 89, 90, 91, 92, 93, 94, 108, 109, 110, 39, 111, 112, 113, 114, 115, 11, 12, 13, 14, 15, 116, 28, 29, 30, 25, 31, 22, 23, 24, 26, 117, 53, 54, 55, 56, 145, 146, 147, 148, 149, 150, 151, 156, 157, 158, 159, 160, 161, 162, 163, 164, 165, 166, 167, 168, 169, 170, 171, 172, 173, 174, 175, 176, 177, 152, 153, 154, 155] (by decide +kernel) (by decide +kernel)
set_option maxRecDepth 20000 in
theorem gX5_digest_X5_digestConstants : GoodIn wsX5_digest (wsV RX5 171 RX5 yX5_digestConstants wsX5_digestConstants) := goodIn_app (goodIn_of _ (by decide +kernel)) ggX5_digest_X5_digestConstants
set_option maxRecDepth 20000 in
theorem ggX5_digest_X5_placed : GoodIn wsX5_digest wsX5_placed := goodIn_r _ [121, 20, 61, 62, 63, 64, 65, 66, 145, 146, 147, 148, 149, 150, 151, 156, 157, 158, 159, 160, 161, 162, 163, 164, 165, 166, 167, 168, 169, 170, 171, 172, 173, 174, 175, 176, 177] (by decide +kernel) (by decide +kernel)
set_option maxRecDepth 20000 in
theorem gX5_digest_X5_placed : GoodIn wsX5_digest (wsV RX5 176 RX5 yX5_placed wsX5_placed) := goodIn_app (goodIn_of _ (by decide +kernel)) ggX5_digest_X5_placed
set_option maxRecDepth 20000 in
theorem ggX5_digest_X1_length : GoodIn wsX5_digest wsX1_length := goodIn_r _ [126, 127, 178, 179] (by decide +kernel) (by decide +kernel)
set_option maxRecDepth 20000 in
theorem gX5_digest_X1_length : GoodIn wsX5_digest (wsV RX5 47 RX1 yX1_length wsX1_length) := goodIn_app (goodIn_of _ (by decide +kernel)) ggX5_digest_X1_length
set_option maxRecDepth 20000 in
theorem ggX5_digest_X1_letterAt : GoodIn wsX5_digest wsX1_letterAt := goodIn_r _ [131, 127, 132, 178, 179] (by decide +kernel) (by decide +kernel)
set_option maxRecDepth 20000 in
theorem gX5_digest_X1_letterAt : GoodIn wsX5_digest (wsV RX5 179 RX1 yX1_letterAt wsX1_letterAt) := goodIn_app (goodIn_of _ (by decide +kernel)) ggX5_digest_X1_letterAt
set_option maxRecDepth 20000 in
theorem ggX5_digest_X5_count : GoodIn wsX5_digest wsX5_count := goodIn_r _ [136, 9, 3, 137, 138, 139, 10, 11, 12, 13, 14, 15, 122, 123, 124, 125, 126, 127, 140, 141, 142, 143, 144, 145, 146, 147, 148, 149, 150, 151, 152, 153, 154, 155, 178, 179] (by decide +kernel) (by decide +kernel)
set_option maxRecDepth 20000 in
theorem gX5_digest_X5_count : GoodIn wsX5_digest (wsV RX5 182 RX5 yX5_count wsX5_count) := goodIn_app (goodIn_of _ (by decide +kernel)) ggX5_digest_X5_count
theorem dX5_digest_0 : decode cX5_digest 0 = .ok (.aload_n 0, 1) := by decide +kernel
theorem dX5_digest_1 : decode cX5_digest 1 = .ok (.ldc2_w 162, 3) := by decide +kernel
theorem dX5_digest_4 : decode cX5_digest 4 = .ok (.invokevirtual 164, 3) := by decide +kernel
theorem dX5_digest_7 : decode cX5_digest 7 = .ok (.lstore_n 1, 1) := by decide +kernel
theorem dX5_digest_8 : decode cX5_digest 8 = .ok (.aload_n 0, 1) := by decide +kernel
theorem dX5_digest_9 : decode cX5_digest 9 = .ok (.lload_n 1, 1) := by decide +kernel
theorem dX5_digest_10 : decode cX5_digest 10 = .ok (.invokevirtual 168, 3) := by decide +kernel
theorem dX5_digest_13 : decode cX5_digest 13 = .ok (.lstore_n 1, 1) := by decide +kernel
theorem dX5_digest_14 : decode cX5_digest 14 = .ok (.aload_n 0, 1) := by decide +kernel
theorem dX5_digest_15 : decode cX5_digest 15 = .ok (.lload_n 1, 1) := by decide +kernel
theorem dX5_digest_16 : decode cX5_digest 16 = .ok (.invokevirtual 171, 3) := by decide +kernel
theorem dX5_digest_19 : decode cX5_digest 19 = .ok (.lstore_n 1, 1) := by decide +kernel
theorem dX5_digest_20 : decode cX5_digest 20 = .ok (.iconst 0, 1) := by decide +kernel
theorem dX5_digest_21 : decode cX5_digest 21 = .ok (.istore_n 3, 1) := by decide +kernel
theorem dX5_digest_22 : decode cX5_digest 22 = .ok (.iload_n 3, 1) := by decide +kernel
theorem dX5_digest_23 : decode cX5_digest 23 = .ok (.bipush 9, 2) := by decide +kernel
theorem dX5_digest_25 : decode cX5_digest 25 = .ok (.if_icmp .ge 22, 3) := by decide +kernel
theorem dX5_digest_28 : decode cX5_digest 28 = .ok (.ldc2_w 174, 3) := by decide +kernel
theorem dX5_digest_31 : decode cX5_digest 31 = .ok (.lload_n 1, 1) := by decide +kernel
theorem dX5_digest_32 : decode cX5_digest 32 = .ok (.lmul, 1) := by decide +kernel
theorem dX5_digest_33 : decode cX5_digest 33 = .ok (.aload_n 0, 1) := by decide +kernel
theorem dX5_digest_34 : decode cX5_digest 34 = .ok (.iload_n 3, 1) := by decide +kernel
theorem dX5_digest_35 : decode cX5_digest 35 = .ok (.invokevirtual 176, 3) := by decide +kernel
theorem dX5_digest_38 : decode cX5_digest 38 = .ok (.i2l, 1) := by decide +kernel
theorem dX5_digest_39 : decode cX5_digest 39 = .ok (.ladd, 1) := by decide +kernel
theorem dX5_digest_40 : decode cX5_digest 40 = .ok (.lstore_n 1, 1) := by decide +kernel
theorem dX5_digest_41 : decode cX5_digest 41 = .ok (.iinc 3 1, 3) := by decide +kernel
theorem dX5_digest_44 : decode cX5_digest 44 = .ok (.goto (-22), 3) := by decide +kernel
theorem dX5_digest_47 : decode cX5_digest 47 = .ok (.iconst 0, 1) := by decide +kernel
theorem dX5_digest_48 : decode cX5_digest 48 = .ok (.istore_n 3, 1) := by decide +kernel
theorem dX5_digest_49 : decode cX5_digest 49 = .ok (.iload_n 3, 1) := by decide +kernel
theorem dX5_digest_50 : decode cX5_digest 50 = .ok (.aload_n 0, 1) := by decide +kernel
theorem dX5_digest_51 : decode cX5_digest 51 = .ok (.getfield 12, 3) := by decide +kernel
theorem dX5_digest_54 : decode cX5_digest 54 = .ok (.invokevirtual 47, 3) := by decide +kernel
theorem dX5_digest_57 : decode cX5_digest 57 = .ok (.if_icmp .ge 25, 3) := by decide +kernel
theorem dX5_digest_60 : decode cX5_digest 60 = .ok (.ldc2_w 174, 3) := by decide +kernel
theorem dX5_digest_63 : decode cX5_digest 63 = .ok (.lload_n 1, 1) := by decide +kernel
theorem dX5_digest_64 : decode cX5_digest 64 = .ok (.lmul, 1) := by decide +kernel
theorem dX5_digest_65 : decode cX5_digest 65 = .ok (.aload_n 0, 1) := by decide +kernel
theorem dX5_digest_66 : decode cX5_digest 66 = .ok (.getfield 12, 3) := by decide +kernel
theorem dX5_digest_69 : decode cX5_digest 69 = .ok (.iload_n 3, 1) := by decide +kernel
theorem dX5_digest_70 : decode cX5_digest 70 = .ok (.invokevirtual 179, 3) := by decide +kernel
theorem dX5_digest_73 : decode cX5_digest 73 = .ok (.i2l, 1) := by decide +kernel
theorem dX5_digest_74 : decode cX5_digest 74 = .ok (.ladd, 1) := by decide +kernel
theorem dX5_digest_75 : decode cX5_digest 75 = .ok (.lstore_n 1, 1) := by decide +kernel
theorem dX5_digest_76 : decode cX5_digest 76 = .ok (.iinc 3 1, 3) := by decide +kernel
theorem dX5_digest_79 : decode cX5_digest 79 = .ok (.goto (-30), 3) := by decide +kernel
theorem dX5_digest_82 : decode cX5_digest 82 = .ok (.iconst 0, 1) := by decide +kernel
theorem dX5_digest_83 : decode cX5_digest 83 = .ok (.istore_n 3, 1) := by decide +kernel
theorem dX5_digest_84 : decode cX5_digest 84 = .ok (.iload_n 3, 1) := by decide +kernel
theorem dX5_digest_85 : decode cX5_digest 85 = .ok (.bipush 8, 2) := by decide +kernel
theorem dX5_digest_87 : decode cX5_digest 87 = .ok (.if_icmp .ge 22, 3) := by decide +kernel
theorem dX5_digest_90 : decode cX5_digest 90 = .ok (.ldc2_w 174, 3) := by decide +kernel
theorem dX5_digest_93 : decode cX5_digest 93 = .ok (.lload_n 1, 1) := by decide +kernel
theorem dX5_digest_94 : decode cX5_digest 94 = .ok (.lmul, 1) := by decide +kernel
theorem dX5_digest_95 : decode cX5_digest 95 = .ok (.aload_n 0, 1) := by decide +kernel
theorem dX5_digest_96 : decode cX5_digest 96 = .ok (.iload_n 3, 1) := by decide +kernel
theorem dX5_digest_97 : decode cX5_digest 97 = .ok (.invokevirtual 182, 3) := by decide +kernel
theorem dX5_digest_100 : decode cX5_digest 100 = .ok (.i2l, 1) := by decide +kernel
theorem dX5_digest_101 : decode cX5_digest 101 = .ok (.ladd, 1) := by decide +kernel
theorem dX5_digest_102 : decode cX5_digest 102 = .ok (.lstore_n 1, 1) := by decide +kernel
theorem dX5_digest_103 : decode cX5_digest 103 = .ok (.iinc 3 1, 3) := by decide +kernel
theorem dX5_digest_106 : decode cX5_digest 106 = .ok (.goto (-22), 3) := by decide +kernel
theorem dX5_digest_109 : decode cX5_digest 109 = .ok (.lload_n 1, 1) := by decide +kernel
theorem dX5_digest_110 : decode cX5_digest 110 = .ok (.lreturn, 1) := by decide +kernel
set_option maxRecDepth 20000 in
theorem ggX5_digestItems_X0_size : GoodIn wsX5_digestItems wsX0_size := goodIn_r _ [7, 8, 58, 59, 60, 61] (by decide +kernel) (by decide +kernel)
set_option maxRecDepth 20000 in
theorem gX5_digestItems_X0_size : GoodIn wsX5_digestItems (wsV RX5 76 RX0 yX0_size wsX0_size) := goodIn_app (goodIn_of _ (by decide +kernel)) ggX5_digestItems_X0_size
set_option maxRecDepth 20000 in
theorem ggX5_digestItems_X5_item : GoodIn wsX5_digestItems wsX5_item := goodIn_r _ [13, 1, 14, 15, 16, 17, 6, 18, 8, 19, 20, 21, 22, 23, 24, 25, 26, 27, 28, 29, 30, 31, 32, 33, 34, 35, 36, 37, 38, 39, 40, 41, 42, 43, 44, 45, 46, 47, 48, 49, 50, 51, 52, 53, 54, 55, 56, 57, 58, 59, 60, 61, 62, 63, 64, 65, 66, 67, 68, 69, 70, 71, 72, 73, 74, 75, 76, 77] (by decide +kernel) (by decide +kernel)
set_option maxRecDepth 20000 in
theorem gX5_digestItems_X5_item : GoodIn wsX5_digestItems (wsV RX5 185 RX5 yX5_item wsX5_item) := goodIn_app (goodIn_of _ (by decide +kernel)) ggX5_digestItems_X5_item
theorem dX5_digestItems_0 : decode cX5_digestItems 0 = .ok (.lload_n 1, 1) := by decide +kernel
theorem dX5_digestItems_1 : decode cX5_digestItems 1 = .ok (.lstore_n 3, 1) := by decide +kernel
theorem dX5_digestItems_2 : decode cX5_digestItems 2 = .ok (.iconst 0, 1) := by decide +kernel
theorem dX5_digestItems_3 : decode cX5_digestItems 3 = .ok (.istore 5, 2) := by decide +kernel
theorem dX5_digestItems_5 : decode cX5_digestItems 5 = .ok (.iload 5, 2) := by decide +kernel
theorem dX5_digestItems_7 : decode cX5_digestItems 7 = .ok (.aload_n 0, 1) := by decide +kernel
theorem dX5_digestItems_8 : decode cX5_digestItems 8 = .ok (.getfield 26, 3) := by decide +kernel
theorem dX5_digestItems_11 : decode cX5_digestItems 11 = .ok (.invokevirtual 76, 3) := by decide +kernel
theorem dX5_digestItems_14 : decode cX5_digestItems 14 = .ok (.if_icmp .ge 41, 3) := by decide +kernel
theorem dX5_digestItems_17 : decode cX5_digestItems 17 = .ok (.iconst 0, 1) := by decide +kernel
theorem dX5_digestItems_18 : decode cX5_digestItems 18 = .ok (.istore 6, 2) := by decide +kernel
theorem dX5_digestItems_20 : decode cX5_digestItems 20 = .ok (.iload 6, 2) := by decide +kernel
theorem dX5_digestItems_22 : decode cX5_digestItems 22 = .ok (.bipush 6, 2) := by decide +kernel
theorem dX5_digestItems_24 : decode cX5_digestItems 24 = .ok (.if_icmp .ge 25, 3) := by decide +kernel
theorem dX5_digestItems_27 : decode cX5_digestItems 27 = .ok (.ldc2_w 174, 3) := by decide +kernel
theorem dX5_digestItems_30 : decode cX5_digestItems 30 = .ok (.lload_n 3, 1) := by decide +kernel
theorem dX5_digestItems_31 : decode cX5_digestItems 31 = .ok (.lmul, 1) := by decide +kernel
theorem dX5_digestItems_32 : decode cX5_digestItems 32 = .ok (.aload_n 0, 1) := by decide +kernel
theorem dX5_digestItems_33 : decode cX5_digestItems 33 = .ok (.iload 5, 2) := by decide +kernel
theorem dX5_digestItems_35 : decode cX5_digestItems 35 = .ok (.iload 6, 2) := by decide +kernel
theorem dX5_digestItems_37 : decode cX5_digestItems 37 = .ok (.invokevirtual 185, 3) := by decide +kernel
theorem dX5_digestItems_40 : decode cX5_digestItems 40 = .ok (.i2l, 1) := by decide +kernel
theorem dX5_digestItems_41 : decode cX5_digestItems 41 = .ok (.ladd, 1) := by decide +kernel
theorem dX5_digestItems_42 : decode cX5_digestItems 42 = .ok (.lstore_n 3, 1) := by decide +kernel
theorem dX5_digestItems_43 : decode cX5_digestItems 43 = .ok (.iinc 6 1, 3) := by decide +kernel
theorem dX5_digestItems_46 : decode cX5_digestItems 46 = .ok (.goto (-26), 3) := by decide +kernel
theorem dX5_digestItems_49 : decode cX5_digestItems 49 = .ok (.iinc 5 1, 3) := by decide +kernel
theorem dX5_digestItems_52 : decode cX5_digestItems 52 = .ok (.goto (-47), 3) := by decide +kernel
theorem dX5_digestItems_55 : decode cX5_digestItems 55 = .ok (.lload_n 3, 1) := by decide +kernel
theorem dX5_digestItems_56 : decode cX5_digestItems 56 = .ok (.lreturn, 1) := by decide +kernel
set_option maxRecDepth 20000 in
theorem ggX5_digestIslands_X4_size : GoodIn wsX5_digestIslands wsX4_size := goodIn_r _ [7, 8, 67, 68, 69, 70, 71, 72] (by decide +kernel) (by decide +kernel)
set_option maxRecDepth 20000 in
theorem gX5_digestIslands_X4_size : GoodIn wsX5_digestIslands (wsV RX5 155 RX4 yX4_size wsX4_size) := goodIn_app (goodIn_of _ (by decide +kernel)) ggX5_digestIslands_X4_size
set_option maxRecDepth 20000 in
theorem ggX5_digestIslands_X5_island : GoodIn wsX5_digestIslands wsX5_island := goodIn_r _ [13, 1, 14, 15, 16, 6, 17, 8, 18, 19, 20, 21, 22, 23, 24, 25, 26, 27, 28, 29, 30, 31, 32, 33, 34, 35, 36, 37, 38, 39, 40, 41, 42, 43, 44, 45, 46, 47, 48, 49, 50, 51, 52, 53, 54, 55, 56, 57, 58, 59, 60, 61, 62, 63, 64, 65, 66, 67, 68, 69, 70, 71, 72] (by decide +kernel) (by decide +kernel)
set_option maxRecDepth 20000 in
theorem gX5_digestIslands_X5_island : GoodIn wsX5_digestIslands (wsV RX5 189 RX5 yX5_island wsX5_island) := goodIn_app (goodIn_of _ (by decide +kernel)) ggX5_digestIslands_X5_island
theorem dX5_digestIslands_0 : decode cX5_digestIslands 0 = .ok (.lload_n 1, 1) := by decide +kernel
theorem dX5_digestIslands_1 : decode cX5_digestIslands 1 = .ok (.lstore_n 3, 1) := by decide +kernel
theorem dX5_digestIslands_2 : decode cX5_digestIslands 2 = .ok (.iconst 0, 1) := by decide +kernel
theorem dX5_digestIslands_3 : decode cX5_digestIslands 3 = .ok (.istore 5, 2) := by decide +kernel
theorem dX5_digestIslands_5 : decode cX5_digestIslands 5 = .ok (.iload 5, 2) := by decide +kernel
theorem dX5_digestIslands_7 : decode cX5_digestIslands 7 = .ok (.aload_n 0, 1) := by decide +kernel
theorem dX5_digestIslands_8 : decode cX5_digestIslands 8 = .ok (.getfield 39, 3) := by decide +kernel
theorem dX5_digestIslands_11 : decode cX5_digestIslands 11 = .ok (.getfield 114, 3) := by decide +kernel
theorem dX5_digestIslands_14 : decode cX5_digestIslands 14 = .ok (.invokevirtual 155, 3) := by decide +kernel
theorem dX5_digestIslands_17 : decode cX5_digestIslands 17 = .ok (.if_icmp .ge 40, 3) := by decide +kernel
theorem dX5_digestIslands_20 : decode cX5_digestIslands 20 = .ok (.iconst 0, 1) := by decide +kernel
theorem dX5_digestIslands_21 : decode cX5_digestIslands 21 = .ok (.istore 6, 2) := by decide +kernel
end
section
theorem dX5_digestIslands_23 : decode cX5_digestIslands 23 = .ok (.iload 6, 2) := by decide +kernel
theorem dX5_digestIslands_25 : decode cX5_digestIslands 25 = .ok (.iconst 4, 1) := by decide +kernel
theorem dX5_digestIslands_26 : decode cX5_digestIslands 26 = .ok (.if_icmp .ge 25, 3) := by decide +kernel
theorem dX5_digestIslands_29 : decode cX5_digestIslands 29 = .ok (.ldc2_w 174, 3) := by decide +kernel
theorem dX5_digestIslands_32 : decode cX5_digestIslands 32 = .ok (.lload_n 3, 1) := by decide +kernel
theorem dX5_digestIslands_33 : decode cX5_digestIslands 33 = .ok (.lmul, 1) := by decide +kernel
theorem dX5_digestIslands_34 : decode cX5_digestIslands 34 = .ok (.aload_n 0, 1) := by decide +kernel
theorem dX5_digestIslands_35 : decode cX5_digestIslands 35 = .ok (.iload 5, 2) := by decide +kernel
theorem dX5_digestIslands_37 : decode cX5_digestIslands 37 = .ok (.iload 6, 2) := by decide +kernel
theorem dX5_digestIslands_39 : decode cX5_digestIslands 39 = .ok (.invokevirtual 189, 3) := by decide +kernel
theorem dX5_digestIslands_42 : decode cX5_digestIslands 42 = .ok (.i2l, 1) := by decide +kernel
theorem dX5_digestIslands_43 : decode cX5_digestIslands 43 = .ok (.ladd, 1) := by decide +kernel
theorem dX5_digestIslands_44 : decode cX5_digestIslands 44 = .ok (.lstore_n 3, 1) := by decide +kernel
theorem dX5_digestIslands_45 : decode cX5_digestIslands 45 = .ok (.iinc 6 1, 3) := by decide +kernel
theorem dX5_digestIslands_48 : decode cX5_digestIslands 48 = .ok (.goto (-25), 3) := by decide +kernel
theorem dX5_digestIslands_51 : decode cX5_digestIslands 51 = .ok (.iinc 5 1, 3) := by decide +kernel
theorem dX5_digestIslands_54 : decode cX5_digestIslands 54 = .ok (.goto (-49), 3) := by decide +kernel
theorem dX5_digestIslands_57 : decode cX5_digestIslands 57 = .ok (.lload_n 3, 1) := by decide +kernel
theorem dX5_digestIslands_58 : decode cX5_digestIslands 58 = .ok (.lreturn, 1) := by decide +kernel
set_option maxRecDepth 20000 in
theorem ggX5_digestConstants_X4_size : GoodIn wsX5_digestConstants wsX4_size := goodIn_r _ [7, 8, 90, 91, 92, 93, 94, 95] (by decide +kernel) (by decide +kernel)
set_option maxRecDepth 20000 in
theorem gX5_digestConstants_X4_size : GoodIn wsX5_digestConstants (wsV RX5 155 RX4 yX4_size wsX4_size) := goodIn_app (goodIn_of _ (by decide +kernel)) ggX5_digestConstants_X4_size
set_option maxRecDepth 20000 in
theorem ggX5_digestConstants_X5_constant : GoodIn wsX5_digestConstants wsX5_constant := goodIn_r _ [13, 1, 14, 15, 16, 6, 17, 8, 18, 19, 20, 21, 22, 23, 24, 25, 26, 27, 28, 29, 30, 31, 32, 33, 34, 35, 36, 37, 38, 39, 40, 41, 42, 43, 44, 45, 46, 47, 48, 49, 50, 51, 52, 53, 54, 55, 56, 57, 58, 59, 60, 61, 62, 63, 64, 65, 66, 67, 68, 69, 70, 71, 72, 73, 74, 75, 76, 77, 78, 79, 80, 81, 82, 83, 84, 85, 86, 87, 88, 89, 90, 91, 92, 93, 94, 95, 96, 97, 98, 99] (by decide +kernel) (by decide +kernel)
set_option maxRecDepth 20000 in
theorem gX5_digestConstants_X5_constant : GoodIn wsX5_digestConstants (wsV RX5 192 RX5 yX5_constant wsX5_constant) := goodIn_app (goodIn_of _ (by decide +kernel)) ggX5_digestConstants_X5_constant
theorem dX5_digestConstants_0 : decode cX5_digestConstants 0 = .ok (.lload_n 1, 1) := by decide +kernel
theorem dX5_digestConstants_1 : decode cX5_digestConstants 1 = .ok (.lstore_n 3, 1) := by decide +kernel
theorem dX5_digestConstants_2 : decode cX5_digestConstants 2 = .ok (.iconst 0, 1) := by decide +kernel
theorem dX5_digestConstants_3 : decode cX5_digestConstants 3 = .ok (.istore 5, 2) := by decide +kernel
theorem dX5_digestConstants_5 : decode cX5_digestConstants 5 = .ok (.iload 5, 2) := by decide +kernel
theorem dX5_digestConstants_7 : decode cX5_digestConstants 7 = .ok (.aload_n 0, 1) := by decide +kernel
theorem dX5_digestConstants_8 : decode cX5_digestConstants 8 = .ok (.getfield 39, 3) := by decide +kernel
theorem dX5_digestConstants_11 : decode cX5_digestConstants 11 = .ok (.getfield 131, 3) := by decide +kernel
theorem dX5_digestConstants_14 : decode cX5_digestConstants 14 = .ok (.invokevirtual 155, 3) := by decide +kernel
theorem dX5_digestConstants_17 : decode cX5_digestConstants 17 = .ok (.if_icmp .ge 40, 3) := by decide +kernel
theorem dX5_digestConstants_20 : decode cX5_digestConstants 20 = .ok (.iconst 0, 1) := by decide +kernel
theorem dX5_digestConstants_21 : decode cX5_digestConstants 21 = .ok (.istore 6, 2) := by decide +kernel
theorem dX5_digestConstants_23 : decode cX5_digestConstants 23 = .ok (.iload 6, 2) := by decide +kernel
theorem dX5_digestConstants_25 : decode cX5_digestConstants 25 = .ok (.iconst 4, 1) := by decide +kernel
theorem dX5_digestConstants_26 : decode cX5_digestConstants 26 = .ok (.if_icmp .ge 25, 3) := by decide +kernel
theorem dX5_digestConstants_29 : decode cX5_digestConstants 29 = .ok (.ldc2_w 174, 3) := by decide +kernel
theorem dX5_digestConstants_32 : decode cX5_digestConstants 32 = .ok (.lload_n 3, 1) := by decide +kernel
theorem dX5_digestConstants_33 : decode cX5_digestConstants 33 = .ok (.lmul, 1) := by decide +kernel
theorem dX5_digestConstants_34 : decode cX5_digestConstants 34 = .ok (.aload_n 0, 1) := by decide +kernel
theorem dX5_digestConstants_35 : decode cX5_digestConstants 35 = .ok (.iload 5, 2) := by decide +kernel
theorem dX5_digestConstants_37 : decode cX5_digestConstants 37 = .ok (.iload 6, 2) := by decide +kernel
theorem dX5_digestConstants_39 : decode cX5_digestConstants 39 = .ok (.invokevirtual 192, 3) := by decide +kernel
theorem dX5_digestConstants_42 : decode cX5_digestConstants 42 = .ok (.i2l, 1) := by decide +kernel
theorem dX5_digestConstants_43 : decode cX5_digestConstants 43 = .ok (.ladd, 1) := by decide +kernel
theorem dX5_digestConstants_44 : decode cX5_digestConstants 44 = .ok (.lstore_n 3, 1) := by decide +kernel
theorem dX5_digestConstants_45 : decode cX5_digestConstants 45 = .ok (.iinc 6 1, 3) := by decide +kernel
theorem dX5_digestConstants_48 : decode cX5_digestConstants 48 = .ok (.goto (-25), 3) := by decide +kernel
theorem dX5_digestConstants_51 : decode cX5_digestConstants 51 = .ok (.iinc 5 1, 3) := by decide +kernel
theorem dX5_digestConstants_54 : decode cX5_digestConstants 54 = .ok (.goto (-49), 3) := by decide +kernel
theorem dX5_digestConstants_57 : decode cX5_digestConstants 57 = .ok (.lload_n 3, 1) := by decide +kernel
theorem dX5_digestConstants_58 : decode cX5_digestConstants 58 = .ok (.lreturn, 1) := by decide +kernel
theorem dX5_far_0 : decode cX5_far 0 = .ok (.iload_n 0, 1) := by decide +kernel
theorem dX5_far_1 : decode cX5_far 1 = .ok (.iload_n 1, 1) := by decide +kernel
theorem dX5_far_2 : decode cX5_far 2 = .ok (.if_icmp .ge 9, 3) := by decide +kernel
theorem dX5_far_5 : decode cX5_far 5 = .ok (.iload_n 1, 1) := by decide +kernel
theorem dX5_far_6 : decode cX5_far 6 = .ok (.iload_n 0, 1) := by decide +kernel
theorem dX5_far_7 : decode cX5_far 7 = .ok (.isub, 1) := by decide +kernel
theorem dX5_far_8 : decode cX5_far 8 = .ok (.goto 6, 3) := by decide +kernel
theorem dX5_far_11 : decode cX5_far 11 = .ok (.iload_n 0, 1) := by decide +kernel
theorem dX5_far_12 : decode cX5_far 12 = .ok (.iload_n 1, 1) := by decide +kernel
theorem dX5_far_13 : decode cX5_far 13 = .ok (.isub, 1) := by decide +kernel
theorem dX5_far_14 : decode cX5_far 14 = .ok (.ireturn, 1) := by decide +kernel
theorem dX5_fillTo_0 : decode cX5_fillTo 0 = .ok (.iload_n 1, 1) := by decide +kernel
theorem dX5_fillTo_1 : decode cX5_fillTo 1 = .ok (.ineg, 1) := by decide +kernel
theorem dX5_fillTo_2 : decode cX5_fillTo 2 = .ok (.iload_n 0, 1) := by decide +kernel
theorem dX5_fillTo_3 : decode cX5_fillTo 3 = .ok (.iconst 1, 1) := by decide +kernel
theorem dX5_fillTo_4 : decode cX5_fillTo 4 = .ok (.isub, 1) := by decide +kernel
theorem dX5_fillTo_5 : decode cX5_fillTo 5 = .ok (.iand, 1) := by decide +kernel
theorem dX5_fillTo_6 : decode cX5_fillTo 6 = .ok (.ireturn, 1) := by decide +kernel
theorem dX6_init_0 : decode cX6_init 0 = .ok (.aload_n 0, 1) := by decide +kernel
theorem dX6_init_1 : decode cX6_init 1 = .ok (.invokespecial 1, 3) := by decide +kernel
theorem dX6_init_4 : decode cX6_init 4 = .ok (.aload_n 0, 1) := by decide +kernel
theorem dX6_init_5 : decode cX6_init 5 = .ok (.bipush 50, 2) := by decide +kernel
theorem dX6_init_7 : decode cX6_init 7 = .ok (.newarray .int, 2) := by decide +kernel
theorem dX6_init_9 : decode cX6_init 9 = .ok (.putfield 7, 3) := by decide +kernel
theorem dX6_init_12 : decode cX6_init 12 = .ok (.aload_n 0, 1) := by decide +kernel
theorem dX6_init_13 : decode cX6_init 13 = .ok (.bipush 24, 2) := by decide +kernel
theorem dX6_init_15 : decode cX6_init 15 = .ok (.newarray .int, 2) := by decide +kernel
theorem dX6_init_17 : decode cX6_init 17 = .ok (.putfield 13, 3) := by decide +kernel
theorem dX6_init_20 : decode cX6_init 20 = .ok (.aload_n 0, 1) := by decide +kernel
theorem dX6_init_21 : decode cX6_init 21 = .ok (.bipush 24, 2) := by decide +kernel
theorem dX6_init_23 : decode cX6_init 23 = .ok (.newarray .int, 2) := by decide +kernel
theorem dX6_init_25 : decode cX6_init 25 = .ok (.putfield 16, 3) := by decide +kernel
theorem dX6_init_28 : decode cX6_init 28 = .ok (.aload_n 0, 1) := by decide +kernel
theorem dX6_init_29 : decode cX6_init 29 = .ok (.iconst 3, 1) := by decide +kernel
theorem dX6_init_30 : decode cX6_init 30 = .ok (.newarray .int, 2) := by decide +kernel
theorem dX6_init_32 : decode cX6_init 32 = .ok (.putfield 19, 3) := by decide +kernel
theorem dX6_init_35 : decode cX6_init 35 = .ok (.aload_n 0, 1) := by decide +kernel
theorem dX6_init_36 : decode cX6_init 36 = .ok (.bipush 24, 2) := by decide +kernel
theorem dX6_init_38 : decode cX6_init 38 = .ok (.newarray .int, 2) := by decide +kernel
theorem dX6_init_40 : decode cX6_init 40 = .ok (.putfield 22, 3) := by decide +kernel
theorem dX6_init_43 : decode cX6_init 43 = .ok (.aload_n 0, 1) := by decide +kernel
theorem dX6_init_44 : decode cX6_init 44 = .ok (.bipush 24, 2) := by decide +kernel
theorem dX6_init_46 : decode cX6_init 46 = .ok (.newarray .int, 2) := by decide +kernel
theorem dX6_init_48 : decode cX6_init 48 = .ok (.putfield 25, 3) := by decide +kernel
theorem dX6_init_51 : decode cX6_init 51 = .ok (.aload_n 0, 1) := by decide +kernel
theorem dX6_init_52 : decode cX6_init 52 = .ok (.bipush 24, 2) := by decide +kernel
theorem dX6_init_54 : decode cX6_init 54 = .ok (.newarray .boolean, 2) := by decide +kernel
theorem dX6_init_56 : decode cX6_init 56 = .ok (.putfield 28, 3) := by decide +kernel
theorem dX6_init_59 : decode cX6_init 59 = .ok (.aload_n 0, 1) := by decide +kernel
theorem dX6_init_60 : decode cX6_init 60 = .ok (.bipush 12, 2) := by decide +kernel
theorem dX6_init_62 : decode cX6_init 62 = .ok (.newarray .int, 2) := by decide +kernel
theorem dX6_init_64 : decode cX6_init 64 = .ok (.putfield 32, 3) := by decide +kernel
theorem dX6_init_67 : decode cX6_init 67 = .ok (.aload_n 0, 1) := by decide +kernel
theorem dX6_init_68 : decode cX6_init 68 = .ok (.bipush 12, 2) := by decide +kernel
theorem dX6_init_70 : decode cX6_init 70 = .ok (.newarray .int, 2) := by decide +kernel
theorem dX6_init_72 : decode cX6_init 72 = .ok (.putfield 35, 3) := by decide +kernel
theorem dX6_init_75 : decode cX6_init 75 = .ok (.aload_n 0, 1) := by decide +kernel
theorem dX6_init_76 : decode cX6_init 76 = .ok (.bipush 16, 2) := by decide +kernel
theorem dX6_init_78 : decode cX6_init 78 = .ok (.newarray .int, 2) := by decide +kernel
theorem dX6_init_80 : decode cX6_init 80 = .ok (.putfield 38, 3) := by decide +kernel
theorem dX6_init_83 : decode cX6_init 83 = .ok (.aload_n 0, 1) := by decide +kernel
theorem dX6_init_84 : decode cX6_init 84 = .ok (.bipush 16, 2) := by decide +kernel
theorem dX6_init_86 : decode cX6_init 86 = .ok (.newarray .int, 2) := by decide +kernel
theorem dX6_init_88 : decode cX6_init 88 = .ok (.putfield 41, 3) := by decide +kernel
theorem dX6_init_91 : decode cX6_init 91 = .ok (.aload_n 0, 1) := by decide +kernel
theorem dX6_init_92 : decode cX6_init 92 = .ok (.bipush 24, 2) := by decide +kernel
theorem dX6_init_94 : decode cX6_init 94 = .ok (.newarray .int, 2) := by decide +kernel
theorem dX6_init_96 : decode cX6_init 96 = .ok (.putfield 44, 3) := by decide +kernel
theorem dX6_init_99 : decode cX6_init 99 = .ok (.aload_n 0, 1) := by decide +kernel
theorem dX6_init_100 : decode cX6_init 100 = .ok (.bipush 12, 2) := by decide +kernel
theorem dX6_init_102 : decode cX6_init 102 = .ok (.newarray .int, 2) := by decide +kernel
theorem dX6_init_104 : decode cX6_init 104 = .ok (.putfield 47, 3) := by decide +kernel
theorem dX6_init_107 : decode cX6_init 107 = .ok (.aload_n 0, 1) := by decide +kernel
theorem dX6_init_108 : decode cX6_init 108 = .ok (.bipush 16, 2) := by decide +kernel
theorem dX6_init_110 : decode cX6_init 110 = .ok (.newarray .int, 2) := by decide +kernel
theorem dX6_init_112 : decode cX6_init 112 = .ok (.putfield 50, 3) := by decide +kernel
theorem dX6_init_115 : decode cX6_init 115 = .ok (.aload_n 0, 1) := by decide +kernel
theorem dX6_init_116 : decode cX6_init 116 = .ok (.bipush 24, 2) := by decide +kernel
theorem dX6_init_118 : decode cX6_init 118 = .ok (.newarray .int, 2) := by decide +kernel
theorem dX6_init_120 : decode cX6_init 120 = .ok (.putfield 53, 3) := by decide +kernel
theorem dX6_init_123 : decode cX6_init 123 = .ok (.aload_n 0, 1) := by decide +kernel
theorem dX6_init_124 : decode cX6_init 124 = .ok (.bipush 24, 2) := by decide +kernel
theorem dX6_init_126 : decode cX6_init 126 = .ok (.newarray .int, 2) := by decide +kernel
theorem dX6_init_128 : decode cX6_init 128 = .ok (.putfield 56, 3) := by decide +kernel
theorem dX6_init_131 : decode cX6_init 131 = .ok (.aload_n 0, 1) := by decide +kernel
theorem dX6_init_132 : decode cX6_init 132 = .ok (.bipush 8, 2) := by decide +kernel
theorem dX6_init_134 : decode cX6_init 134 = .ok (.newarray .int, 2) := by decide +kernel
theorem dX6_init_136 : decode cX6_init 136 = .ok (.putfield 59, 3) := by decide +kernel
theorem dX6_init_139 : decode cX6_init 139 = .ok (.aload_n 0, 1) := by decide +kernel
theorem dX6_init_140 : decode cX6_init 140 = .ok (.iconst 1, 1) := by decide +kernel
theorem dX6_init_141 : decode cX6_init 141 = .ok (.putfield 62, 3) := by decide +kernel
theorem dX6_init_144 : decode cX6_init 144 = .ok (.aload_n 0, 1) := by decide +kernel
theorem dX6_init_145 : decode cX6_init 145 = .ok (.iconst (-1), 1) := by decide +kernel
theorem dX6_init_146 : decode cX6_init 146 = .ok (.putfield 66, 3) := by decide +kernel
theorem dX6_init_149 : decode cX6_init 149 = .ok (.aload_n 0, 1) := by decide +kernel
theorem dX6_init_150 : decode cX6_init 150 = .ok (.getfield 19, 3) := by decide +kernel
theorem dX6_init_153 : decode cX6_init 153 = .ok (.iconst 0, 1) := by decide +kernel
theorem dX6_init_154 : decode cX6_init 154 = .ok (.bipush 8, 2) := by decide +kernel
theorem dX6_init_156 : decode cX6_init 156 = .ok (.iastore, 1) := by decide +kernel
theorem dX6_init_157 : decode cX6_init 157 = .ok (.aload_n 0, 1) := by decide +kernel
theorem dX6_init_158 : decode cX6_init 158 = .ok (.getfield 19, 3) := by decide +kernel
theorem dX6_init_161 : decode cX6_init 161 = .ok (.iconst 1, 1) := by decide +kernel
theorem dX6_init_162 : decode cX6_init 162 = .ok (.bipush 32, 2) := by decide +kernel
theorem dX6_init_164 : decode cX6_init 164 = .ok (.iastore, 1) := by decide +kernel
theorem dX6_init_165 : decode cX6_init 165 = .ok (.aload_n 0, 1) := by decide +kernel
theorem dX6_init_166 : decode cX6_init 166 = .ok (.getfield 19, 3) := by decide +kernel
theorem dX6_init_169 : decode cX6_init 169 = .ok (.iconst 2, 1) := by decide +kernel
theorem dX6_init_170 : decode cX6_init 170 = .ok (.bipush 24, 2) := by decide +kernel
theorem dX6_init_172 : decode cX6_init 172 = .ok (.iastore, 1) := by decide +kernel
theorem dX6_init_173 : decode cX6_init 173 = .ok (.return_, 1) := by decide +kernel
theorem dX6_within_0 : decode cX6_within 0 = .ok (.iload_n 0, 1) := by decide +kernel
theorem dX6_within_1 : decode cX6_within 1 = .ok (.iload_n 1, 1) := by decide +kernel
theorem dX6_within_2 : decode cX6_within 2 = .ok (.if_icmp .lt 12, 3) := by decide +kernel
theorem dX6_within_5 : decode cX6_within 5 = .ok (.iload_n 0, 1) := by decide +kernel
theorem dX6_within_6 : decode cX6_within 6 = .ok (.iload_n 2, 1) := by decide +kernel
theorem dX6_within_7 : decode cX6_within 7 = .ok (.if_icmp .gt 7, 3) := by decide +kernel
theorem dX6_within_10 : decode cX6_within 10 = .ok (.iconst 1, 1) := by decide +kernel
theorem dX6_within_11 : decode cX6_within 11 = .ok (.goto 4, 3) := by decide +kernel
theorem dX6_within_14 : decode cX6_within 14 = .ok (.iconst 0, 1) := by decide +kernel
theorem dX6_within_15 : decode cX6_within 15 = .ok (.ireturn, 1) := by decide +kernel
set_option maxRecDepth 20000 in
theorem ggX6_letter_X6_within : GoodIn wsX6_letter wsX6_within := goodIn_r _ [6] (by decide +kernel) (by decide +kernel)
set_option maxRecDepth 20000 in
theorem gX6_letter_X6_within : GoodIn wsX6_letter (va_wsS RX6 70 yX6_within wsX6_within) := goodIn_app (goodIn_of _ (by decide +kernel)) ggX6_letter_X6_within
theorem dX6_letter_0 : decode cX6_letter 0 = .ok (.iload_n 1, 1) := by decide +kernel
theorem dX6_letter_1 : decode cX6_letter 1 = .ok (.bipush 32, 2) := by decide +kernel
theorem dX6_letter_3 : decode cX6_letter 3 = .ok (.bipush 126, 2) := by decide +kernel
theorem dX6_letter_5 : decode cX6_letter 5 = .ok (.invokestatic 70, 3) := by decide +kernel
theorem dX6_letter_8 : decode cX6_letter 8 = .ok (.ifCond .ne 7, 3) := by decide +kernel
theorem dX6_letter_11 : decode cX6_letter 11 = .ok (.sipush (-1002), 3) := by decide +kernel
theorem dX6_letter_14 : decode cX6_letter 14 = .ok (.ireturn, 1) := by decide +kernel
theorem dX6_letter_15 : decode cX6_letter 15 = .ok (.aload_n 0, 1) := by decide +kernel
theorem dX6_letter_16 : decode cX6_letter 16 = .ok (.getfield 74, 3) := by decide +kernel
theorem dX6_letter_19 : decode cX6_letter 19 = .ok (.bipush 50, 2) := by decide +kernel
theorem dX6_letter_21 : decode cX6_letter 21 = .ok (.if_icmp .ne 7, 3) := by decide +kernel
theorem dX6_letter_24 : decode cX6_letter 24 = .ok (.sipush (-1004), 3) := by decide +kernel
theorem dX6_letter_27 : decode cX6_letter 27 = .ok (.ireturn, 1) := by decide +kernel
theorem dX6_letter_28 : decode cX6_letter 28 = .ok (.aload_n 0, 1) := by decide +kernel
theorem dX6_letter_29 : decode cX6_letter 29 = .ok (.getfield 7, 3) := by decide +kernel
theorem dX6_letter_32 : decode cX6_letter 32 = .ok (.aload_n 0, 1) := by decide +kernel
theorem dX6_letter_33 : decode cX6_letter 33 = .ok (.getfield 74, 3) := by decide +kernel
theorem dX6_letter_36 : decode cX6_letter 36 = .ok (.iload_n 1, 1) := by decide +kernel
theorem dX6_letter_37 : decode cX6_letter 37 = .ok (.iastore, 1) := by decide +kernel
theorem dX6_letter_38 : decode cX6_letter 38 = .ok (.aload_n 0, 1) := by decide +kernel
theorem dX6_letter_39 : decode cX6_letter 39 = .ok (.dup, 1) := by decide +kernel
theorem dX6_letter_40 : decode cX6_letter 40 = .ok (.getfield 74, 3) := by decide +kernel
theorem dX6_letter_43 : decode cX6_letter 43 = .ok (.iconst 1, 1) := by decide +kernel
theorem dX6_letter_44 : decode cX6_letter 44 = .ok (.iadd, 1) := by decide +kernel
theorem dX6_letter_45 : decode cX6_letter 45 = .ok (.putfield 74, 3) := by decide +kernel
theorem dX6_letter_48 : decode cX6_letter 48 = .ok (.aload_n 0, 1) := by decide +kernel
theorem dX6_letter_49 : decode cX6_letter 49 = .ok (.getfield 74, 3) := by decide +kernel
theorem dX6_letter_52 : decode cX6_letter 52 = .ok (.ireturn, 1) := by decide +kernel
theorem dX6_blank_0 : decode cX6_blank 0 = .ok (.aload_n 0, 1) := by decide +kernel
theorem dX6_blank_1 : decode cX6_blank 1 = .ok (.getfield 74, 3) := by decide +kernel
theorem dX6_blank_4 : decode cX6_blank 4 = .ok (.istore_n 1, 1) := by decide +kernel
theorem dX6_blank_5 : decode cX6_blank 5 = .ok (.aload_n 0, 1) := by decide +kernel
theorem dX6_blank_6 : decode cX6_blank 6 = .ok (.iconst 0, 1) := by decide +kernel
theorem dX6_blank_7 : decode cX6_blank 7 = .ok (.putfield 74, 3) := by decide +kernel
theorem dX6_blank_10 : decode cX6_blank 10 = .ok (.iload_n 1, 1) := by decide +kernel
theorem dX6_blank_11 : decode cX6_blank 11 = .ok (.ireturn, 1) := by decide +kernel
theorem dX6_kindBy_0 : decode cX6_kindBy 0 = .ok (.iload_n 0, 1) := by decide +kernel
theorem dX6_kindBy_1 : decode cX6_kindBy 1 = .ok (.lookupswitch 71 #[(58, 65), (97, 67), (98, 63), (108, 61), (110, 59), (114, 69)], 59) := by decide +kernel
theorem dX6_kindBy_60 : decode cX6_kindBy 60 = .ok (.iconst 0, 1) := by decide +kernel
theorem dX6_kindBy_61 : decode cX6_kindBy 61 = .ok (.ireturn, 1) := by decide +kernel
theorem dX6_kindBy_62 : decode cX6_kindBy 62 = .ok (.iconst 1, 1) := by decide +kernel
theorem dX6_kindBy_63 : decode cX6_kindBy 63 = .ok (.ireturn, 1) := by decide +kernel
theorem dX6_kindBy_64 : decode cX6_kindBy 64 = .ok (.iconst 2, 1) := by decide +kernel
theorem dX6_kindBy_65 : decode cX6_kindBy 65 = .ok (.ireturn, 1) := by decide +kernel
theorem dX6_kindBy_66 : decode cX6_kindBy 66 = .ok (.iconst 3, 1) := by decide +kernel
theorem dX6_kindBy_67 : decode cX6_kindBy 67 = .ok (.ireturn, 1) := by decide +kernel
theorem dX6_kindBy_68 : decode cX6_kindBy 68 = .ok (.iconst 4, 1) := by decide +kernel
theorem dX6_kindBy_69 : decode cX6_kindBy 69 = .ok (.ireturn, 1) := by decide +kernel
theorem dX6_kindBy_70 : decode cX6_kindBy 70 = .ok (.iconst 5, 1) := by decide +kernel
theorem dX6_kindBy_71 : decode cX6_kindBy 71 = .ok (.ireturn, 1) := by decide +kernel
theorem dX6_kindBy_72 : decode cX6_kindBy 72 = .ok (.iconst (-1), 1) := by decide +kernel
theorem dX6_kindBy_73 : decode cX6_kindBy 73 = .ok (.ireturn, 1) := by decide +kernel
theorem dX6_keepItem_0 : decode cX6_keepItem 0 = .ok (.aload_n 0, 1) := by decide +kernel
theorem dX6_keepItem_1 : decode cX6_keepItem 1 = .ok (.getfield 22, 3) := by decide +kernel
theorem dX6_keepItem_4 : decode cX6_keepItem 4 = .ok (.aload_n 0, 1) := by decide +kernel
theorem dX6_keepItem_5 : decode cX6_keepItem 5 = .ok (.getfield 77, 3) := by decide +kernel
theorem dX6_keepItem_8 : decode cX6_keepItem 8 = .ok (.iload_n 1, 1) := by decide +kernel
theorem dX6_keepItem_9 : decode cX6_keepItem 9 = .ok (.iastore, 1) := by decide +kernel
theorem dX6_keepItem_10 : decode cX6_keepItem 10 = .ok (.aload_n 0, 1) := by decide +kernel
theorem dX6_keepItem_11 : decode cX6_keepItem 11 = .ok (.getfield 25, 3) := by decide +kernel
theorem dX6_keepItem_14 : decode cX6_keepItem 14 = .ok (.aload_n 0, 1) := by decide +kernel
theorem dX6_keepItem_15 : decode cX6_keepItem 15 = .ok (.getfield 77, 3) := by decide +kernel
theorem dX6_keepItem_18 : decode cX6_keepItem 18 = .ok (.iload_n 2, 1) := by decide +kernel
theorem dX6_keepItem_19 : decode cX6_keepItem 19 = .ok (.iastore, 1) := by decide +kernel
theorem dX6_keepItem_20 : decode cX6_keepItem 20 = .ok (.aload_n 0, 1) := by decide +kernel
theorem dX6_keepItem_21 : decode cX6_keepItem 21 = .ok (.dup, 1) := by decide +kernel
theorem dX6_keepItem_22 : decode cX6_keepItem 22 = .ok (.getfield 77, 3) := by decide +kernel
theorem dX6_keepItem_25 : decode cX6_keepItem 25 = .ok (.iconst 1, 1) := by decide +kernel
theorem dX6_keepItem_26 : decode cX6_keepItem 26 = .ok (.iadd, 1) := by decide +kernel
theorem dX6_keepItem_27 : decode cX6_keepItem 27 = .ok (.putfield 77, 3) := by decide +kernel
theorem dX6_keepItem_30 : decode cX6_keepItem 30 = .ok (.aload_n 0, 1) := by decide +kernel
theorem dX6_keepItem_31 : decode cX6_keepItem 31 = .ok (.iconst (-1), 1) := by decide +kernel
theorem dX6_keepItem_32 : decode cX6_keepItem 32 = .ok (.putfield 80, 3) := by decide +kernel
theorem dX6_keepItem_35 : decode cX6_keepItem 35 = .ok (.return_, 1) := by decide +kernel
set_option maxRecDepth 20000 in
theorem ggX6_takesFirst_X6_kindBy : GoodIn wsX6_takesFirst wsX6_kindBy := goodIn_r _ [6] (by decide +kernel) (by decide +kernel)
set_option maxRecDepth 20000 in
theorem gX6_takesFirst_X6_kindBy : GoodIn wsX6_takesFirst (va_wsS RX6 83 yX6_kindBy wsX6_kindBy) := goodIn_app (goodIn_of _ (by decide +kernel)) ggX6_takesFirst_X6_kindBy
set_option maxRecDepth 20000 in
theorem ggX6_takesFirst_X6_keepItem : GoodIn wsX6_takesFirst wsX6_keepItem := goodIn_r _ [10, 11, 1, 12, 2, 13, 14, 15, 16, 17, 18, 19, 20, 21, 22, 23, 24, 25, 26, 27, 28, 29, 30, 31, 32, 33, 34, 35, 36, 37, 38, 39, 40, 41, 42, 43, 44, 45, 46] (by decide +kernel) (by decide +kernel)
set_option maxRecDepth 20000 in
theorem gX6_takesFirst_X6_keepItem : GoodIn wsX6_takesFirst (wsV RX6 87 RX6 yX6_keepItem wsX6_keepItem) := goodIn_app (goodIn_of _ (by decide +kernel)) ggX6_takesFirst_X6_keepItem
theorem dX6_takesFirst_0 : decode cX6_takesFirst 0 = .ok (.iload_n 1, 1) := by decide +kernel
theorem dX6_takesFirst_1 : decode cX6_takesFirst 1 = .ok (.invokestatic 83, 3) := by decide +kernel
theorem dX6_takesFirst_4 : decode cX6_takesFirst 4 = .ok (.istore_n 2, 1) := by decide +kernel
theorem dX6_takesFirst_5 : decode cX6_takesFirst 5 = .ok (.iload_n 2, 1) := by decide +kernel
theorem dX6_takesFirst_6 : decode cX6_takesFirst 6 = .ok (.iconst (-1), 1) := by decide +kernel
theorem dX6_takesFirst_7 : decode cX6_takesFirst 7 = .ok (.if_icmp .eq 12, 3) := by decide +kernel
theorem dX6_takesFirst_10 : decode cX6_takesFirst 10 = .ok (.aload_n 0, 1) := by decide +kernel
theorem dX6_takesFirst_11 : decode cX6_takesFirst 11 = .ok (.getfield 77, 3) := by decide +kernel
theorem dX6_takesFirst_14 : decode cX6_takesFirst 14 = .ok (.bipush 24, 2) := by decide +kernel
theorem dX6_takesFirst_16 : decode cX6_takesFirst 16 = .ok (.if_icmp .ne 5, 3) := by decide +kernel
theorem dX6_takesFirst_19 : decode cX6_takesFirst 19 = .ok (.iconst 0, 1) := by decide +kernel
theorem dX6_takesFirst_20 : decode cX6_takesFirst 20 = .ok (.ireturn, 1) := by decide +kernel
theorem dX6_takesFirst_21 : decode cX6_takesFirst 21 = .ok (.iload_n 2, 1) := by decide +kernel
theorem dX6_takesFirst_22 : decode cX6_takesFirst 22 = .ok (.iconst 5, 1) := by decide +kernel
theorem dX6_takesFirst_23 : decode cX6_takesFirst 23 = .ok (.if_icmp .ne 12, 3) := by decide +kernel
theorem dX6_takesFirst_26 : decode cX6_takesFirst 26 = .ok (.aload_n 0, 1) := by decide +kernel
theorem dX6_takesFirst_27 : decode cX6_takesFirst 27 = .ok (.iconst 5, 1) := by decide +kernel
theorem dX6_takesFirst_28 : decode cX6_takesFirst 28 = .ok (.iconst 0, 1) := by decide +kernel
theorem dX6_takesFirst_29 : decode cX6_takesFirst 29 = .ok (.invokevirtual 87, 3) := by decide +kernel
theorem dX6_takesFirst_32 : decode cX6_takesFirst 32 = .ok (.goto 8, 3) := by decide +kernel
theorem dX6_takesFirst_35 : decode cX6_takesFirst 35 = .ok (.aload_n 0, 1) := by decide +kernel
theorem dX6_takesFirst_36 : decode cX6_takesFirst 36 = .ok (.iload_n 2, 1) := by decide +kernel
theorem dX6_takesFirst_37 : decode cX6_takesFirst 37 = .ok (.putfield 80, 3) := by decide +kernel
theorem dX6_takesFirst_40 : decode cX6_takesFirst 40 = .ok (.iconst 1, 1) := by decide +kernel
theorem dX6_takesFirst_41 : decode cX6_takesFirst 41 = .ok (.ireturn, 1) := by decide +kernel
set_option maxRecDepth 20000 in
theorem ggX6_takesLetter_X6_within : GoodIn wsX6_takesLetter wsX6_within := goodIn_r _ [7] (by decide +kernel) (by decide +kernel)
set_option maxRecDepth 20000 in
theorem gX6_takesLetter_X6_within : GoodIn wsX6_takesLetter (va_wsS RX6 70 yX6_within wsX6_within) := goodIn_app (goodIn_of _ (by decide +kernel)) ggX6_takesLetter_X6_within
set_option maxRecDepth 20000 in
theorem ggX6_takesLetter_X6_keepItem : GoodIn wsX6_takesLetter wsX6_keepItem := goodIn_r _ [11, 12, 13, 14, 1, 15, 16, 17, 18, 19, 20, 21, 22, 23, 24, 25, 26, 27, 28, 29, 30, 31, 32, 33, 34, 35, 36, 37, 38, 39, 40, 41, 42, 43, 44, 45, 46, 47, 48] (by decide +kernel) (by decide +kernel)
set_option maxRecDepth 20000 in
theorem gX6_takesLetter_X6_keepItem : GoodIn wsX6_takesLetter (wsV RX6 87 RX6 yX6_keepItem wsX6_keepItem) := goodIn_app (goodIn_of _ (by decide +kernel)) ggX6_takesLetter_X6_keepItem
theorem dX6_takesLetter_0 : decode cX6_takesLetter 0 = .ok (.iload_n 1, 1) := by decide +kernel
theorem dX6_takesLetter_1 : decode cX6_takesLetter 1 = .ok (.bipush 65, 2) := by decide +kernel
theorem dX6_takesLetter_3 : decode cX6_takesLetter 3 = .ok (.isub, 1) := by decide +kernel
theorem dX6_takesLetter_4 : decode cX6_takesLetter 4 = .ok (.istore_n 2, 1) := by decide +kernel
theorem dX6_takesLetter_5 : decode cX6_takesLetter 5 = .ok (.iload_n 2, 1) := by decide +kernel
theorem dX6_takesLetter_6 : decode cX6_takesLetter 6 = .ok (.iconst 0, 1) := by decide +kernel
theorem dX6_takesLetter_7 : decode cX6_takesLetter 7 = .ok (.bipush 7, 2) := by decide +kernel
theorem dX6_takesLetter_9 : decode cX6_takesLetter 9 = .ok (.invokestatic 70, 3) := by decide +kernel
theorem dX6_takesLetter_12 : decode cX6_takesLetter 12 = .ok (.ifCond .eq 23, 3) := by decide +kernel
theorem dX6_takesLetter_15 : decode cX6_takesLetter 15 = .ok (.aload_n 0, 1) := by decide +kernel
theorem dX6_takesLetter_16 : decode cX6_takesLetter 16 = .ok (.getfield 80, 3) := by decide +kernel
theorem dX6_takesLetter_19 : decode cX6_takesLetter 19 = .ok (.iconst 3, 1) := by decide +kernel
theorem dX6_takesLetter_20 : decode cX6_takesLetter 20 = .ok (.if_icmp .ne 17, 3) := by decide +kernel
theorem dX6_takesLetter_23 : decode cX6_takesLetter 23 = .ok (.aload_n 0, 1) := by decide +kernel
theorem dX6_takesLetter_24 : decode cX6_takesLetter 24 = .ok (.getfield 91, 3) := by decide +kernel
theorem dX6_takesLetter_27 : decode cX6_takesLetter 27 = .ok (.iload_n 2, 1) := by decide +kernel
theorem dX6_takesLetter_28 : decode cX6_takesLetter 28 = .ok (.ishr, 1) := by decide +kernel
theorem dX6_takesLetter_29 : decode cX6_takesLetter 29 = .ok (.iconst 1, 1) := by decide +kernel
theorem dX6_takesLetter_30 : decode cX6_takesLetter 30 = .ok (.iand, 1) := by decide +kernel
theorem dX6_takesLetter_31 : decode cX6_takesLetter 31 = .ok (.iconst 1, 1) := by decide +kernel
theorem dX6_takesLetter_32 : decode cX6_takesLetter 32 = .ok (.if_icmp .ne 5, 3) := by decide +kernel
theorem dX6_takesLetter_35 : decode cX6_takesLetter 35 = .ok (.iconst 0, 1) := by decide +kernel
theorem dX6_takesLetter_36 : decode cX6_takesLetter 36 = .ok (.ireturn, 1) := by decide +kernel
theorem dX6_takesLetter_37 : decode cX6_takesLetter 37 = .ok (.aload_n 0, 1) := by decide +kernel
theorem dX6_takesLetter_38 : decode cX6_takesLetter 38 = .ok (.dup, 1) := by decide +kernel
theorem dX6_takesLetter_39 : decode cX6_takesLetter 39 = .ok (.getfield 91, 3) := by decide +kernel
theorem dX6_takesLetter_42 : decode cX6_takesLetter 42 = .ok (.aload_n 0, 1) := by decide +kernel
theorem dX6_takesLetter_43 : decode cX6_takesLetter 43 = .ok (.getfield 80, 3) := by decide +kernel
theorem dX6_takesLetter_46 : decode cX6_takesLetter 46 = .ok (.iconst 3, 1) := by decide +kernel
theorem dX6_takesLetter_47 : decode cX6_takesLetter 47 = .ok (.if_icmp .ne 9, 3) := by decide +kernel
theorem dX6_takesLetter_50 : decode cX6_takesLetter 50 = .ok (.iconst 1, 1) := by decide +kernel
theorem dX6_takesLetter_51 : decode cX6_takesLetter 51 = .ok (.iload_n 2, 1) := by decide +kernel
theorem dX6_takesLetter_52 : decode cX6_takesLetter 52 = .ok (.ishl, 1) := by decide +kernel
theorem dX6_takesLetter_53 : decode cX6_takesLetter 53 = .ok (.goto 4, 3) := by decide +kernel
theorem dX6_takesLetter_56 : decode cX6_takesLetter 56 = .ok (.iconst 0, 1) := by decide +kernel
theorem dX6_takesLetter_57 : decode cX6_takesLetter 57 = .ok (.ior, 1) := by decide +kernel
theorem dX6_takesLetter_58 : decode cX6_takesLetter 58 = .ok (.putfield 91, 3) := by decide +kernel
theorem dX6_takesLetter_61 : decode cX6_takesLetter 61 = .ok (.aload_n 0, 1) := by decide +kernel
theorem dX6_takesLetter_62 : decode cX6_takesLetter 62 = .ok (.dup, 1) := by decide +kernel
theorem dX6_takesLetter_63 : decode cX6_takesLetter 63 = .ok (.getfield 94, 3) := by decide +kernel
theorem dX6_takesLetter_66 : decode cX6_takesLetter 66 = .ok (.aload_n 0, 1) := by decide +kernel
theorem dX6_takesLetter_67 : decode cX6_takesLetter 67 = .ok (.getfield 80, 3) := by decide +kernel
theorem dX6_takesLetter_70 : decode cX6_takesLetter 70 = .ok (.iconst 2, 1) := by decide +kernel
theorem dX6_takesLetter_71 : decode cX6_takesLetter 71 = .ok (.if_icmp .ne 9, 3) := by decide +kernel
theorem dX6_takesLetter_74 : decode cX6_takesLetter 74 = .ok (.iconst 1, 1) := by decide +kernel
theorem dX6_takesLetter_75 : decode cX6_takesLetter 75 = .ok (.iload_n 2, 1) := by decide +kernel
theorem dX6_takesLetter_76 : decode cX6_takesLetter 76 = .ok (.ishl, 1) := by decide +kernel
theorem dX6_takesLetter_77 : decode cX6_takesLetter 77 = .ok (.goto 4, 3) := by decide +kernel
theorem dX6_takesLetter_80 : decode cX6_takesLetter 80 = .ok (.iconst 0, 1) := by decide +kernel
theorem dX6_takesLetter_81 : decode cX6_takesLetter 81 = .ok (.ior, 1) := by decide +kernel
theorem dX6_takesLetter_82 : decode cX6_takesLetter 82 = .ok (.putfield 94, 3) := by decide +kernel
theorem dX6_takesLetter_85 : decode cX6_takesLetter 85 = .ok (.aload_n 0, 1) := by decide +kernel
theorem dX6_takesLetter_86 : decode cX6_takesLetter 86 = .ok (.aload_n 0, 1) := by decide +kernel
theorem dX6_takesLetter_87 : decode cX6_takesLetter 87 = .ok (.getfield 80, 3) := by decide +kernel
theorem dX6_takesLetter_90 : decode cX6_takesLetter 90 = .ok (.iload_n 2, 1) := by decide +kernel
theorem dX6_takesLetter_91 : decode cX6_takesLetter 91 = .ok (.invokevirtual 87, 3) := by decide +kernel
theorem dX6_takesLetter_94 : decode cX6_takesLetter 94 = .ok (.iconst 1, 1) := by decide +kernel
theorem dX6_takesLetter_95 : decode cX6_takesLetter 95 = .ok (.ireturn, 1) := by decide +kernel
set_option maxRecDepth 20000 in
theorem ggX6_takesFigure_X6_within : GoodIn wsX6_takesFigure wsX6_within := goodIn_r _ [5] (by decide +kernel) (by decide +kernel)
set_option maxRecDepth 20000 in
theorem gX6_takesFigure_X6_within : GoodIn wsX6_takesFigure (va_wsS RX6 70 yX6_within wsX6_within) := goodIn_app (goodIn_of _ (by decide +kernel)) ggX6_takesFigure_X6_within
set_option maxRecDepth 20000 in
theorem ggX6_takesFigure_X6_keepItem : GoodIn wsX6_takesFigure wsX6_keepItem := goodIn_r _ [9, 10, 11, 12, 1, 13, 14, 15, 16, 17, 18, 19, 20, 21, 22, 23, 24, 25, 26, 27, 28, 29, 30, 31, 32, 33, 34, 35, 36, 37, 38, 39, 40, 41, 42, 43, 44, 45, 46] (by decide +kernel) (by decide +kernel)
set_option maxRecDepth 20000 in
theorem gX6_takesFigure_X6_keepItem : GoodIn wsX6_takesFigure (wsV RX6 87 RX6 yX6_keepItem wsX6_keepItem) := goodIn_app (goodIn_of _ (by decide +kernel)) ggX6_takesFigure_X6_keepItem
theorem dX6_takesFigure_0 : decode cX6_takesFigure 0 = .ok (.aload_n 0, 1) := by decide +kernel
theorem dX6_takesFigure_1 : decode cX6_takesFigure 1 = .ok (.getfield 80, 3) := by decide +kernel
theorem dX6_takesFigure_4 : decode cX6_takesFigure 4 = .ok (.ifCond .ne 13, 3) := by decide +kernel
theorem dX6_takesFigure_7 : decode cX6_takesFigure 7 = .ok (.iload_n 1, 1) := by decide +kernel
theorem dX6_takesFigure_8 : decode cX6_takesFigure 8 = .ok (.iconst 1, 1) := by decide +kernel
theorem dX6_takesFigure_9 : decode cX6_takesFigure 9 = .ok (.bipush 9, 2) := by decide +kernel
theorem dX6_takesFigure_11 : decode cX6_takesFigure 11 = .ok (.invokestatic 70, 3) := by decide +kernel
theorem dX6_takesFigure_14 : decode cX6_takesFigure 14 = .ok (.goto 27, 3) := by decide +kernel
theorem dX6_takesFigure_17 : decode cX6_takesFigure 17 = .ok (.aload_n 0, 1) := by decide +kernel
theorem dX6_takesFigure_18 : decode cX6_takesFigure 18 = .ok (.getfield 80, 3) := by decide +kernel
theorem dX6_takesFigure_21 : decode cX6_takesFigure 21 = .ok (.iconst 1, 1) := by decide +kernel
theorem dX6_takesFigure_22 : decode cX6_takesFigure 22 = .ok (.if_icmp .ne 13, 3) := by decide +kernel
theorem dX6_takesFigure_25 : decode cX6_takesFigure 25 = .ok (.iload_n 1, 1) := by decide +kernel
theorem dX6_takesFigure_26 : decode cX6_takesFigure 26 = .ok (.iconst 0, 1) := by decide +kernel
theorem dX6_takesFigure_27 : decode cX6_takesFigure 27 = .ok (.bipush 9, 2) := by decide +kernel
theorem dX6_takesFigure_29 : decode cX6_takesFigure 29 = .ok (.invokestatic 70, 3) := by decide +kernel
theorem dX6_takesFigure_32 : decode cX6_takesFigure 32 = .ok (.goto 9, 3) := by decide +kernel
theorem dX6_takesFigure_35 : decode cX6_takesFigure 35 = .ok (.iload_n 1, 1) := by decide +kernel
theorem dX6_takesFigure_36 : decode cX6_takesFigure 36 = .ok (.iconst 1, 1) := by decide +kernel
theorem dX6_takesFigure_37 : decode cX6_takesFigure 37 = .ok (.iconst 3, 1) := by decide +kernel
theorem dX6_takesFigure_38 : decode cX6_takesFigure 38 = .ok (.invokestatic 70, 3) := by decide +kernel
theorem dX6_takesFigure_41 : decode cX6_takesFigure 41 = .ok (.istore_n 2, 1) := by decide +kernel
theorem dX6_takesFigure_42 : decode cX6_takesFigure 42 = .ok (.iload_n 2, 1) := by decide +kernel
theorem dX6_takesFigure_43 : decode cX6_takesFigure 43 = .ok (.ifCond .eq 26, 3) := by decide +kernel
theorem dX6_takesFigure_46 : decode cX6_takesFigure 46 = .ok (.aload_n 0, 1) := by decide +kernel
theorem dX6_takesFigure_47 : decode cX6_takesFigure 47 = .ok (.aload_n 0, 1) := by decide +kernel
theorem dX6_takesFigure_48 : decode cX6_takesFigure 48 = .ok (.getfield 80, 3) := by decide +kernel
theorem dX6_takesFigure_51 : decode cX6_takesFigure 51 = .ok (.aload_n 0, 1) := by decide +kernel
theorem dX6_takesFigure_52 : decode cX6_takesFigure 52 = .ok (.getfield 80, 3) := by decide +kernel
theorem dX6_takesFigure_55 : decode cX6_takesFigure 55 = .ok (.iconst 4, 1) := by decide +kernel
theorem dX6_takesFigure_56 : decode cX6_takesFigure 56 = .ok (.if_icmp .ne 9, 3) := by decide +kernel
theorem dX6_takesFigure_59 : decode cX6_takesFigure 59 = .ok (.iconst 1, 1) := by decide +kernel
theorem dX6_takesFigure_60 : decode cX6_takesFigure 60 = .ok (.iload_n 1, 1) := by decide +kernel
theorem dX6_takesFigure_61 : decode cX6_takesFigure 61 = .ok (.ishl, 1) := by decide +kernel
theorem dX6_takesFigure_62 : decode cX6_takesFigure 62 = .ok (.goto 4, 3) := by decide +kernel
theorem dX6_takesFigure_65 : decode cX6_takesFigure 65 = .ok (.iload_n 1, 1) := by decide +kernel
theorem dX6_takesFigure_66 : decode cX6_takesFigure 66 = .ok (.invokevirtual 87, 3) := by decide +kernel
theorem dX6_takesFigure_69 : decode cX6_takesFigure 69 = .ok (.iload_n 2, 1) := by decide +kernel
theorem dX6_takesFigure_70 : decode cX6_takesFigure 70 = .ok (.ireturn, 1) := by decide +kernel
set_option maxRecDepth 20000 in
theorem ggX6_takes_X6_takesFirst : GoodIn wsX6_takes wsX6_takesFirst := goodIn_r _ [6, 7, 1, 8, 9, 5, 10, 11, 12, 13, 14, 15, 16, 30, 31, 32, 33, 34, 35, 36, 37, 38, 39, 40, 41, 42, 43, 44, 45, 46, 47, 48, 49, 50, 51, 52, 53, 54, 55, 56, 57, 58, 59, 60, 61, 62, 63] (by decide +kernel) (by decide +kernel)
set_option maxRecDepth 20000 in
theorem gX6_takes_X6_takesFirst : GoodIn wsX6_takes (wsV RX6 97 RX6 yX6_takesFirst wsX6_takesFirst) := goodIn_app (goodIn_of _ (by decide +kernel)) ggX6_takes_X6_takesFirst
set_option maxRecDepth 20000 in
theorem ggX6_takes_X6_takesLetter : GoodIn wsX6_takes wsX6_takesLetter := goodIn_r _ [20, 1, 21, 22, 23, 24, 5, 25, 11, 12, 13, 14, 15, 7, 16, 30, 31, 32, 33, 34, 35, 36, 37, 38, 39, 40, 41, 42, 43, 44, 45, 46, 47, 48, 49, 50, 51, 52, 53, 54, 55, 56, 57, 58, 59, 60, 61, 62, 63] (by decide +kernel) (by decide +kernel)
set_option maxRecDepth 20000 in
theorem gX6_takes_X6_takesLetter : GoodIn wsX6_takes (wsV RX6 101 RX6 yX6_takesLetter wsX6_takesLetter) := goodIn_app (goodIn_of _ (by decide +kernel)) ggX6_takes_X6_takesLetter
set_option maxRecDepth 20000 in
theorem ggX6_takes_X6_takesFigure : GoodIn wsX6_takes wsX6_takesFigure := goodIn_r _ [29, 1, 23, 24, 5, 25, 11, 12, 13, 14, 15, 7, 16, 30, 31, 32, 33, 34, 35, 36, 37, 38, 39, 40, 41, 42, 43, 44, 45, 46, 47, 48, 49, 50, 51, 52, 53, 54, 55, 56, 57, 58, 59, 60, 61, 62, 63] (by decide +kernel) (by decide +kernel)
set_option maxRecDepth 20000 in
theorem gX6_takes_X6_takesFigure : GoodIn wsX6_takes (wsV RX6 104 RX6 yX6_takesFigure wsX6_takesFigure) := goodIn_app (goodIn_of _ (by decide +kernel)) ggX6_takes_X6_takesFigure
theorem dX6_takes_0 : decode cX6_takes 0 = .ok (.aload_n 0, 1) := by decide +kernel
theorem dX6_takes_1 : decode cX6_takes 1 = .ok (.getfield 80, 3) := by decide +kernel
theorem dX6_takes_4 : decode cX6_takes 4 = .ok (.iconst (-1), 1) := by decide +kernel
theorem dX6_takes_5 : decode cX6_takes 5 = .ok (.if_icmp .ne 9, 3) := by decide +kernel
theorem dX6_takes_8 : decode cX6_takes 8 = .ok (.aload_n 0, 1) := by decide +kernel
theorem dX6_takes_9 : decode cX6_takes 9 = .ok (.iload_n 1, 1) := by decide +kernel
theorem dX6_takes_10 : decode cX6_takes 10 = .ok (.invokevirtual 97, 3) := by decide +kernel
theorem dX6_takes_13 : decode cX6_takes 13 = .ok (.ireturn, 1) := by decide +kernel
theorem dX6_takes_14 : decode cX6_takes 14 = .ok (.aload_n 0, 1) := by decide +kernel
theorem dX6_takes_15 : decode cX6_takes 15 = .ok (.getfield 80, 3) := by decide +kernel
theorem dX6_takes_18 : decode cX6_takes 18 = .ok (.iconst 2, 1) := by decide +kernel
theorem dX6_takes_19 : decode cX6_takes 19 = .ok (.if_icmp .eq 11, 3) := by decide +kernel
theorem dX6_takes_22 : decode cX6_takes 22 = .ok (.aload_n 0, 1) := by decide +kernel
theorem dX6_takes_23 : decode cX6_takes 23 = .ok (.getfield 80, 3) := by decide +kernel
theorem dX6_takes_26 : decode cX6_takes 26 = .ok (.iconst 3, 1) := by decide +kernel
theorem dX6_takes_27 : decode cX6_takes 27 = .ok (.if_icmp .ne 11, 3) := by decide +kernel
theorem dX6_takes_30 : decode cX6_takes 30 = .ok (.aload_n 0, 1) := by decide +kernel
theorem dX6_takes_31 : decode cX6_takes 31 = .ok (.iload_n 1, 1) := by decide +kernel
theorem dX6_takes_32 : decode cX6_takes 32 = .ok (.invokevirtual 101, 3) := by decide +kernel
theorem dX6_takes_35 : decode cX6_takes 35 = .ok (.goto 11, 3) := by decide +kernel
theorem dX6_takes_38 : decode cX6_takes 38 = .ok (.aload_n 0, 1) := by decide +kernel
theorem dX6_takes_39 : decode cX6_takes 39 = .ok (.iload_n 1, 1) := by decide +kernel
theorem dX6_takes_40 : decode cX6_takes 40 = .ok (.bipush 48, 2) := by decide +kernel
theorem dX6_takes_42 : decode cX6_takes 42 = .ok (.isub, 1) := by decide +kernel
theorem dX6_takes_43 : decode cX6_takes 43 = .ok (.invokevirtual 104, 3) := by decide +kernel
theorem dX6_takes_46 : decode cX6_takes 46 = .ok (.ireturn, 1) := by decide +kernel
set_option maxRecDepth 20000 in
theorem ggX6_goAlong_X6_takes : GoodIn wsX6_goAlong wsX6_takes := goodIn_r _ [11, 2, 12, 13, 14, 10, 15, 1, 16, 17, 18, 19, 20, 21, 22, 23, 24, 25, 26, 27, 28, 3, 4, 29, 30, 31, 32, 33, 34, 35, 36, 37, 38, 39, 40, 41, 42, 43, 44, 45, 46, 47, 48, 49, 50, 51, 52, 53, 54, 55, 56, 57, 58, 59, 60, 61, 62, 63, 64, 65, 66, 67, 68, 69] (by decide +kernel) (by decide +kernel)
set_option maxRecDepth 20000 in
theorem gX6_goAlong_X6_takes : GoodIn wsX6_goAlong (wsV RX6 107 RX6 yX6_takes wsX6_takes) := goodIn_app (goodIn_of _ (by decide +kernel)) ggX6_goAlong_X6_takes
theorem dX6_goAlong_0 : decode cX6_goAlong 0 = .ok (.aload_n 0, 1) := by decide +kernel
theorem dX6_goAlong_1 : decode cX6_goAlong 1 = .ok (.iconst 0, 1) := by decide +kernel
theorem dX6_goAlong_2 : decode cX6_goAlong 2 = .ok (.putfield 77, 3) := by decide +kernel
theorem dX6_goAlong_5 : decode cX6_goAlong 5 = .ok (.aload_n 0, 1) := by decide +kernel
theorem dX6_goAlong_6 : decode cX6_goAlong 6 = .ok (.iconst (-1), 1) := by decide +kernel
theorem dX6_goAlong_7 : decode cX6_goAlong 7 = .ok (.putfield 80, 3) := by decide +kernel
theorem dX6_goAlong_10 : decode cX6_goAlong 10 = .ok (.aload_n 0, 1) := by decide +kernel
theorem dX6_goAlong_11 : decode cX6_goAlong 11 = .ok (.iconst 0, 1) := by decide +kernel
theorem dX6_goAlong_12 : decode cX6_goAlong 12 = .ok (.putfield 91, 3) := by decide +kernel
theorem dX6_goAlong_15 : decode cX6_goAlong 15 = .ok (.aload_n 0, 1) := by decide +kernel
theorem dX6_goAlong_16 : decode cX6_goAlong 16 = .ok (.iconst 0, 1) := by decide +kernel
theorem dX6_goAlong_17 : decode cX6_goAlong 17 = .ok (.putfield 94, 3) := by decide +kernel
theorem dX6_goAlong_20 : decode cX6_goAlong 20 = .ok (.iconst 0, 1) := by decide +kernel
theorem dX6_goAlong_21 : decode cX6_goAlong 21 = .ok (.istore_n 1, 1) := by decide +kernel
theorem dX6_goAlong_22 : decode cX6_goAlong 22 = .ok (.iload_n 1, 1) := by decide +kernel
theorem dX6_goAlong_23 : decode cX6_goAlong 23 = .ok (.aload_n 0, 1) := by decide +kernel
theorem dX6_goAlong_24 : decode cX6_goAlong 24 = .ok (.getfield 74, 3) := by decide +kernel
theorem dX6_goAlong_27 : decode cX6_goAlong 27 = .ok (.if_icmp .ge 22, 3) := by decide +kernel
theorem dX6_goAlong_30 : decode cX6_goAlong 30 = .ok (.aload_n 0, 1) := by decide +kernel
theorem dX6_goAlong_31 : decode cX6_goAlong 31 = .ok (.aload_n 0, 1) := by decide +kernel
theorem dX6_goAlong_32 : decode cX6_goAlong 32 = .ok (.getfield 7, 3) := by decide +kernel
theorem dX6_goAlong_35 : decode cX6_goAlong 35 = .ok (.iload_n 1, 1) := by decide +kernel
theorem dX6_goAlong_36 : decode cX6_goAlong 36 = .ok (.iaload, 1) := by decide +kernel
theorem dX6_goAlong_37 : decode cX6_goAlong 37 = .ok (.invokevirtual 107, 3) := by decide +kernel
theorem dX6_goAlong_40 : decode cX6_goAlong 40 = .ok (.ifCond .eq 9, 3) := by decide +kernel
theorem dX6_goAlong_43 : decode cX6_goAlong 43 = .ok (.iinc 1 1, 3) := by decide +kernel
theorem dX6_goAlong_46 : decode cX6_goAlong 46 = .ok (.goto (-24), 3) := by decide +kernel
theorem dX6_goAlong_49 : decode cX6_goAlong 49 = .ok (.iload_n 1, 1) := by decide +kernel
theorem dX6_goAlong_50 : decode cX6_goAlong 50 = .ok (.ireturn, 1) := by decide +kernel
set_option maxRecDepth 20000 in
theorem ggX6_fault_X6_goAlong : GoodIn wsX6_fault wsX6_goAlong := goodIn_r _ [5, 6, 7, 8, 9, 10, 11, 12, 13, 14, 4, 15, 16, 17, 18, 19, 20, 21, 22, 23, 24, 25, 26, 27, 28, 29, 30, 31, 32, 33, 34, 35, 36, 37, 38, 39, 40, 41, 42, 43, 44, 45, 46, 47, 48, 49, 50, 51, 52, 53, 54, 55, 56, 57, 58, 59, 60, 61, 62, 63, 64, 65, 66, 67, 68, 69, 70, 71, 72, 73] (by decide +kernel) (by decide +kernel)
set_option maxRecDepth 20000 in
theorem gX6_fault_X6_goAlong : GoodIn wsX6_fault (wsV RX6 110 RX6 yX6_goAlong wsX6_goAlong) := goodIn_app (goodIn_of _ (by decide +kernel)) ggX6_fault_X6_goAlong
theorem dX6_fault_0 : decode cX6_fault 0 = .ok (.aload_n 0, 1) := by decide +kernel
theorem dX6_fault_1 : decode cX6_fault 1 = .ok (.invokevirtual 110, 3) := by decide +kernel
theorem dX6_fault_4 : decode cX6_fault 4 = .ok (.ireturn, 1) := by decide +kernel
set_option maxRecDepth 20000 in
theorem ggX6_code_X6_goAlong : GoodIn wsX6_code wsX6_goAlong := goodIn_r _ [16, 3, 2, 5, 4, 1, 17, 18, 19, 20, 15, 21, 22, 23, 24, 25, 26, 27, 28, 29, 30, 31, 32, 8, 10, 33, 34, 35, 36, 37, 38, 39, 40, 41, 42, 43, 139, 140, 141, 142, 143, 144, 145, 146, 147, 148, 149, 150, 151, 152, 153, 154, 155, 156, 157, 158, 159, 160, 161, 162, 163, 164, 165, 166, 167, 168, 169, 170, 171, 172] (by decide +kernel) (by decide +kernel)
set_option maxRecDepth 20000 in
theorem gX6_code_X6_goAlong : GoodIn wsX6_code (wsV RX6 110 RX6 yX6_goAlong wsX6_goAlong) := goodIn_app (goodIn_of _ (by decide +kernel)) ggX6_code_X6_goAlong
set_option maxRecDepth 20000 in
theorem ggX6_code_X6_placeAll : GoodIn wsX6_code wsX6_placeAll := goodIn_r _ [47, 48, 49, 50, 51, 52, 53, 6, 54, 55, 56, 57, 15, 58, 59, 60, 7, 61, 9, 62, 63, 64, 65, 66, 67, 68, 69, 70, 71, 72, 73, 74, 75, 76, 77, 78, 79, 80, 81, 82, 83, 84, 85, 86, 87, 88, 89, 90, 91, 92, 93, 94, 95, 96, 97, 98, 99, 100, 101, 102, 103, 104, 105, 106, 107, 108, 109, 110, 111, 112, 113, 114, 115, 116, 117, 118, 119, 120, 121, 122, 123, 124, 125, 126, 127, 128, 129, 130, 131, 132, 133, 134, 135, 136, 137, 138, 139, 140, 141, 142, 143, 144, 145, 146, 147, 148, 149, 150, 151, 152, 153, 154, 155, 156, 157, 158, 159, 160, 161, 162, 163, 164, 165, 166, 167, 168, 169, 170, 171, 172] (by decide +kernel) (by decide +kernel)
set_option maxRecDepth 20000 in
theorem gX6_code_X6_placeAll : GoodIn wsX6_code (wsV RX6 120 RX6 yX6_placeAll wsX6_placeAll) := goodIn_app (goodIn_of _ (by decide +kernel)) ggX6_code_X6_placeAll
theorem dX6_code_0 : decode cX6_code 0 = .ok (.aload_n 0, 1) := by decide +kernel
theorem dX6_code_1 : decode cX6_code 1 = .ok (.invokevirtual 110, 3) := by decide +kernel
theorem dX6_code_4 : decode cX6_code 4 = .ok (.aload_n 0, 1) := by decide +kernel
theorem dX6_code_5 : decode cX6_code 5 = .ok (.getfield 74, 3) := by decide +kernel
theorem dX6_code_8 : decode cX6_code 8 = .ok (.if_icmp .lt 32, 3) := by decide +kernel
theorem dX6_code_11 : decode cX6_code 11 = .ok (.aload_n 0, 1) := by decide +kernel
theorem dX6_code_12 : decode cX6_code 12 = .ok (.getfield 80, 3) := by decide +kernel
theorem dX6_code_15 : decode cX6_code 15 = .ok (.iconst (-1), 1) := by decide +kernel
theorem dX6_code_16 : decode cX6_code 16 = .ok (.if_icmp .ne 24, 3) := by decide +kernel
theorem dX6_code_19 : decode cX6_code 19 = .ok (.aload_n 0, 1) := by decide +kernel
theorem dX6_code_20 : decode cX6_code 20 = .ok (.getfield 77, 3) := by decide +kernel
theorem dX6_code_23 : decode cX6_code 23 = .ok (.ifCond .eq 17, 3) := by decide +kernel
theorem dX6_code_26 : decode cX6_code 26 = .ok (.aload_n 0, 1) := by decide +kernel
theorem dX6_code_27 : decode cX6_code 27 = .ok (.getfield 94, 3) := by decide +kernel
theorem dX6_code_30 : decode cX6_code 30 = .ok (.aload_n 0, 1) := by decide +kernel
theorem dX6_code_31 : decode cX6_code 31 = .ok (.getfield 91, 3) := by decide +kernel
theorem dX6_code_34 : decode cX6_code 34 = .ok (.iconst (-1), 1) := by decide +kernel
theorem dX6_code_35 : decode cX6_code 35 = .ok (.ixor, 1) := by decide +kernel
theorem dX6_code_36 : decode cX6_code 36 = .ok (.iand, 1) := by decide +kernel
theorem dX6_code_37 : decode cX6_code 37 = .ok (.ifCond .eq 7, 3) := by decide +kernel
theorem dX6_code_40 : decode cX6_code 40 = .ok (.sipush (-1003), 3) := by decide +kernel
theorem dX6_code_43 : decode cX6_code 43 = .ok (.ireturn, 1) := by decide +kernel
theorem dX6_code_44 : decode cX6_code 44 = .ok (.aload_n 0, 1) := by decide +kernel
theorem dX6_code_45 : decode cX6_code 45 = .ok (.aload_n 0, 1) := by decide +kernel
theorem dX6_code_46 : decode cX6_code 46 = .ok (.getfield 77, 3) := by decide +kernel
theorem dX6_code_49 : decode cX6_code 49 = .ok (.putfield 114, 3) := by decide +kernel
theorem dX6_code_52 : decode cX6_code 52 = .ok (.iconst 0, 1) := by decide +kernel
theorem dX6_code_53 : decode cX6_code 53 = .ok (.istore_n 1, 1) := by decide +kernel
theorem dX6_code_54 : decode cX6_code 54 = .ok (.iload_n 1, 1) := by decide +kernel
theorem dX6_code_55 : decode cX6_code 55 = .ok (.aload_n 0, 1) := by decide +kernel
theorem dX6_code_56 : decode cX6_code 56 = .ok (.getfield 114, 3) := by decide +kernel
theorem dX6_code_59 : decode cX6_code 59 = .ok (.if_icmp .ge 33, 3) := by decide +kernel
theorem dX6_code_62 : decode cX6_code 62 = .ok (.aload_n 0, 1) := by decide +kernel
theorem dX6_code_63 : decode cX6_code 63 = .ok (.getfield 13, 3) := by decide +kernel
theorem dX6_code_66 : decode cX6_code 66 = .ok (.iload_n 1, 1) := by decide +kernel
theorem dX6_code_67 : decode cX6_code 67 = .ok (.aload_n 0, 1) := by decide +kernel
theorem dX6_code_68 : decode cX6_code 68 = .ok (.getfield 22, 3) := by decide +kernel
theorem dX6_code_71 : decode cX6_code 71 = .ok (.iload_n 1, 1) := by decide +kernel
theorem dX6_code_72 : decode cX6_code 72 = .ok (.iaload, 1) := by decide +kernel
theorem dX6_code_73 : decode cX6_code 73 = .ok (.iastore, 1) := by decide +kernel
theorem dX6_code_74 : decode cX6_code 74 = .ok (.aload_n 0, 1) := by decide +kernel
theorem dX6_code_75 : decode cX6_code 75 = .ok (.getfield 16, 3) := by decide +kernel
theorem dX6_code_78 : decode cX6_code 78 = .ok (.iload_n 1, 1) := by decide +kernel
theorem dX6_code_79 : decode cX6_code 79 = .ok (.aload_n 0, 1) := by decide +kernel
theorem dX6_code_80 : decode cX6_code 80 = .ok (.getfield 25, 3) := by decide +kernel
theorem dX6_code_83 : decode cX6_code 83 = .ok (.iload_n 1, 1) := by decide +kernel
theorem dX6_code_84 : decode cX6_code 84 = .ok (.iaload, 1) := by decide +kernel
theorem dX6_code_85 : decode cX6_code 85 = .ok (.iastore, 1) := by decide +kernel
theorem dX6_code_86 : decode cX6_code 86 = .ok (.iinc 1 1, 3) := by decide +kernel
theorem dX6_code_89 : decode cX6_code 89 = .ok (.goto (-35), 3) := by decide +kernel
theorem dX6_code_92 : decode cX6_code 92 = .ok (.aload_n 0, 1) := by decide +kernel
theorem dX6_code_93 : decode cX6_code 93 = .ok (.dup, 1) := by decide +kernel
theorem dX6_code_94 : decode cX6_code 94 = .ok (.getfield 117, 3) := by decide +kernel
theorem dX6_code_97 : decode cX6_code 97 = .ok (.iconst 1, 1) := by decide +kernel
theorem dX6_code_98 : decode cX6_code 98 = .ok (.iadd, 1) := by decide +kernel
theorem dX6_code_99 : decode cX6_code 99 = .ok (.putfield 117, 3) := by decide +kernel
theorem dX6_code_102 : decode cX6_code 102 = .ok (.aload_n 0, 1) := by decide +kernel
theorem dX6_code_103 : decode cX6_code 103 = .ok (.iconst 0, 1) := by decide +kernel
theorem dX6_code_104 : decode cX6_code 104 = .ok (.putfield 74, 3) := by decide +kernel
theorem dX6_code_107 : decode cX6_code 107 = .ok (.aload_n 0, 1) := by decide +kernel
theorem dX6_code_108 : decode cX6_code 108 = .ok (.invokevirtual 120, 3) := by decide +kernel
theorem dX6_code_111 : decode cX6_code 111 = .ok (.aload_n 0, 1) := by decide +kernel
theorem dX6_code_112 : decode cX6_code 112 = .ok (.getfield 114, 3) := by decide +kernel
theorem dX6_code_115 : decode cX6_code 115 = .ok (.ireturn, 1) := by decide +kernel
set_option maxRecDepth 20000 in
theorem ggX6_isItem_X6_within : GoodIn wsX6_isItem wsX6_within := goodIn_r _ [5] (by decide +kernel) (by decide +kernel)
set_option maxRecDepth 20000 in
theorem gX6_isItem_X6_within : GoodIn wsX6_isItem (va_wsS RX6 70 yX6_within wsX6_within) := goodIn_app (goodIn_of _ (by decide +kernel)) ggX6_isItem_X6_within
theorem dX6_isItem_0 : decode cX6_isItem 0 = .ok (.iload_n 1, 1) := by decide +kernel
theorem dX6_isItem_1 : decode cX6_isItem 1 = .ok (.iconst 0, 1) := by decide +kernel
theorem dX6_isItem_2 : decode cX6_isItem 2 = .ok (.aload_n 0, 1) := by decide +kernel
theorem dX6_isItem_3 : decode cX6_isItem 3 = .ok (.getfield 114, 3) := by decide +kernel
theorem dX6_isItem_6 : decode cX6_isItem 6 = .ok (.iconst 1, 1) := by decide +kernel
theorem dX6_isItem_7 : decode cX6_isItem 7 = .ok (.isub, 1) := by decide +kernel
theorem dX6_isItem_8 : decode cX6_isItem 8 = .ok (.invokestatic 70, 3) := by decide +kernel
theorem dX6_isItem_11 : decode cX6_isItem 11 = .ok (.ireturn, 1) := by decide +kernel
set_option maxRecDepth 20000 in
theorem ggX6_reach_X6_within : GoodIn wsX6_reach wsX6_within := goodIn_r _ [6] (by decide +kernel) (by decide +kernel)
set_option maxRecDepth 20000 in
theorem gX6_reach_X6_within : GoodIn wsX6_reach (va_wsS RX6 70 yX6_within wsX6_within) := goodIn_app (goodIn_of _ (by decide +kernel)) ggX6_reach_X6_within
set_option maxRecDepth 20000 in
theorem ggX6_reach_X6_placeAll : GoodIn wsX6_reach wsX6_placeAll := goodIn_r _ [10, 11, 12, 13, 14, 15, 16, 17, 18, 19, 20, 21, 5, 22, 23, 24, 25, 26, 27, 28, 29, 30, 31, 32, 33, 34, 35, 36, 37, 38, 39, 40, 41, 42, 43, 44, 45, 46, 47, 48, 49, 50, 51, 52, 53, 54, 55, 56, 57, 58, 59, 60, 61, 62, 63, 1, 64, 65, 66, 67, 68, 69, 70, 71, 72, 73, 74, 75, 76, 77, 78, 79, 80, 81, 82, 83, 84, 85, 86, 87, 88, 89, 90, 91, 92, 93, 94, 95, 96, 97, 98, 99, 100, 101, 102, 103, 104, 105, 106, 107, 108, 109, 110, 111, 112, 113, 114, 115, 116, 117, 118, 119, 120, 121, 122, 123, 124, 125, 126, 127, 128, 129, 130, 131, 132, 133, 134, 135, 136, 137] (by decide +kernel) (by decide +kernel)
set_option maxRecDepth 20000 in
theorem gX6_reach_X6_placeAll : GoodIn wsX6_reach (wsV RX6 120 RX6 yX6_placeAll wsX6_placeAll) := goodIn_app (goodIn_of _ (by decide +kernel)) ggX6_reach_X6_placeAll
theorem dX6_reach_0 : decode cX6_reach 0 = .ok (.iload_n 1, 1) := by decide +kernel
theorem dX6_reach_1 : decode cX6_reach 1 = .ok (.iconst 0, 1) := by decide +kernel
theorem dX6_reach_2 : decode cX6_reach 2 = .ok (.iconst 2, 1) := by decide +kernel
theorem dX6_reach_3 : decode cX6_reach 3 = .ok (.invokestatic 70, 3) := by decide +kernel
theorem dX6_reach_6 : decode cX6_reach 6 = .ok (.ifCond .eq 30, 3) := by decide +kernel
theorem dX6_reach_9 : decode cX6_reach 9 = .ok (.iload_n 2, 1) := by decide +kernel
theorem dX6_reach_10 : decode cX6_reach 10 = .ok (.iload_n 1, 1) := by decide +kernel
theorem dX6_reach_11 : decode cX6_reach 11 = .ok (.ifCond .ne 7, 3) := by decide +kernel
theorem dX6_reach_14 : decode cX6_reach 14 = .ok (.iconst 2, 1) := by decide +kernel
theorem dX6_reach_15 : decode cX6_reach 15 = .ok (.goto 4, 3) := by decide +kernel
theorem dX6_reach_18 : decode cX6_reach 18 = .ok (.iconst 4, 1) := by decide +kernel
theorem dX6_reach_19 : decode cX6_reach 19 = .ok (.iload_n 1, 1) := by decide +kernel
theorem dX6_reach_20 : decode cX6_reach 20 = .ok (.ifCond .ne 8, 3) := by decide +kernel
theorem dX6_reach_23 : decode cX6_reach 23 = .ok (.bipush 60, 2) := by decide +kernel
theorem dX6_reach_25 : decode cX6_reach 25 = .ok (.goto 5, 3) := by decide +kernel
theorem dX6_reach_28 : decode cX6_reach 28 = .ok (.bipush 120, 2) := by decide +kernel
theorem dX6_reach_30 : decode cX6_reach 30 = .ok (.invokestatic 70, 3) := by decide +kernel
theorem dX6_reach_33 : decode cX6_reach 33 = .ok (.ifCond .ne 7, 3) := by decide +kernel
theorem dX6_reach_36 : decode cX6_reach 36 = .ok (.sipush (-1002), 3) := by decide +kernel
theorem dX6_reach_39 : decode cX6_reach 39 = .ok (.ireturn, 1) := by decide +kernel
theorem dX6_reach_40 : decode cX6_reach 40 = .ok (.aload_n 0, 1) := by decide +kernel
theorem dX6_reach_41 : decode cX6_reach 41 = .ok (.getfield 19, 3) := by decide +kernel
theorem dX6_reach_44 : decode cX6_reach 44 = .ok (.iload_n 1, 1) := by decide +kernel
theorem dX6_reach_45 : decode cX6_reach 45 = .ok (.iaload, 1) := by decide +kernel
theorem dX6_reach_46 : decode cX6_reach 46 = .ok (.istore_n 3, 1) := by decide +kernel
theorem dX6_reach_47 : decode cX6_reach 47 = .ok (.aload_n 0, 1) := by decide +kernel
theorem dX6_reach_48 : decode cX6_reach 48 = .ok (.getfield 19, 3) := by decide +kernel
theorem dX6_reach_51 : decode cX6_reach 51 = .ok (.iload_n 1, 1) := by decide +kernel
theorem dX6_reach_52 : decode cX6_reach 52 = .ok (.iload_n 2, 1) := by decide +kernel
theorem dX6_reach_53 : decode cX6_reach 53 = .ok (.iastore, 1) := by decide +kernel
theorem dX6_reach_54 : decode cX6_reach 54 = .ok (.aload_n 0, 1) := by decide +kernel
theorem dX6_reach_55 : decode cX6_reach 55 = .ok (.dup, 1) := by decide +kernel
theorem dX6_reach_56 : decode cX6_reach 56 = .ok (.getfield 123, 3) := by decide +kernel
theorem dX6_reach_59 : decode cX6_reach 59 = .ok (.iconst 1, 1) := by decide +kernel
theorem dX6_reach_60 : decode cX6_reach 60 = .ok (.iadd, 1) := by decide +kernel
theorem dX6_reach_61 : decode cX6_reach 61 = .ok (.putfield 123, 3) := by decide +kernel
theorem dX6_reach_64 : decode cX6_reach 64 = .ok (.aload_n 0, 1) := by decide +kernel
theorem dX6_reach_65 : decode cX6_reach 65 = .ok (.invokevirtual 120, 3) := by decide +kernel
theorem dX6_reach_68 : decode cX6_reach 68 = .ok (.iload_n 3, 1) := by decide +kernel
theorem dX6_reach_69 : decode cX6_reach 69 = .ok (.ireturn, 1) := by decide +kernel
set_option maxRecDepth 20000 in
theorem ggX6_grow_X6_isItem : GoodIn wsX6_grow wsX6_isItem := goodIn_r _ [8, 9, 10, 11, 7, 12, 108, 109, 110, 111, 112, 113, 114, 115, 116, 117, 118, 119, 120, 121, 122, 123, 124, 125, 126, 127, 128, 129, 130, 131, 132, 133, 134, 135, 136, 137, 138, 139, 140, 141] (by decide +kernel) (by decide +kernel)
set_option maxRecDepth 20000 in
theorem gX6_grow_X6_isItem : GoodIn wsX6_grow (wsV RX6 126 RX6 yX6_isItem wsX6_isItem) := goodIn_app (goodIn_of _ (by decide +kernel)) ggX6_grow_X6_isItem
set_option maxRecDepth 20000 in
theorem ggX6_grow_X6_within : GoodIn wsX6_grow wsX6_within := goodIn_r _ [12] (by decide +kernel) (by decide +kernel)
set_option maxRecDepth 20000 in
theorem gX6_grow_X6_within : GoodIn wsX6_grow (va_wsS RX6 70 yX6_within wsX6_within) := goodIn_app (goodIn_of _ (by decide +kernel)) ggX6_grow_X6_within
set_option maxRecDepth 20000 in
theorem ggX6_grow_X6_placeAll : GoodIn wsX6_grow wsX6_placeAll := goodIn_r _ [16, 17, 18, 19, 20, 21, 22, 9, 23, 24, 25, 26, 7, 27, 28, 29, 1, 30, 2, 31, 32, 33, 34, 35, 36, 37, 38, 39, 40, 41, 42, 43, 44, 45, 46, 47, 48, 49, 50, 51, 52, 53, 54, 55, 56, 57, 58, 59, 60, 61, 62, 63, 64, 65, 66, 67, 68, 69, 70, 71, 72, 73, 74, 75, 76, 77, 78, 79, 80, 81, 82, 83, 84, 85, 86, 87, 88, 89, 90, 91, 92, 93, 94, 95, 96, 97, 98, 99, 100, 101, 102, 103, 104, 105, 106, 107, 108, 109, 110, 111, 112, 113, 114, 115, 116, 117, 118, 119, 120, 121, 122, 123, 124, 125, 126, 127, 128, 129, 130, 131, 132, 133, 134, 135, 136, 137, 138, 139, 140, 141] (by decide +kernel) (by decide +kernel)
set_option maxRecDepth 20000 in
theorem gX6_grow_X6_placeAll : GoodIn wsX6_grow (wsV RX6 120 RX6 yX6_placeAll wsX6_placeAll) := goodIn_app (goodIn_of _ (by decide +kernel)) ggX6_grow_X6_placeAll
theorem dX6_grow_0 : decode cX6_grow 0 = .ok (.aload_n 0, 1) := by decide +kernel
theorem dX6_grow_1 : decode cX6_grow 1 = .ok (.iload_n 1, 1) := by decide +kernel
theorem dX6_grow_2 : decode cX6_grow 2 = .ok (.invokevirtual 126, 3) := by decide +kernel
theorem dX6_grow_5 : decode cX6_grow 5 = .ok (.ifCond .ne 7, 3) := by decide +kernel
theorem dX6_grow_8 : decode cX6_grow 8 = .ok (.sipush (-1001), 3) := by decide +kernel
theorem dX6_grow_11 : decode cX6_grow 11 = .ok (.ireturn, 1) := by decide +kernel
theorem dX6_grow_12 : decode cX6_grow 12 = .ok (.iload_n 2, 1) := by decide +kernel
theorem dX6_grow_13 : decode cX6_grow 13 = .ok (.iconst 1, 1) := by decide +kernel
theorem dX6_grow_14 : decode cX6_grow 14 = .ok (.bipush 40, 2) := by decide +kernel
theorem dX6_grow_16 : decode cX6_grow 16 = .ok (.invokestatic 70, 3) := by decide +kernel
theorem dX6_grow_19 : decode cX6_grow 19 = .ok (.ifCond .ne 7, 3) := by decide +kernel
theorem dX6_grow_22 : decode cX6_grow 22 = .ok (.sipush (-1002), 3) := by decide +kernel
theorem dX6_grow_25 : decode cX6_grow 25 = .ok (.ireturn, 1) := by decide +kernel
theorem dX6_grow_26 : decode cX6_grow 26 = .ok (.aload_n 0, 1) := by decide +kernel
theorem dX6_grow_27 : decode cX6_grow 27 = .ok (.getfield 13, 3) := by decide +kernel
theorem dX6_grow_30 : decode cX6_grow 30 = .ok (.iload_n 1, 1) := by decide +kernel
theorem dX6_grow_31 : decode cX6_grow 31 = .ok (.iaload, 1) := by decide +kernel
theorem dX6_grow_32 : decode cX6_grow 32 = .ok (.ifCond .eq 7, 3) := by decide +kernel
theorem dX6_grow_35 : decode cX6_grow 35 = .ok (.sipush (-1003), 3) := by decide +kernel
theorem dX6_grow_38 : decode cX6_grow 38 = .ok (.ireturn, 1) := by decide +kernel
theorem dX6_grow_39 : decode cX6_grow 39 = .ok (.aload_n 0, 1) := by decide +kernel
theorem dX6_grow_40 : decode cX6_grow 40 = .ok (.getfield 16, 3) := by decide +kernel
theorem dX6_grow_43 : decode cX6_grow 43 = .ok (.iload_n 1, 1) := by decide +kernel
theorem dX6_grow_44 : decode cX6_grow 44 = .ok (.iaload, 1) := by decide +kernel
theorem dX6_grow_45 : decode cX6_grow 45 = .ok (.istore_n 3, 1) := by decide +kernel
theorem dX6_grow_46 : decode cX6_grow 46 = .ok (.aload_n 0, 1) := by decide +kernel
theorem dX6_grow_47 : decode cX6_grow 47 = .ok (.getfield 16, 3) := by decide +kernel
theorem dX6_grow_50 : decode cX6_grow 50 = .ok (.iload_n 1, 1) := by decide +kernel
theorem dX6_grow_51 : decode cX6_grow 51 = .ok (.iload_n 2, 1) := by decide +kernel
theorem dX6_grow_52 : decode cX6_grow 52 = .ok (.iastore, 1) := by decide +kernel
theorem dX6_grow_53 : decode cX6_grow 53 = .ok (.aload_n 0, 1) := by decide +kernel
theorem dX6_grow_54 : decode cX6_grow 54 = .ok (.dup, 1) := by decide +kernel
theorem dX6_grow_55 : decode cX6_grow 55 = .ok (.getfield 123, 3) := by decide +kernel
theorem dX6_grow_58 : decode cX6_grow 58 = .ok (.iconst 1, 1) := by decide +kernel
theorem dX6_grow_59 : decode cX6_grow 59 = .ok (.iadd, 1) := by decide +kernel
theorem dX6_grow_60 : decode cX6_grow 60 = .ok (.putfield 123, 3) := by decide +kernel
theorem dX6_grow_63 : decode cX6_grow 63 = .ok (.aload_n 0, 1) := by decide +kernel
theorem dX6_grow_64 : decode cX6_grow 64 = .ok (.invokevirtual 120, 3) := by decide +kernel
theorem dX6_grow_67 : decode cX6_grow 67 = .ok (.iload_n 3, 1) := by decide +kernel
theorem dX6_grow_68 : decode cX6_grow 68 = .ok (.ireturn, 1) := by decide +kernel
theorem dX6_up_0 : decode cX6_up 0 = .ok (.iload_n 0, 1) := by decide +kernel
theorem dX6_up_1 : decode cX6_up 1 = .ok (.iload_n 1, 1) := by decide +kernel
theorem dX6_up_2 : decode cX6_up 2 = .ok (.iadd, 1) := by decide +kernel
theorem dX6_up_3 : decode cX6_up 3 = .ok (.iconst 1, 1) := by decide +kernel
theorem dX6_up_4 : decode cX6_up 4 = .ok (.isub, 1) := by decide +kernel
theorem dX6_up_5 : decode cX6_up 5 = .ok (.iload_n 1, 1) := by decide +kernel
theorem dX6_up_6 : decode cX6_up 6 = .ok (.idiv, 1) := by decide +kernel
theorem dX6_up_7 : decode cX6_up 7 = .ok (.iload_n 1, 1) := by decide +kernel
theorem dX6_up_8 : decode cX6_up 8 = .ok (.imul, 1) := by decide +kernel
theorem dX6_up_9 : decode cX6_up 9 = .ok (.ireturn, 1) := by decide +kernel
set_option maxRecDepth 20000 in
theorem ggX6_sizeOf_X6_up : GoodIn wsX6_sizeOf wsX6_up := goodIn_r _ [7] (by decide +kernel) (by decide +kernel)
set_option maxRecDepth 20000 in
theorem gX6_sizeOf_X6_up : GoodIn wsX6_sizeOf (va_wsS RX6 129 yX6_up wsX6_up) := goodIn_app (goodIn_of _ (by decide +kernel)) ggX6_sizeOf_X6_up
theorem dX6_sizeOf_0 : decode cX6_sizeOf 0 = .ok (.aload_n 0, 1) := by decide +kernel
theorem dX6_sizeOf_1 : decode cX6_sizeOf 1 = .ok (.getfield 13, 3) := by decide +kernel
theorem dX6_sizeOf_4 : decode cX6_sizeOf 4 = .ok (.iload_n 1, 1) := by decide +kernel
theorem dX6_sizeOf_5 : decode cX6_sizeOf 5 = .ok (.iaload, 1) := by decide +kernel
theorem dX6_sizeOf_6 : decode cX6_sizeOf 6 = .ok (.tableswitch 71 0 4 #[34, 71, 41, 56, 58], 34) := by decide +kernel
theorem dX6_sizeOf_40 : decode cX6_sizeOf 40 = .ok (.aload_n 0, 1) := by decide +kernel
theorem dX6_sizeOf_41 : decode cX6_sizeOf 41 = .ok (.getfield 16, 3) := by decide +kernel
theorem dX6_sizeOf_44 : decode cX6_sizeOf 44 = .ok (.iload_n 1, 1) := by decide +kernel
theorem dX6_sizeOf_45 : decode cX6_sizeOf 45 = .ok (.iaload, 1) := by decide +kernel
theorem dX6_sizeOf_46 : decode cX6_sizeOf 46 = .ok (.ireturn, 1) := by decide +kernel
theorem dX6_sizeOf_47 : decode cX6_sizeOf 47 = .ok (.aload_n 0, 1) := by decide +kernel
theorem dX6_sizeOf_48 : decode cX6_sizeOf 48 = .ok (.getfield 28, 3) := by decide +kernel
theorem dX6_sizeOf_51 : decode cX6_sizeOf 51 = .ok (.iload_n 1, 1) := by decide +kernel
theorem dX6_sizeOf_52 : decode cX6_sizeOf 52 = .ok (.baload, 1) := by decide +kernel
theorem dX6_sizeOf_53 : decode cX6_sizeOf 53 = .ok (.ifCond .eq 7, 3) := by decide +kernel
theorem dX6_sizeOf_56 : decode cX6_sizeOf 56 = .ok (.iconst 4, 1) := by decide +kernel
theorem dX6_sizeOf_57 : decode cX6_sizeOf 57 = .ok (.goto 4, 3) := by decide +kernel
theorem dX6_sizeOf_60 : decode cX6_sizeOf 60 = .ok (.iconst 2, 1) := by decide +kernel
theorem dX6_sizeOf_61 : decode cX6_sizeOf 61 = .ok (.ireturn, 1) := by decide +kernel
theorem dX6_sizeOf_62 : decode cX6_sizeOf 62 = .ok (.iconst 0, 1) := by decide +kernel
theorem dX6_sizeOf_63 : decode cX6_sizeOf 63 = .ok (.ireturn, 1) := by decide +kernel
theorem dX6_sizeOf_64 : decode cX6_sizeOf 64 = .ok (.iload_n 2, 1) := by decide +kernel
theorem dX6_sizeOf_65 : decode cX6_sizeOf 65 = .ok (.aload_n 0, 1) := by decide +kernel
theorem dX6_sizeOf_66 : decode cX6_sizeOf 66 = .ok (.getfield 16, 3) := by decide +kernel
theorem dX6_sizeOf_69 : decode cX6_sizeOf 69 = .ok (.iload_n 1, 1) := by decide +kernel
theorem dX6_sizeOf_70 : decode cX6_sizeOf 70 = .ok (.iaload, 1) := by decide +kernel
theorem dX6_sizeOf_71 : decode cX6_sizeOf 71 = .ok (.invokestatic 129, 3) := by decide +kernel
theorem dX6_sizeOf_74 : decode cX6_sizeOf 74 = .ok (.iload_n 2, 1) := by decide +kernel
theorem dX6_sizeOf_75 : decode cX6_sizeOf 75 = .ok (.isub, 1) := by decide +kernel
theorem dX6_sizeOf_76 : decode cX6_sizeOf 76 = .ok (.ireturn, 1) := by decide +kernel
theorem dX6_sizeOf_77 : decode cX6_sizeOf 77 = .ok (.iconst 2, 1) := by decide +kernel
theorem dX6_sizeOf_78 : decode cX6_sizeOf 78 = .ok (.ireturn, 1) := by decide +kernel
set_option maxRecDepth 20000 in
theorem ggX6_layGap_X6_up : GoodIn wsX6_layGap wsX6_up := goodIn_r _ [13] (by decide +kernel) (by decide +kernel)
set_option maxRecDepth 20000 in
theorem gX6_layGap_X6_up : GoodIn wsX6_layGap (va_wsS RX6 129 yX6_up wsX6_up) := goodIn_app (goodIn_of _ (by decide +kernel)) ggX6_layGap_X6_up
theorem dX6_layGap_0 : decode cX6_layGap 0 = .ok (.iload_n 2, 1) := by decide +kernel
theorem dX6_layGap_1 : decode cX6_layGap 1 = .ok (.istore_n 3, 1) := by decide +kernel
theorem dX6_layGap_2 : decode cX6_layGap 2 = .ok (.iconst 0, 1) := by decide +kernel
theorem dX6_layGap_3 : decode cX6_layGap 3 = .ok (.istore 4, 2) := by decide +kernel
theorem dX6_layGap_5 : decode cX6_layGap 5 = .ok (.iload 4, 2) := by decide +kernel
theorem dX6_layGap_7 : decode cX6_layGap 7 = .ok (.aload_n 0, 1) := by decide +kernel
theorem dX6_layGap_8 : decode cX6_layGap 8 = .ok (.getfield 133, 3) := by decide +kernel
theorem dX6_layGap_11 : decode cX6_layGap 11 = .ok (.if_icmp .ge 31, 3) := by decide +kernel
theorem dX6_layGap_14 : decode cX6_layGap 14 = .ok (.aload_n 0, 1) := by decide +kernel
theorem dX6_layGap_15 : decode cX6_layGap 15 = .ok (.getfield 35, 3) := by decide +kernel
theorem dX6_layGap_18 : decode cX6_layGap 18 = .ok (.iload 4, 2) := by decide +kernel
theorem dX6_layGap_20 : decode cX6_layGap 20 = .ok (.iaload, 1) := by decide +kernel
theorem dX6_layGap_21 : decode cX6_layGap 21 = .ok (.iload_n 1, 1) := by decide +kernel
theorem dX6_layGap_22 : decode cX6_layGap 22 = .ok (.if_icmp .ne 14, 3) := by decide +kernel
theorem dX6_layGap_25 : decode cX6_layGap 25 = .ok (.aload_n 0, 1) := by decide +kernel
theorem dX6_layGap_26 : decode cX6_layGap 26 = .ok (.getfield 47, 3) := by decide +kernel
theorem dX6_layGap_29 : decode cX6_layGap 29 = .ok (.iload 4, 2) := by decide +kernel
theorem dX6_layGap_31 : decode cX6_layGap 31 = .ok (.iload_n 3, 1) := by decide +kernel
theorem dX6_layGap_32 : decode cX6_layGap 32 = .ok (.iastore, 1) := by decide +kernel
theorem dX6_layGap_33 : decode cX6_layGap 33 = .ok (.iinc 3 4, 3) := by decide +kernel
theorem dX6_layGap_36 : decode cX6_layGap 36 = .ok (.iinc 4 1, 3) := by decide +kernel
theorem dX6_layGap_39 : decode cX6_layGap 39 = .ok (.goto (-34), 3) := by decide +kernel
theorem dX6_layGap_42 : decode cX6_layGap 42 = .ok (.aload_n 0, 1) := by decide +kernel
theorem dX6_layGap_43 : decode cX6_layGap 43 = .ok (.getfield 53, 3) := by decide +kernel
theorem dX6_layGap_46 : decode cX6_layGap 46 = .ok (.iload_n 1, 1) := by decide +kernel
theorem dX6_layGap_47 : decode cX6_layGap 47 = .ok (.iload_n 3, 1) := by decide +kernel
theorem dX6_layGap_48 : decode cX6_layGap 48 = .ok (.iastore, 1) := by decide +kernel
theorem dX6_layGap_49 : decode cX6_layGap 49 = .ok (.iconst 0, 1) := by decide +kernel
theorem dX6_layGap_50 : decode cX6_layGap 50 = .ok (.istore 4, 2) := by decide +kernel
theorem dX6_layGap_52 : decode cX6_layGap 52 = .ok (.iconst 0, 1) := by decide +kernel
theorem dX6_layGap_53 : decode cX6_layGap 53 = .ok (.istore 5, 2) := by decide +kernel
theorem dX6_layGap_55 : decode cX6_layGap 55 = .ok (.iload 5, 2) := by decide +kernel
theorem dX6_layGap_57 : decode cX6_layGap 57 = .ok (.aload_n 0, 1) := by decide +kernel
theorem dX6_layGap_58 : decode cX6_layGap 58 = .ok (.getfield 136, 3) := by decide +kernel
theorem dX6_layGap_61 : decode cX6_layGap 61 = .ok (.if_icmp .ge 65, 3) := by decide +kernel
theorem dX6_layGap_64 : decode cX6_layGap 64 = .ok (.aload_n 0, 1) := by decide +kernel
theorem dX6_layGap_65 : decode cX6_layGap 65 = .ok (.getfield 41, 3) := by decide +kernel
theorem dX6_layGap_68 : decode cX6_layGap 68 = .ok (.iload 5, 2) := by decide +kernel
theorem dX6_layGap_70 : decode cX6_layGap 70 = .ok (.iaload, 1) := by decide +kernel
theorem dX6_layGap_71 : decode cX6_layGap 71 = .ok (.iload_n 1, 1) := by decide +kernel
theorem dX6_layGap_72 : decode cX6_layGap 72 = .ok (.if_icmp .ne 48, 3) := by decide +kernel
theorem dX6_layGap_75 : decode cX6_layGap 75 = .ok (.aload_n 0, 1) := by decide +kernel
theorem dX6_layGap_76 : decode cX6_layGap 76 = .ok (.dup, 1) := by decide +kernel
theorem dX6_layGap_77 : decode cX6_layGap 77 = .ok (.getfield 139, 3) := by decide +kernel
theorem dX6_layGap_80 : decode cX6_layGap 80 = .ok (.iload 4, 2) := by decide +kernel
theorem dX6_layGap_82 : decode cX6_layGap 82 = .ok (.ifCond .eq 7, 3) := by decide +kernel
theorem dX6_layGap_85 : decode cX6_layGap 85 = .ok (.iconst 0, 1) := by decide +kernel
theorem dX6_layGap_86 : decode cX6_layGap 86 = .ok (.goto 10, 3) := by decide +kernel
theorem dX6_layGap_89 : decode cX6_layGap 89 = .ok (.iload_n 3, 1) := by decide +kernel
theorem dX6_layGap_90 : decode cX6_layGap 90 = .ok (.iconst 4, 1) := by decide +kernel
theorem dX6_layGap_91 : decode cX6_layGap 91 = .ok (.invokestatic 129, 3) := by decide +kernel
theorem dX6_layGap_94 : decode cX6_layGap 94 = .ok (.iload_n 3, 1) := by decide +kernel
theorem dX6_layGap_95 : decode cX6_layGap 95 = .ok (.isub, 1) := by decide +kernel
theorem dX6_layGap_96 : decode cX6_layGap 96 = .ok (.iadd, 1) := by decide +kernel
theorem dX6_layGap_97 : decode cX6_layGap 97 = .ok (.putfield 139, 3) := by decide +kernel
theorem dX6_layGap_100 : decode cX6_layGap 100 = .ok (.iload_n 3, 1) := by decide +kernel
theorem dX6_layGap_101 : decode cX6_layGap 101 = .ok (.iconst 4, 1) := by decide +kernel
theorem dX6_layGap_102 : decode cX6_layGap 102 = .ok (.invokestatic 129, 3) := by decide +kernel
theorem dX6_layGap_105 : decode cX6_layGap 105 = .ok (.istore_n 3, 1) := by decide +kernel
theorem dX6_layGap_106 : decode cX6_layGap 106 = .ok (.aload_n 0, 1) := by decide +kernel
theorem dX6_layGap_107 : decode cX6_layGap 107 = .ok (.getfield 50, 3) := by decide +kernel
theorem dX6_layGap_110 : decode cX6_layGap 110 = .ok (.iload 5, 2) := by decide +kernel
theorem dX6_layGap_112 : decode cX6_layGap 112 = .ok (.iload_n 3, 1) := by decide +kernel
theorem dX6_layGap_113 : decode cX6_layGap 113 = .ok (.iastore, 1) := by decide +kernel
theorem dX6_layGap_114 : decode cX6_layGap 114 = .ok (.iinc 3 4, 3) := by decide +kernel
theorem dX6_layGap_117 : decode cX6_layGap 117 = .ok (.iconst 1, 1) := by decide +kernel
theorem dX6_layGap_118 : decode cX6_layGap 118 = .ok (.istore 4, 2) := by decide +kernel
theorem dX6_layGap_120 : decode cX6_layGap 120 = .ok (.iinc 5 1, 3) := by decide +kernel
theorem dX6_layGap_123 : decode cX6_layGap 123 = .ok (.goto (-68), 3) := by decide +kernel
theorem dX6_layGap_126 : decode cX6_layGap 126 = .ok (.aload_n 0, 1) := by decide +kernel
theorem dX6_layGap_127 : decode cX6_layGap 127 = .ok (.getfield 56, 3) := by decide +kernel
theorem dX6_layGap_130 : decode cX6_layGap 130 = .ok (.iload_n 1, 1) := by decide +kernel
theorem dX6_layGap_131 : decode cX6_layGap 131 = .ok (.iload_n 3, 1) := by decide +kernel
theorem dX6_layGap_132 : decode cX6_layGap 132 = .ok (.iconst 4, 1) := by decide +kernel
theorem dX6_layGap_133 : decode cX6_layGap 133 = .ok (.invokestatic 129, 3) := by decide +kernel
theorem dX6_layGap_136 : decode cX6_layGap 136 = .ok (.iastore, 1) := by decide +kernel
theorem dX6_layGap_137 : decode cX6_layGap 137 = .ok (.iload_n 3, 1) := by decide +kernel
theorem dX6_layGap_138 : decode cX6_layGap 138 = .ok (.ireturn, 1) := by decide +kernel
set_option maxRecDepth 20000 in
theorem ggX6_layAll_X6_sizeOf : GoodIn wsX6_layAll wsX6_sizeOf := goodIn_r _ [12, 4, 6, 13, 14, 15, 11, 16, 29, 30, 31, 32, 33, 34, 35, 36, 37, 38, 39, 40, 41, 42, 43, 44, 45, 46, 47, 48, 49, 50, 51, 52, 53, 54, 55, 56, 57, 58, 59, 60, 61, 62] (by decide +kernel) (by decide +kernel)
set_option maxRecDepth 20000 in
theorem gX6_layAll_X6_sizeOf : GoodIn wsX6_layAll (wsV RX6 142 RX6 yX6_sizeOf wsX6_sizeOf) := goodIn_app (goodIn_of _ (by decide +kernel)) ggX6_layAll_X6_sizeOf
set_option maxRecDepth 20000 in
theorem ggX6_layAll_X6_layGap : GoodIn wsX6_layAll wsX6_layGap := goodIn_r _ [20, 21, 22, 23, 24, 25, 26, 1, 27, 28, 14, 15, 11, 16, 29, 30, 31, 32, 33, 34, 35, 36, 37, 38, 39, 40, 41, 42, 43, 44, 45, 46, 47, 48, 49, 50, 51, 52, 53, 54, 55, 56, 57, 58, 59, 60, 61, 62] (by decide +kernel) (by decide +kernel)
set_option maxRecDepth 20000 in
theorem gX6_layAll_X6_layGap : GoodIn wsX6_layAll (wsV RX6 145 RX6 yX6_layGap wsX6_layGap) := goodIn_app (goodIn_of _ (by decide +kernel)) ggX6_layAll_X6_layGap
theorem dX6_layAll_0 : decode cX6_layAll 0 = .ok (.iconst 0, 1) := by decide +kernel
theorem dX6_layAll_1 : decode cX6_layAll 1 = .ok (.istore_n 1, 1) := by decide +kernel
theorem dX6_layAll_2 : decode cX6_layAll 2 = .ok (.aload_n 0, 1) := by decide +kernel
theorem dX6_layAll_3 : decode cX6_layAll 3 = .ok (.iconst 0, 1) := by decide +kernel
theorem dX6_layAll_4 : decode cX6_layAll 4 = .ok (.putfield 139, 3) := by decide +kernel
theorem dX6_layAll_7 : decode cX6_layAll 7 = .ok (.iconst 0, 1) := by decide +kernel
theorem dX6_layAll_8 : decode cX6_layAll 8 = .ok (.istore_n 2, 1) := by decide +kernel
theorem dX6_layAll_9 : decode cX6_layAll 9 = .ok (.iload_n 2, 1) := by decide +kernel
theorem dX6_layAll_10 : decode cX6_layAll 10 = .ok (.aload_n 0, 1) := by decide +kernel
theorem dX6_layAll_11 : decode cX6_layAll 11 = .ok (.getfield 114, 3) := by decide +kernel
theorem dX6_layAll_14 : decode cX6_layAll 14 = .ok (.if_icmp .ge 93, 3) := by decide +kernel
theorem dX6_layAll_17 : decode cX6_layAll 17 = .ok (.aload_n 0, 1) := by decide +kernel
theorem dX6_layAll_18 : decode cX6_layAll 18 = .ok (.getfield 44, 3) := by decide +kernel
theorem dX6_layAll_21 : decode cX6_layAll 21 = .ok (.iload_n 2, 1) := by decide +kernel
theorem dX6_layAll_22 : decode cX6_layAll 22 = .ok (.iload_n 1, 1) := by decide +kernel
theorem dX6_layAll_23 : decode cX6_layAll 23 = .ok (.iastore, 1) := by decide +kernel
theorem dX6_layAll_24 : decode cX6_layAll 24 = .ok (.aload_n 0, 1) := by decide +kernel
theorem dX6_layAll_25 : decode cX6_layAll 25 = .ok (.getfield 13, 3) := by decide +kernel
theorem dX6_layAll_28 : decode cX6_layAll 28 = .ok (.iload_n 2, 1) := by decide +kernel
theorem dX6_layAll_29 : decode cX6_layAll 29 = .ok (.iaload, 1) := by decide +kernel
theorem dX6_layAll_30 : decode cX6_layAll 30 = .ok (.iconst 3, 1) := by decide +kernel
theorem dX6_layAll_31 : decode cX6_layAll 31 = .ok (.if_icmp .ne 15, 3) := by decide +kernel
theorem dX6_layAll_34 : decode cX6_layAll 34 = .ok (.aload_n 0, 1) := by decide +kernel
theorem dX6_layAll_35 : decode cX6_layAll 35 = .ok (.getfield 59, 3) := by decide +kernel
theorem dX6_layAll_38 : decode cX6_layAll 38 = .ok (.aload_n 0, 1) := by decide +kernel
theorem dX6_layAll_39 : decode cX6_layAll 39 = .ok (.getfield 16, 3) := by decide +kernel
theorem dX6_layAll_42 : decode cX6_layAll 42 = .ok (.iload_n 2, 1) := by decide +kernel
theorem dX6_layAll_43 : decode cX6_layAll 43 = .ok (.iaload, 1) := by decide +kernel
theorem dX6_layAll_44 : decode cX6_layAll 44 = .ok (.iload_n 1, 1) := by decide +kernel
theorem dX6_layAll_45 : decode cX6_layAll 45 = .ok (.iastore, 1) := by decide +kernel
theorem dX6_layAll_46 : decode cX6_layAll 46 = .ok (.aload_n 0, 1) := by decide +kernel
theorem dX6_layAll_47 : decode cX6_layAll 47 = .ok (.dup, 1) := by decide +kernel
theorem dX6_layAll_48 : decode cX6_layAll 48 = .ok (.getfield 139, 3) := by decide +kernel
theorem dX6_layAll_51 : decode cX6_layAll 51 = .ok (.aload_n 0, 1) := by decide +kernel
theorem dX6_layAll_52 : decode cX6_layAll 52 = .ok (.getfield 13, 3) := by decide +kernel
theorem dX6_layAll_55 : decode cX6_layAll 55 = .ok (.iload_n 2, 1) := by decide +kernel
theorem dX6_layAll_56 : decode cX6_layAll 56 = .ok (.iaload, 1) := by decide +kernel
theorem dX6_layAll_57 : decode cX6_layAll 57 = .ok (.iconst 4, 1) := by decide +kernel
theorem dX6_layAll_58 : decode cX6_layAll 58 = .ok (.if_icmp .ne 12, 3) := by decide +kernel
theorem dX6_layAll_61 : decode cX6_layAll 61 = .ok (.aload_n 0, 1) := by decide +kernel
theorem dX6_layAll_62 : decode cX6_layAll 62 = .ok (.iload_n 2, 1) := by decide +kernel
theorem dX6_layAll_63 : decode cX6_layAll 63 = .ok (.iload_n 1, 1) := by decide +kernel
theorem dX6_layAll_64 : decode cX6_layAll 64 = .ok (.invokevirtual 142, 3) := by decide +kernel
theorem dX6_layAll_67 : decode cX6_layAll 67 = .ok (.goto 4, 3) := by decide +kernel
theorem dX6_layAll_70 : decode cX6_layAll 70 = .ok (.iconst 0, 1) := by decide +kernel
theorem dX6_layAll_71 : decode cX6_layAll 71 = .ok (.iadd, 1) := by decide +kernel
theorem dX6_layAll_72 : decode cX6_layAll 72 = .ok (.putfield 139, 3) := by decide +kernel
theorem dX6_layAll_75 : decode cX6_layAll 75 = .ok (.iload_n 1, 1) := by decide +kernel
theorem dX6_layAll_76 : decode cX6_layAll 76 = .ok (.aload_n 0, 1) := by decide +kernel
theorem dX6_layAll_77 : decode cX6_layAll 77 = .ok (.iload_n 2, 1) := by decide +kernel
theorem dX6_layAll_78 : decode cX6_layAll 78 = .ok (.iload_n 1, 1) := by decide +kernel
theorem dX6_layAll_79 : decode cX6_layAll 79 = .ok (.invokevirtual 142, 3) := by decide +kernel
theorem dX6_layAll_82 : decode cX6_layAll 82 = .ok (.iadd, 1) := by decide +kernel
theorem dX6_layAll_83 : decode cX6_layAll 83 = .ok (.istore_n 1, 1) := by decide +kernel
theorem dX6_layAll_84 : decode cX6_layAll 84 = .ok (.aload_n 0, 1) := by decide +kernel
theorem dX6_layAll_85 : decode cX6_layAll 85 = .ok (.getfield 13, 3) := by decide +kernel
theorem dX6_layAll_88 : decode cX6_layAll 88 = .ok (.iload_n 2, 1) := by decide +kernel
theorem dX6_layAll_89 : decode cX6_layAll 89 = .ok (.iaload, 1) := by decide +kernel
theorem dX6_layAll_90 : decode cX6_layAll 90 = .ok (.iconst 5, 1) := by decide +kernel
theorem dX6_layAll_91 : decode cX6_layAll 91 = .ok (.if_icmp .ne 10, 3) := by decide +kernel
theorem dX6_layAll_94 : decode cX6_layAll 94 = .ok (.aload_n 0, 1) := by decide +kernel
theorem dX6_layAll_95 : decode cX6_layAll 95 = .ok (.iload_n 2, 1) := by decide +kernel
theorem dX6_layAll_96 : decode cX6_layAll 96 = .ok (.iload_n 1, 1) := by decide +kernel
theorem dX6_layAll_97 : decode cX6_layAll 97 = .ok (.invokevirtual 145, 3) := by decide +kernel
theorem dX6_layAll_100 : decode cX6_layAll 100 = .ok (.istore_n 1, 1) := by decide +kernel
theorem dX6_layAll_101 : decode cX6_layAll 101 = .ok (.iinc 2 1, 3) := by decide +kernel
theorem dX6_layAll_104 : decode cX6_layAll 104 = .ok (.goto (-95), 3) := by decide +kernel
theorem dX6_layAll_107 : decode cX6_layAll 107 = .ok (.aload_n 0, 1) := by decide +kernel
theorem dX6_layAll_108 : decode cX6_layAll 108 = .ok (.iload_n 1, 1) := by decide +kernel
theorem dX6_layAll_109 : decode cX6_layAll 109 = .ok (.putfield 148, 3) := by decide +kernel
theorem dX6_layAll_112 : decode cX6_layAll 112 = .ok (.return_, 1) := by decide +kernel
theorem dX6_apart_0 : decode cX6_apart 0 = .ok (.iload_n 0, 1) := by decide +kernel
theorem dX6_apart_1 : decode cX6_apart 1 = .ok (.iload_n 1, 1) := by decide +kernel
theorem dX6_apart_2 : decode cX6_apart 2 = .ok (.if_icmp .ge 9, 3) := by decide +kernel
theorem dX6_apart_5 : decode cX6_apart 5 = .ok (.iload_n 1, 1) := by decide +kernel
theorem dX6_apart_6 : decode cX6_apart 6 = .ok (.iload_n 0, 1) := by decide +kernel
theorem dX6_apart_7 : decode cX6_apart 7 = .ok (.isub, 1) := by decide +kernel
theorem dX6_apart_8 : decode cX6_apart 8 = .ok (.goto 6, 3) := by decide +kernel
theorem dX6_apart_11 : decode cX6_apart 11 = .ok (.iload_n 0, 1) := by decide +kernel
theorem dX6_apart_12 : decode cX6_apart 12 = .ok (.iload_n 1, 1) := by decide +kernel
theorem dX6_apart_13 : decode cX6_apart 13 = .ok (.isub, 1) := by decide +kernel
theorem dX6_apart_14 : decode cX6_apart 14 = .ok (.ireturn, 1) := by decide +kernel
theorem dX6_constantFor_0 : decode cX6_constantFor 0 = .ok (.iconst (-1), 1) := by decide +kernel
theorem dX6_constantFor_1 : decode cX6_constantFor 1 = .ok (.istore_n 2, 1) := by decide +kernel
theorem dX6_constantFor_2 : decode cX6_constantFor 2 = .ok (.iconst 0, 1) := by decide +kernel
theorem dX6_constantFor_3 : decode cX6_constantFor 3 = .ok (.istore_n 3, 1) := by decide +kernel
theorem dX6_constantFor_4 : decode cX6_constantFor 4 = .ok (.iload_n 3, 1) := by decide +kernel
theorem dX6_constantFor_5 : decode cX6_constantFor 5 = .ok (.aload_n 0, 1) := by decide +kernel
theorem dX6_constantFor_6 : decode cX6_constantFor 6 = .ok (.getfield 136, 3) := by decide +kernel
theorem dX6_constantFor_9 : decode cX6_constantFor 9 = .ok (.if_icmp .ge 84, 3) := by decide +kernel
theorem dX6_constantFor_12 : decode cX6_constantFor 12 = .ok (.aload_n 0, 1) := by decide +kernel
theorem dX6_constantFor_13 : decode cX6_constantFor 13 = .ok (.getfield 50, 3) := by decide +kernel
theorem dX6_constantFor_16 : decode cX6_constantFor 16 = .ok (.iload_n 3, 1) := by decide +kernel
theorem dX6_constantFor_17 : decode cX6_constantFor 17 = .ok (.iaload, 1) := by decide +kernel
theorem dX6_constantFor_18 : decode cX6_constantFor 18 = .ok (.aload_n 0, 1) := by decide +kernel
theorem dX6_constantFor_19 : decode cX6_constantFor 19 = .ok (.getfield 44, 3) := by decide +kernel
theorem dX6_constantFor_22 : decode cX6_constantFor 22 = .ok (.iload_n 1, 1) := by decide +kernel
theorem dX6_constantFor_23 : decode cX6_constantFor 23 = .ok (.iaload, 1) := by decide +kernel
theorem dX6_constantFor_24 : decode cX6_constantFor 24 = .ok (.isub, 1) := by decide +kernel
theorem dX6_constantFor_25 : decode cX6_constantFor 25 = .ok (.istore 4, 2) := by decide +kernel
theorem dX6_constantFor_27 : decode cX6_constantFor 27 = .ok (.aload_n 0, 1) := by decide +kernel
theorem dX6_constantFor_28 : decode cX6_constantFor 28 = .ok (.getfield 38, 3) := by decide +kernel
theorem dX6_constantFor_31 : decode cX6_constantFor 31 = .ok (.iload_n 3, 1) := by decide +kernel
theorem dX6_constantFor_32 : decode cX6_constantFor 32 = .ok (.iaload, 1) := by decide +kernel
theorem dX6_constantFor_33 : decode cX6_constantFor 33 = .ok (.aload_n 0, 1) := by decide +kernel
theorem dX6_constantFor_34 : decode cX6_constantFor 34 = .ok (.getfield 16, 3) := by decide +kernel
theorem dX6_constantFor_37 : decode cX6_constantFor 37 = .ok (.iload_n 1, 1) := by decide +kernel
theorem dX6_constantFor_38 : decode cX6_constantFor 38 = .ok (.iaload, 1) := by decide +kernel
theorem dX6_constantFor_39 : decode cX6_constantFor 39 = .ok (.if_icmp .ne 48, 3) := by decide +kernel
theorem dX6_constantFor_42 : decode cX6_constantFor 42 = .ok (.iload 4, 2) := by decide +kernel
theorem dX6_constantFor_44 : decode cX6_constantFor 44 = .ok (.ifCond .le 43, 3) := by decide +kernel
theorem dX6_constantFor_47 : decode cX6_constantFor 47 = .ok (.iload 4, 2) := by decide +kernel
theorem dX6_constantFor_49 : decode cX6_constantFor 49 = .ok (.aload_n 0, 1) := by decide +kernel
theorem dX6_constantFor_50 : decode cX6_constantFor 50 = .ok (.getfield 19, 3) := by decide +kernel
theorem dX6_constantFor_53 : decode cX6_constantFor 53 = .ok (.iconst 2, 1) := by decide +kernel
theorem dX6_constantFor_54 : decode cX6_constantFor 54 = .ok (.iaload, 1) := by decide +kernel
theorem dX6_constantFor_55 : decode cX6_constantFor 55 = .ok (.if_icmp .gt 32, 3) := by decide +kernel
theorem dX6_constantFor_58 : decode cX6_constantFor 58 = .ok (.iload_n 2, 1) := by decide +kernel
theorem dX6_constantFor_59 : decode cX6_constantFor 59 = .ok (.iconst (-1), 1) := by decide +kernel
theorem dX6_constantFor_60 : decode cX6_constantFor 60 = .ok (.if_icmp .eq 21, 3) := by decide +kernel
theorem dX6_constantFor_63 : decode cX6_constantFor 63 = .ok (.iload 4, 2) := by decide +kernel
theorem dX6_constantFor_65 : decode cX6_constantFor 65 = .ok (.aload_n 0, 1) := by decide +kernel
theorem dX6_constantFor_66 : decode cX6_constantFor 66 = .ok (.getfield 50, 3) := by decide +kernel
theorem dX6_constantFor_69 : decode cX6_constantFor 69 = .ok (.iload_n 2, 1) := by decide +kernel
theorem dX6_constantFor_70 : decode cX6_constantFor 70 = .ok (.iaload, 1) := by decide +kernel
theorem dX6_constantFor_71 : decode cX6_constantFor 71 = .ok (.aload_n 0, 1) := by decide +kernel
theorem dX6_constantFor_72 : decode cX6_constantFor 72 = .ok (.getfield 44, 3) := by decide +kernel
theorem dX6_constantFor_75 : decode cX6_constantFor 75 = .ok (.iload_n 1, 1) := by decide +kernel
theorem dX6_constantFor_76 : decode cX6_constantFor 76 = .ok (.iaload, 1) := by decide +kernel
theorem dX6_constantFor_77 : decode cX6_constantFor 77 = .ok (.isub, 1) := by decide +kernel
theorem dX6_constantFor_78 : decode cX6_constantFor 78 = .ok (.if_icmp .ge 7, 3) := by decide +kernel
theorem dX6_constantFor_81 : decode cX6_constantFor 81 = .ok (.iload_n 3, 1) := by decide +kernel
theorem dX6_constantFor_82 : decode cX6_constantFor 82 = .ok (.goto 4, 3) := by decide +kernel
theorem dX6_constantFor_85 : decode cX6_constantFor 85 = .ok (.iload_n 2, 1) := by decide +kernel
theorem dX6_constantFor_86 : decode cX6_constantFor 86 = .ok (.istore_n 2, 1) := by decide +kernel
theorem dX6_constantFor_87 : decode cX6_constantFor 87 = .ok (.iinc 3 1, 3) := by decide +kernel
theorem dX6_constantFor_90 : decode cX6_constantFor 90 = .ok (.goto (-86), 3) := by decide +kernel
theorem dX6_constantFor_93 : decode cX6_constantFor 93 = .ok (.iload_n 2, 1) := by decide +kernel
theorem dX6_constantFor_94 : decode cX6_constantFor 94 = .ok (.ireturn, 1) := by decide +kernel
set_option maxRecDepth 20000 in
theorem ggX6_islandFor_X6_apart : GoodIn wsX6_islandFor wsX6_apart := goodIn_r _ [10] (by decide +kernel) (by decide +kernel)
set_option maxRecDepth 20000 in
theorem gX6_islandFor_X6_apart : GoodIn wsX6_islandFor (va_wsS RX6 151 yX6_apart wsX6_apart) := goodIn_app (goodIn_of _ (by decide +kernel)) ggX6_islandFor_X6_apart
theorem dX6_islandFor_0 : decode cX6_islandFor 0 = .ok (.iconst (-1), 1) := by decide +kernel
theorem dX6_islandFor_1 : decode cX6_islandFor 1 = .ok (.istore_n 3, 1) := by decide +kernel
theorem dX6_islandFor_2 : decode cX6_islandFor 2 = .ok (.iconst 0, 1) := by decide +kernel
theorem dX6_islandFor_3 : decode cX6_islandFor 3 = .ok (.istore 4, 2) := by decide +kernel
theorem dX6_islandFor_5 : decode cX6_islandFor 5 = .ok (.iload 4, 2) := by decide +kernel
theorem dX6_islandFor_7 : decode cX6_islandFor 7 = .ok (.aload_n 0, 1) := by decide +kernel
theorem dX6_islandFor_8 : decode cX6_islandFor 8 = .ok (.getfield 133, 3) := by decide +kernel
theorem dX6_islandFor_11 : decode cX6_islandFor 11 = .ok (.if_icmp .ge 137, 3) := by decide +kernel
theorem dX6_islandFor_14 : decode cX6_islandFor 14 = .ok (.aload_n 0, 1) := by decide +kernel
theorem dX6_islandFor_15 : decode cX6_islandFor 15 = .ok (.getfield 47, 3) := by decide +kernel
theorem dX6_islandFor_18 : decode cX6_islandFor 18 = .ok (.iload 4, 2) := by decide +kernel
theorem dX6_islandFor_20 : decode cX6_islandFor 20 = .ok (.iaload, 1) := by decide +kernel
theorem dX6_islandFor_21 : decode cX6_islandFor 21 = .ok (.aload_n 0, 1) := by decide +kernel
theorem dX6_islandFor_22 : decode cX6_islandFor 22 = .ok (.getfield 59, 3) := by decide +kernel
theorem dX6_islandFor_25 : decode cX6_islandFor 25 = .ok (.iload_n 2, 1) := by decide +kernel
theorem dX6_islandFor_26 : decode cX6_islandFor 26 = .ok (.iaload, 1) := by decide +kernel
theorem dX6_islandFor_27 : decode cX6_islandFor 27 = .ok (.invokestatic 151, 3) := by decide +kernel
theorem dX6_islandFor_30 : decode cX6_islandFor 30 = .ok (.istore 5, 2) := by decide +kernel
theorem dX6_islandFor_32 : decode cX6_islandFor 32 = .ok (.aload_n 0, 1) := by decide +kernel
theorem dX6_islandFor_33 : decode cX6_islandFor 33 = .ok (.getfield 32, 3) := by decide +kernel
theorem dX6_islandFor_36 : decode cX6_islandFor 36 = .ok (.iload 4, 2) := by decide +kernel
theorem dX6_islandFor_38 : decode cX6_islandFor 38 = .ok (.iaload, 1) := by decide +kernel
theorem dX6_islandFor_39 : decode cX6_islandFor 39 = .ok (.iload_n 2, 1) := by decide +kernel
theorem dX6_islandFor_40 : decode cX6_islandFor 40 = .ok (.if_icmp .ne 102, 3) := by decide +kernel
theorem dX6_islandFor_43 : decode cX6_islandFor 43 = .ok (.aload_n 0, 1) := by decide +kernel
theorem dX6_islandFor_44 : decode cX6_islandFor 44 = .ok (.getfield 47, 3) := by decide +kernel
theorem dX6_islandFor_47 : decode cX6_islandFor 47 = .ok (.iload 4, 2) := by decide +kernel
theorem dX6_islandFor_49 : decode cX6_islandFor 49 = .ok (.iaload, 1) := by decide +kernel
theorem dX6_islandFor_50 : decode cX6_islandFor 50 = .ok (.iload_n 1, 1) := by decide +kernel
theorem dX6_islandFor_51 : decode cX6_islandFor 51 = .ok (.invokestatic 151, 3) := by decide +kernel
theorem dX6_islandFor_54 : decode cX6_islandFor 54 = .ok (.aload_n 0, 1) := by decide +kernel
theorem dX6_islandFor_55 : decode cX6_islandFor 55 = .ok (.getfield 19, 3) := by decide +kernel
theorem dX6_islandFor_58 : decode cX6_islandFor 58 = .ok (.iconst 1, 1) := by decide +kernel
theorem dX6_islandFor_59 : decode cX6_islandFor 59 = .ok (.iaload, 1) := by decide +kernel
theorem dX6_islandFor_60 : decode cX6_islandFor 60 = .ok (.if_icmp .gt 82, 3) := by decide +kernel
theorem dX6_islandFor_63 : decode cX6_islandFor 63 = .ok (.iload 5, 2) := by decide +kernel
theorem dX6_islandFor_65 : decode cX6_islandFor 65 = .ok (.iload_n 1, 1) := by decide +kernel
theorem dX6_islandFor_66 : decode cX6_islandFor 66 = .ok (.aload_n 0, 1) := by decide +kernel
theorem dX6_islandFor_67 : decode cX6_islandFor 67 = .ok (.getfield 59, 3) := by decide +kernel
theorem dX6_islandFor_70 : decode cX6_islandFor 70 = .ok (.iload_n 2, 1) := by decide +kernel
theorem dX6_islandFor_71 : decode cX6_islandFor 71 = .ok (.iaload, 1) := by decide +kernel
theorem dX6_islandFor_72 : decode cX6_islandFor 72 = .ok (.invokestatic 151, 3) := by decide +kernel
theorem dX6_islandFor_75 : decode cX6_islandFor 75 = .ok (.if_icmp .ge 67, 3) := by decide +kernel
theorem dX6_islandFor_78 : decode cX6_islandFor 78 = .ok (.iload_n 3, 1) := by decide +kernel
theorem dX6_islandFor_79 : decode cX6_islandFor 79 = .ok (.iconst (-1), 1) := by decide +kernel
theorem dX6_islandFor_80 : decode cX6_islandFor 80 = .ok (.if_icmp .ne 8, 3) := by decide +kernel
theorem dX6_islandFor_83 : decode cX6_islandFor 83 = .ok (.ldc 154, 2) := by decide +kernel
theorem dX6_islandFor_85 : decode cX6_islandFor 85 = .ok (.goto 18, 3) := by decide +kernel
theorem dX6_islandFor_88 : decode cX6_islandFor 88 = .ok (.aload_n 0, 1) := by decide +kernel
theorem dX6_islandFor_89 : decode cX6_islandFor 89 = .ok (.getfield 47, 3) := by decide +kernel
theorem dX6_islandFor_92 : decode cX6_islandFor 92 = .ok (.iload_n 3, 1) := by decide +kernel
theorem dX6_islandFor_93 : decode cX6_islandFor 93 = .ok (.iaload, 1) := by decide +kernel
theorem dX6_islandFor_94 : decode cX6_islandFor 94 = .ok (.aload_n 0, 1) := by decide +kernel
theorem dX6_islandFor_95 : decode cX6_islandFor 95 = .ok (.getfield 59, 3) := by decide +kernel
theorem dX6_islandFor_98 : decode cX6_islandFor 98 = .ok (.iload_n 2, 1) := by decide +kernel
theorem dX6_islandFor_99 : decode cX6_islandFor 99 = .ok (.iaload, 1) := by decide +kernel
theorem dX6_islandFor_100 : decode cX6_islandFor 100 = .ok (.invokestatic 151, 3) := by decide +kernel
theorem dX6_islandFor_103 : decode cX6_islandFor 103 = .ok (.istore 6, 2) := by decide +kernel
theorem dX6_islandFor_105 : decode cX6_islandFor 105 = .ok (.iload 5, 2) := by decide +kernel
theorem dX6_islandFor_107 : decode cX6_islandFor 107 = .ok (.iload 6, 2) := by decide +kernel
theorem dX6_islandFor_109 : decode cX6_islandFor 109 = .ok (.if_icmp .lt 26, 3) := by decide +kernel
theorem dX6_islandFor_112 : decode cX6_islandFor 112 = .ok (.iload 5, 2) := by decide +kernel
theorem dX6_islandFor_114 : decode cX6_islandFor 114 = .ok (.iload 6, 2) := by decide +kernel
theorem dX6_islandFor_116 : decode cX6_islandFor 116 = .ok (.if_icmp .ne 24, 3) := by decide +kernel
theorem dX6_islandFor_119 : decode cX6_islandFor 119 = .ok (.aload_n 0, 1) := by decide +kernel
theorem dX6_islandFor_120 : decode cX6_islandFor 120 = .ok (.getfield 47, 3) := by decide +kernel
theorem dX6_islandFor_123 : decode cX6_islandFor 123 = .ok (.iload 4, 2) := by decide +kernel
theorem dX6_islandFor_125 : decode cX6_islandFor 125 = .ok (.iaload, 1) := by decide +kernel
theorem dX6_islandFor_126 : decode cX6_islandFor 126 = .ok (.aload_n 0, 1) := by decide +kernel
theorem dX6_islandFor_127 : decode cX6_islandFor 127 = .ok (.getfield 47, 3) := by decide +kernel
theorem dX6_islandFor_130 : decode cX6_islandFor 130 = .ok (.iload_n 3, 1) := by decide +kernel
theorem dX6_islandFor_131 : decode cX6_islandFor 131 = .ok (.iaload, 1) := by decide +kernel
theorem dX6_islandFor_132 : decode cX6_islandFor 132 = .ok (.if_icmp .ge 8, 3) := by decide +kernel
theorem dX6_islandFor_135 : decode cX6_islandFor 135 = .ok (.iload 4, 2) := by decide +kernel
theorem dX6_islandFor_137 : decode cX6_islandFor 137 = .ok (.goto 4, 3) := by decide +kernel
theorem dX6_islandFor_140 : decode cX6_islandFor 140 = .ok (.iload_n 3, 1) := by decide +kernel
theorem dX6_islandFor_141 : decode cX6_islandFor 141 = .ok (.istore_n 3, 1) := by decide +kernel
theorem dX6_islandFor_142 : decode cX6_islandFor 142 = .ok (.iinc 4 1, 3) := by decide +kernel
theorem dX6_islandFor_145 : decode cX6_islandFor 145 = .ok (.goto (-140), 3) := by decide +kernel
theorem dX6_islandFor_148 : decode cX6_islandFor 148 = .ok (.iload_n 3, 1) := by decide +kernel
theorem dX6_islandFor_149 : decode cX6_islandFor 149 = .ok (.ireturn, 1) := by decide +kernel
set_option maxRecDepth 20000 in
theorem ggX6_reachesLabel_X6_apart : GoodIn wsX6_reachesLabel wsX6_apart := goodIn_r _ [6] (by decide +kernel) (by decide +kernel)
set_option maxRecDepth 20000 in
theorem gX6_reachesLabel_X6_apart : GoodIn wsX6_reachesLabel (va_wsS RX6 151 yX6_apart wsX6_apart) := goodIn_app (goodIn_of _ (by decide +kernel)) ggX6_reachesLabel_X6_apart
theorem dX6_reachesLabel_0 : decode cX6_reachesLabel 0 = .ok (.iload_n 1, 1) := by decide +kernel
theorem dX6_reachesLabel_1 : decode cX6_reachesLabel 1 = .ok (.aload_n 0, 1) := by decide +kernel
theorem dX6_reachesLabel_2 : decode cX6_reachesLabel 2 = .ok (.getfield 59, 3) := by decide +kernel
theorem dX6_reachesLabel_5 : decode cX6_reachesLabel 5 = .ok (.iload_n 2, 1) := by decide +kernel
theorem dX6_reachesLabel_6 : decode cX6_reachesLabel 6 = .ok (.iaload, 1) := by decide +kernel
theorem dX6_reachesLabel_7 : decode cX6_reachesLabel 7 = .ok (.invokestatic 151, 3) := by decide +kernel
theorem dX6_reachesLabel_10 : decode cX6_reachesLabel 10 = .ok (.aload_n 0, 1) := by decide +kernel
theorem dX6_reachesLabel_11 : decode cX6_reachesLabel 11 = .ok (.getfield 19, 3) := by decide +kernel
theorem dX6_reachesLabel_14 : decode cX6_reachesLabel 14 = .ok (.iconst 1, 1) := by decide +kernel
theorem dX6_reachesLabel_15 : decode cX6_reachesLabel 15 = .ok (.iaload, 1) := by decide +kernel
theorem dX6_reachesLabel_16 : decode cX6_reachesLabel 16 = .ok (.if_icmp .gt 7, 3) := by decide +kernel
theorem dX6_reachesLabel_19 : decode cX6_reachesLabel 19 = .ok (.iconst 1, 1) := by decide +kernel
theorem dX6_reachesLabel_20 : decode cX6_reachesLabel 20 = .ok (.goto 4, 3) := by decide +kernel
theorem dX6_reachesLabel_23 : decode cX6_reachesLabel 23 = .ok (.iconst 0, 1) := by decide +kernel
theorem dX6_reachesLabel_24 : decode cX6_reachesLabel 24 = .ok (.ireturn, 1) := by decide +kernel
set_option maxRecDepth 20000 in
theorem ggX6_goesFrom_X6_reachesLabel : GoodIn wsX6_goesFrom wsX6_reachesLabel := goodIn_r _ [7, 1, 8, 9, 10, 6, 11, 19, 20, 21, 22, 23, 24, 25, 26, 27, 28, 29, 30, 31, 32, 33, 34, 35, 36, 37, 38, 39, 40, 41, 42, 43, 44, 45, 46, 47, 48, 49, 50, 51, 52] (by decide +kernel) (by decide +kernel)
set_option maxRecDepth 20000 in
theorem gX6_goesFrom_X6_reachesLabel : GoodIn wsX6_goesFrom (wsV RX6 155 RX6 yX6_reachesLabel wsX6_reachesLabel) := goodIn_app (goodIn_of _ (by decide +kernel)) ggX6_goesFrom_X6_reachesLabel
set_option maxRecDepth 20000 in
theorem ggX6_goesFrom_X6_islandFor : GoodIn wsX6_goesFrom wsX6_islandFor := goodIn_r _ [15, 16, 2, 1, 17, 8, 18, 9, 10, 6, 11, 19, 20, 21, 22, 23, 24, 25, 26, 27, 28, 29, 30, 31, 32, 33, 34, 35, 36, 37, 38, 39, 40, 41, 42, 43, 44, 45, 46, 47, 48, 49, 50, 51, 52] (by decide +kernel) (by decide +kernel)
set_option maxRecDepth 20000 in
theorem gX6_goesFrom_X6_islandFor : GoodIn wsX6_goesFrom (wsV RX6 159 RX6 yX6_islandFor wsX6_islandFor) := goodIn_app (goodIn_of _ (by decide +kernel)) ggX6_goesFrom_X6_islandFor
theorem dX6_goesFrom_0 : decode cX6_goesFrom 0 = .ok (.aload_n 0, 1) := by decide +kernel
theorem dX6_goesFrom_1 : decode cX6_goesFrom 1 = .ok (.iload_n 1, 1) := by decide +kernel
theorem dX6_goesFrom_2 : decode cX6_goesFrom 2 = .ok (.iload_n 2, 1) := by decide +kernel
theorem dX6_goesFrom_3 : decode cX6_goesFrom 3 = .ok (.invokevirtual 155, 3) := by decide +kernel
theorem dX6_goesFrom_6 : decode cX6_goesFrom 6 = .ok (.ifCond .eq 10, 3) := by decide +kernel
theorem dX6_goesFrom_9 : decode cX6_goesFrom 9 = .ok (.aload_n 0, 1) := by decide +kernel
theorem dX6_goesFrom_10 : decode cX6_goesFrom 10 = .ok (.getfield 59, 3) := by decide +kernel
theorem dX6_goesFrom_13 : decode cX6_goesFrom 13 = .ok (.iload_n 2, 1) := by decide +kernel
theorem dX6_goesFrom_14 : decode cX6_goesFrom 14 = .ok (.iaload, 1) := by decide +kernel
theorem dX6_goesFrom_15 : decode cX6_goesFrom 15 = .ok (.ireturn, 1) := by decide +kernel
theorem dX6_goesFrom_16 : decode cX6_goesFrom 16 = .ok (.aload_n 0, 1) := by decide +kernel
theorem dX6_goesFrom_17 : decode cX6_goesFrom 17 = .ok (.iload_n 1, 1) := by decide +kernel
theorem dX6_goesFrom_18 : decode cX6_goesFrom 18 = .ok (.iload_n 2, 1) := by decide +kernel
theorem dX6_goesFrom_19 : decode cX6_goesFrom 19 = .ok (.invokevirtual 159, 3) := by decide +kernel
theorem dX6_goesFrom_22 : decode cX6_goesFrom 22 = .ok (.istore_n 3, 1) := by decide +kernel
theorem dX6_goesFrom_23 : decode cX6_goesFrom 23 = .ok (.iload_n 3, 1) := by decide +kernel
theorem dX6_goesFrom_24 : decode cX6_goesFrom 24 = .ok (.iconst (-1), 1) := by decide +kernel
theorem dX6_goesFrom_25 : decode cX6_goesFrom 25 = .ok (.if_icmp .ne 7, 3) := by decide +kernel
theorem dX6_goesFrom_28 : decode cX6_goesFrom 28 = .ok (.iconst (-1), 1) := by decide +kernel
theorem dX6_goesFrom_29 : decode cX6_goesFrom 29 = .ok (.goto 9, 3) := by decide +kernel
theorem dX6_goesFrom_32 : decode cX6_goesFrom 32 = .ok (.aload_n 0, 1) := by decide +kernel
theorem dX6_goesFrom_33 : decode cX6_goesFrom 33 = .ok (.getfield 47, 3) := by decide +kernel
theorem dX6_goesFrom_36 : decode cX6_goesFrom 36 = .ok (.iload_n 3, 1) := by decide +kernel
theorem dX6_goesFrom_37 : decode cX6_goesFrom 37 = .ok (.iaload, 1) := by decide +kernel
theorem dX6_goesFrom_38 : decode cX6_goesFrom 38 = .ok (.ireturn, 1) := by decide +kernel
set_option maxRecDepth 20000 in
theorem ggX6_shortGoes_X6_apart : GoodIn wsX6_shortGoes wsX6_apart := goodIn_r _ [8] (by decide +kernel) (by decide +kernel)
set_option maxRecDepth 20000 in
theorem gX6_shortGoes_X6_apart : GoodIn wsX6_shortGoes (va_wsS RX6 151 yX6_apart wsX6_apart) := goodIn_app (goodIn_of _ (by decide +kernel)) ggX6_shortGoes_X6_apart
theorem dX6_shortGoes_0 : decode cX6_shortGoes 0 = .ok (.aload_n 0, 1) := by decide +kernel
theorem dX6_shortGoes_1 : decode cX6_shortGoes 1 = .ok (.getfield 59, 3) := by decide +kernel
theorem dX6_shortGoes_4 : decode cX6_shortGoes 4 = .ok (.aload_n 0, 1) := by decide +kernel
theorem dX6_shortGoes_5 : decode cX6_shortGoes 5 = .ok (.getfield 16, 3) := by decide +kernel
theorem dX6_shortGoes_8 : decode cX6_shortGoes 8 = .ok (.iload_n 1, 1) := by decide +kernel
theorem dX6_shortGoes_9 : decode cX6_shortGoes 9 = .ok (.iaload, 1) := by decide +kernel
theorem dX6_shortGoes_10 : decode cX6_shortGoes 10 = .ok (.iaload, 1) := by decide +kernel
theorem dX6_shortGoes_11 : decode cX6_shortGoes 11 = .ok (.istore_n 2, 1) := by decide +kernel
theorem dX6_shortGoes_12 : decode cX6_shortGoes 12 = .ok (.aload_n 0, 1) := by decide +kernel
theorem dX6_shortGoes_13 : decode cX6_shortGoes 13 = .ok (.getfield 44, 3) := by decide +kernel
theorem dX6_shortGoes_16 : decode cX6_shortGoes 16 = .ok (.iload_n 1, 1) := by decide +kernel
theorem dX6_shortGoes_17 : decode cX6_shortGoes 17 = .ok (.iaload, 1) := by decide +kernel
theorem dX6_shortGoes_18 : decode cX6_shortGoes 18 = .ok (.iload_n 2, 1) := by decide +kernel
theorem dX6_shortGoes_19 : decode cX6_shortGoes 19 = .ok (.invokestatic 151, 3) := by decide +kernel
theorem dX6_shortGoes_22 : decode cX6_shortGoes 22 = .ok (.aload_n 0, 1) := by decide +kernel
theorem dX6_shortGoes_23 : decode cX6_shortGoes 23 = .ok (.getfield 19, 3) := by decide +kernel
theorem dX6_shortGoes_26 : decode cX6_shortGoes 26 = .ok (.iconst 0, 1) := by decide +kernel
theorem dX6_shortGoes_27 : decode cX6_shortGoes 27 = .ok (.iaload, 1) := by decide +kernel
theorem dX6_shortGoes_28 : decode cX6_shortGoes 28 = .ok (.if_icmp .gt 7, 3) := by decide +kernel
theorem dX6_shortGoes_31 : decode cX6_shortGoes 31 = .ok (.iload_n 2, 1) := by decide +kernel
theorem dX6_shortGoes_32 : decode cX6_shortGoes 32 = .ok (.goto 4, 3) := by decide +kernel
theorem dX6_shortGoes_35 : decode cX6_shortGoes 35 = .ok (.iconst (-1), 1) := by decide +kernel
theorem dX6_shortGoes_36 : decode cX6_shortGoes 36 = .ok (.ireturn, 1) := by decide +kernel
set_option maxRecDepth 20000 in
theorem ggX6_goesTo_X6_constantFor : GoodIn wsX6_goesTo wsX6_constantFor := goodIn_r _ [10, 11, 2, 4, 12, 5, 13, 38, 39, 40, 41, 42, 43, 44, 45, 46, 47, 48, 49, 50, 51, 52, 53, 54, 55, 56, 57, 58, 59, 60, 61, 62, 63, 64, 65, 66, 67, 68, 69, 70, 71] (by decide +kernel) (by decide +kernel)
set_option maxRecDepth 20000 in
theorem gX6_goesTo_X6_constantFor : GoodIn wsX6_goesTo (wsV RX6 162 RX6 yX6_constantFor wsX6_constantFor) := goodIn_app (goodIn_of _ (by decide +kernel)) ggX6_goesTo_X6_constantFor
set_option maxRecDepth 20000 in
theorem ggX6_goesTo_X6_goesFrom : GoodIn wsX6_goesTo wsX6_goesFrom := goodIn_r _ [17, 18, 19, 20, 21, 22, 9, 23, 13, 24, 25, 26, 27, 28, 29, 30, 31, 32, 33, 38, 39, 40, 41, 42, 43, 44, 45, 46, 47, 48, 49, 50, 51, 52, 53, 54, 55, 56, 57, 58, 59, 60, 61, 62, 63, 64, 65, 66, 67, 68, 69, 70, 71] (by decide +kernel) (by decide +kernel)
set_option maxRecDepth 20000 in
theorem gX6_goesTo_X6_goesFrom : GoodIn wsX6_goesTo (wsV RX6 165 RX6 yX6_goesFrom wsX6_goesFrom) := goodIn_app (goodIn_of _ (by decide +kernel)) ggX6_goesTo_X6_goesFrom
set_option maxRecDepth 20000 in
theorem ggX6_goesTo_X6_shortGoes : GoodIn wsX6_goesTo wsX6_shortGoes := goodIn_r _ [37, 18, 5, 4, 13, 24, 25, 9, 26, 38, 39, 40, 41, 42, 43, 44, 45, 46, 47, 48, 49, 50, 51, 52, 53, 54, 55, 56, 57, 58, 59, 60, 61, 62, 63, 64, 65, 66, 67, 68, 69, 70, 71] (by decide +kernel) (by decide +kernel)
set_option maxRecDepth 20000 in
theorem gX6_goesTo_X6_shortGoes : GoodIn wsX6_goesTo (wsV RX6 168 RX6 yX6_shortGoes wsX6_shortGoes) := goodIn_app (goodIn_of _ (by decide +kernel)) ggX6_goesTo_X6_shortGoes
theorem dX6_goesTo_0 : decode cX6_goesTo 0 = .ok (.aload_n 0, 1) := by decide +kernel
theorem dX6_goesTo_1 : decode cX6_goesTo 1 = .ok (.getfield 13, 3) := by decide +kernel
theorem dX6_goesTo_4 : decode cX6_goesTo 4 = .ok (.iload_n 1, 1) := by decide +kernel
theorem dX6_goesTo_5 : decode cX6_goesTo 5 = .ok (.iaload, 1) := by decide +kernel
theorem dX6_goesTo_6 : decode cX6_goesTo 6 = .ok (.iconst 1, 1) := by decide +kernel
theorem dX6_goesTo_7 : decode cX6_goesTo 7 = .ok (.if_icmp .ne 25, 3) := by decide +kernel
theorem dX6_goesTo_10 : decode cX6_goesTo 10 = .ok (.aload_n 0, 1) := by decide +kernel
theorem dX6_goesTo_11 : decode cX6_goesTo 11 = .ok (.iload_n 1, 1) := by decide +kernel
theorem dX6_goesTo_12 : decode cX6_goesTo 12 = .ok (.invokevirtual 162, 3) := by decide +kernel
theorem dX6_goesTo_15 : decode cX6_goesTo 15 = .ok (.istore_n 2, 1) := by decide +kernel
theorem dX6_goesTo_16 : decode cX6_goesTo 16 = .ok (.iload_n 2, 1) := by decide +kernel
theorem dX6_goesTo_17 : decode cX6_goesTo 17 = .ok (.iconst (-1), 1) := by decide +kernel
theorem dX6_goesTo_18 : decode cX6_goesTo 18 = .ok (.if_icmp .ne 7, 3) := by decide +kernel
theorem dX6_goesTo_21 : decode cX6_goesTo 21 = .ok (.iconst (-1), 1) := by decide +kernel
theorem dX6_goesTo_22 : decode cX6_goesTo 22 = .ok (.goto 9, 3) := by decide +kernel
theorem dX6_goesTo_25 : decode cX6_goesTo 25 = .ok (.aload_n 0, 1) := by decide +kernel
theorem dX6_goesTo_26 : decode cX6_goesTo 26 = .ok (.getfield 50, 3) := by decide +kernel
theorem dX6_goesTo_29 : decode cX6_goesTo 29 = .ok (.iload_n 2, 1) := by decide +kernel
theorem dX6_goesTo_30 : decode cX6_goesTo 30 = .ok (.iaload, 1) := by decide +kernel
theorem dX6_goesTo_31 : decode cX6_goesTo 31 = .ok (.ireturn, 1) := by decide +kernel
theorem dX6_goesTo_32 : decode cX6_goesTo 32 = .ok (.aload_n 0, 1) := by decide +kernel
theorem dX6_goesTo_33 : decode cX6_goesTo 33 = .ok (.getfield 13, 3) := by decide +kernel
theorem dX6_goesTo_36 : decode cX6_goesTo 36 = .ok (.iload_n 1, 1) := by decide +kernel
theorem dX6_goesTo_37 : decode cX6_goesTo 37 = .ok (.iaload, 1) := by decide +kernel
theorem dX6_goesTo_38 : decode cX6_goesTo 38 = .ok (.iconst 2, 1) := by decide +kernel
theorem dX6_goesTo_39 : decode cX6_goesTo 39 = .ok (.if_icmp .eq 5, 3) := by decide +kernel
theorem dX6_goesTo_42 : decode cX6_goesTo 42 = .ok (.iconst (-1), 1) := by decide +kernel
theorem dX6_goesTo_43 : decode cX6_goesTo 43 = .ok (.ireturn, 1) := by decide +kernel
theorem dX6_goesTo_44 : decode cX6_goesTo 44 = .ok (.aload_n 0, 1) := by decide +kernel
theorem dX6_goesTo_45 : decode cX6_goesTo 45 = .ok (.getfield 28, 3) := by decide +kernel
theorem dX6_goesTo_48 : decode cX6_goesTo 48 = .ok (.iload_n 1, 1) := by decide +kernel
theorem dX6_goesTo_49 : decode cX6_goesTo 49 = .ok (.baload, 1) := by decide +kernel
theorem dX6_goesTo_50 : decode cX6_goesTo 50 = .ok (.ifCond .eq 22, 3) := by decide +kernel
theorem dX6_goesTo_53 : decode cX6_goesTo 53 = .ok (.aload_n 0, 1) := by decide +kernel
theorem dX6_goesTo_54 : decode cX6_goesTo 54 = .ok (.aload_n 0, 1) := by decide +kernel
theorem dX6_goesTo_55 : decode cX6_goesTo 55 = .ok (.getfield 44, 3) := by decide +kernel
theorem dX6_goesTo_58 : decode cX6_goesTo 58 = .ok (.iload_n 1, 1) := by decide +kernel
theorem dX6_goesTo_59 : decode cX6_goesTo 59 = .ok (.iaload, 1) := by decide +kernel
theorem dX6_goesTo_60 : decode cX6_goesTo 60 = .ok (.aload_n 0, 1) := by decide +kernel
theorem dX6_goesTo_61 : decode cX6_goesTo 61 = .ok (.getfield 16, 3) := by decide +kernel
theorem dX6_goesTo_64 : decode cX6_goesTo 64 = .ok (.iload_n 1, 1) := by decide +kernel
theorem dX6_goesTo_65 : decode cX6_goesTo 65 = .ok (.iaload, 1) := by decide +kernel
theorem dX6_goesTo_66 : decode cX6_goesTo 66 = .ok (.invokevirtual 165, 3) := by decide +kernel
theorem dX6_goesTo_69 : decode cX6_goesTo 69 = .ok (.goto 8, 3) := by decide +kernel
theorem dX6_goesTo_72 : decode cX6_goesTo 72 = .ok (.aload_n 0, 1) := by decide +kernel
theorem dX6_goesTo_73 : decode cX6_goesTo 73 = .ok (.iload_n 1, 1) := by decide +kernel
theorem dX6_goesTo_74 : decode cX6_goesTo 74 = .ok (.invokevirtual 168, 3) := by decide +kernel
theorem dX6_goesTo_77 : decode cX6_goesTo 77 = .ok (.ireturn, 1) := by decide +kernel
theorem dX6_fails_0 : decode cX6_fails 0 = .ok (.aload_n 0, 1) := by decide +kernel
theorem dX6_fails_1 : decode cX6_fails 1 = .ok (.iconst 0, 1) := by decide +kernel
theorem dX6_fails_2 : decode cX6_fails 2 = .ok (.putfield 62, 3) := by decide +kernel
theorem dX6_fails_5 : decode cX6_fails 5 = .ok (.aload_n 0, 1) := by decide +kernel
theorem dX6_fails_6 : decode cX6_fails 6 = .ok (.iload_n 1, 1) := by decide +kernel
theorem dX6_fails_7 : decode cX6_fails 7 = .ok (.putfield 171, 3) := by decide +kernel
theorem dX6_fails_10 : decode cX6_fails 10 = .ok (.aload_n 0, 1) := by decide +kernel
theorem dX6_fails_11 : decode cX6_fails 11 = .ok (.iload_n 2, 1) := by decide +kernel
theorem dX6_fails_12 : decode cX6_fails 12 = .ok (.putfield 66, 3) := by decide +kernel
theorem dX6_fails_15 : decode cX6_fails 15 = .ok (.iconst 0, 1) := by decide +kernel
theorem dX6_fails_16 : decode cX6_fails 16 = .ok (.ireturn, 1) := by decide +kernel
set_option maxRecDepth 20000 in
theorem ggX6_firstStuck_X6_goesTo : GoodIn wsX6_firstStuck wsX6_goesTo := goodIn_r _ [8, 2, 9, 3, 10, 11, 12, 13, 14, 7, 15, 16, 17, 18, 19, 20, 21, 22, 23, 24, 25, 26, 27, 28, 29, 30, 31, 32, 33, 34, 35, 36, 37, 38, 39, 40, 41, 42, 43, 44, 45, 46, 47, 48, 49, 50, 51, 52, 53, 54, 55, 56, 57, 58, 59, 60, 61, 62, 63, 64, 65, 66, 67, 68, 69, 70, 71, 72, 73, 74, 75, 76] (by decide +kernel) (by decide +kernel)
set_option maxRecDepth 20000 in
theorem gX6_firstStuck_X6_goesTo : GoodIn wsX6_firstStuck (wsV RX6 174 RX6 yX6_goesTo wsX6_goesTo) := goodIn_app (goodIn_of _ (by decide +kernel)) ggX6_firstStuck_X6_goesTo
theorem dX6_firstStuck_0 : decode cX6_firstStuck 0 = .ok (.iconst (-1), 1) := by decide +kernel
theorem dX6_firstStuck_1 : decode cX6_firstStuck 1 = .ok (.istore_n 3, 1) := by decide +kernel
theorem dX6_firstStuck_2 : decode cX6_firstStuck 2 = .ok (.aload_n 0, 1) := by decide +kernel
theorem dX6_firstStuck_3 : decode cX6_firstStuck 3 = .ok (.getfield 114, 3) := by decide +kernel
theorem dX6_firstStuck_6 : decode cX6_firstStuck 6 = .ok (.iconst 1, 1) := by decide +kernel
theorem dX6_firstStuck_7 : decode cX6_firstStuck 7 = .ok (.isub, 1) := by decide +kernel
theorem dX6_firstStuck_8 : decode cX6_firstStuck 8 = .ok (.istore 4, 2) := by decide +kernel
theorem dX6_firstStuck_10 : decode cX6_firstStuck 10 = .ok (.iload 4, 2) := by decide +kernel
theorem dX6_firstStuck_12 : decode cX6_firstStuck 12 = .ok (.ifCond .lt 60, 3) := by decide +kernel
theorem dX6_firstStuck_15 : decode cX6_firstStuck 15 = .ok (.aload_n 0, 1) := by decide +kernel
theorem dX6_firstStuck_16 : decode cX6_firstStuck 16 = .ok (.getfield 13, 3) := by decide +kernel
theorem dX6_firstStuck_19 : decode cX6_firstStuck 19 = .ok (.iload 4, 2) := by decide +kernel
theorem dX6_firstStuck_21 : decode cX6_firstStuck 21 = .ok (.iaload, 1) := by decide +kernel
theorem dX6_firstStuck_22 : decode cX6_firstStuck 22 = .ok (.iload_n 1, 1) := by decide +kernel
theorem dX6_firstStuck_23 : decode cX6_firstStuck 23 = .ok (.if_icmp .ne 28, 3) := by decide +kernel
theorem dX6_firstStuck_26 : decode cX6_firstStuck 26 = .ok (.aload_n 0, 1) := by decide +kernel
theorem dX6_firstStuck_27 : decode cX6_firstStuck 27 = .ok (.getfield 28, 3) := by decide +kernel
theorem dX6_firstStuck_30 : decode cX6_firstStuck 30 = .ok (.iload 4, 2) := by decide +kernel
theorem dX6_firstStuck_32 : decode cX6_firstStuck 32 = .ok (.baload, 1) := by decide +kernel
theorem dX6_firstStuck_33 : decode cX6_firstStuck 33 = .ok (.iload_n 2, 1) := by decide +kernel
theorem dX6_firstStuck_34 : decode cX6_firstStuck 34 = .ok (.if_icmp .ne 17, 3) := by decide +kernel
theorem dX6_firstStuck_37 : decode cX6_firstStuck 37 = .ok (.aload_n 0, 1) := by decide +kernel
theorem dX6_firstStuck_38 : decode cX6_firstStuck 38 = .ok (.iload 4, 2) := by decide +kernel
theorem dX6_firstStuck_40 : decode cX6_firstStuck 40 = .ok (.invokevirtual 174, 3) := by decide +kernel
theorem dX6_firstStuck_43 : decode cX6_firstStuck 43 = .ok (.iconst (-1), 1) := by decide +kernel
theorem dX6_firstStuck_44 : decode cX6_firstStuck 44 = .ok (.if_icmp .ne 7, 3) := by decide +kernel
theorem dX6_firstStuck_47 : decode cX6_firstStuck 47 = .ok (.iconst 1, 1) := by decide +kernel
theorem dX6_firstStuck_48 : decode cX6_firstStuck 48 = .ok (.goto 4, 3) := by decide +kernel
theorem dX6_firstStuck_51 : decode cX6_firstStuck 51 = .ok (.iconst 0, 1) := by decide +kernel
theorem dX6_firstStuck_52 : decode cX6_firstStuck 52 = .ok (.istore 5, 2) := by decide +kernel
theorem dX6_firstStuck_54 : decode cX6_firstStuck 54 = .ok (.iload 5, 2) := by decide +kernel
theorem dX6_firstStuck_56 : decode cX6_firstStuck 56 = .ok (.ifCond .eq 8, 3) := by decide +kernel
theorem dX6_firstStuck_59 : decode cX6_firstStuck 59 = .ok (.iload 4, 2) := by decide +kernel
theorem dX6_firstStuck_61 : decode cX6_firstStuck 61 = .ok (.goto 4, 3) := by decide +kernel
theorem dX6_firstStuck_64 : decode cX6_firstStuck 64 = .ok (.iload_n 3, 1) := by decide +kernel
theorem dX6_firstStuck_65 : decode cX6_firstStuck 65 = .ok (.istore_n 3, 1) := by decide +kernel
theorem dX6_firstStuck_66 : decode cX6_firstStuck 66 = .ok (.iinc 4 (-1), 3) := by decide +kernel
theorem dX6_firstStuck_69 : decode cX6_firstStuck 69 = .ok (.goto (-59), 3) := by decide +kernel
theorem dX6_firstStuck_72 : decode cX6_firstStuck 72 = .ok (.iload_n 3, 1) := by decide +kernel
theorem dX6_firstStuck_73 : decode cX6_firstStuck 73 = .ok (.ireturn, 1) := by decide +kernel
set_option maxRecDepth 20000 in
theorem ggX6_firstStuckIsland_X6_goesFrom : GoodIn wsX6_firstStuckIsland wsX6_goesFrom := goodIn_r _ [8, 9, 2, 10, 11, 12, 7, 13, 14, 15, 16, 17, 18, 19, 20, 21, 1, 3, 22, 23, 24, 25, 26, 27, 28, 29, 30, 31, 32, 33, 34, 35, 36, 37, 38, 39, 40, 41, 42, 43, 44, 45, 46, 47, 48, 49, 50, 51, 52, 53, 54, 55, 56] (by decide +kernel) (by decide +kernel)
set_option maxRecDepth 20000 in
theorem gX6_firstStuckIsland_X6_goesFrom : GoodIn wsX6_firstStuckIsland (wsV RX6 165 RX6 yX6_goesFrom wsX6_goesFrom) := goodIn_app (goodIn_of _ (by decide +kernel)) ggX6_firstStuckIsland_X6_goesFrom
theorem dX6_firstStuckIsland_0 : decode cX6_firstStuckIsland 0 = .ok (.iconst (-1), 1) := by decide +kernel
theorem dX6_firstStuckIsland_1 : decode cX6_firstStuckIsland 1 = .ok (.istore_n 1, 1) := by decide +kernel
theorem dX6_firstStuckIsland_2 : decode cX6_firstStuckIsland 2 = .ok (.aload_n 0, 1) := by decide +kernel
theorem dX6_firstStuckIsland_3 : decode cX6_firstStuckIsland 3 = .ok (.getfield 133, 3) := by decide +kernel
theorem dX6_firstStuckIsland_6 : decode cX6_firstStuckIsland 6 = .ok (.iconst 1, 1) := by decide +kernel
theorem dX6_firstStuckIsland_7 : decode cX6_firstStuckIsland 7 = .ok (.isub, 1) := by decide +kernel
theorem dX6_firstStuckIsland_8 : decode cX6_firstStuckIsland 8 = .ok (.istore_n 2, 1) := by decide +kernel
theorem dX6_firstStuckIsland_9 : decode cX6_firstStuckIsland 9 = .ok (.iload_n 2, 1) := by decide +kernel
theorem dX6_firstStuckIsland_10 : decode cX6_firstStuckIsland 10 = .ok (.ifCond .lt 35, 3) := by decide +kernel
theorem dX6_firstStuckIsland_13 : decode cX6_firstStuckIsland 13 = .ok (.aload_n 0, 1) := by decide +kernel
theorem dX6_firstStuckIsland_14 : decode cX6_firstStuckIsland 14 = .ok (.aload_n 0, 1) := by decide +kernel
theorem dX6_firstStuckIsland_15 : decode cX6_firstStuckIsland 15 = .ok (.getfield 47, 3) := by decide +kernel
theorem dX6_firstStuckIsland_18 : decode cX6_firstStuckIsland 18 = .ok (.iload_n 2, 1) := by decide +kernel
theorem dX6_firstStuckIsland_19 : decode cX6_firstStuckIsland 19 = .ok (.iaload, 1) := by decide +kernel
theorem dX6_firstStuckIsland_20 : decode cX6_firstStuckIsland 20 = .ok (.aload_n 0, 1) := by decide +kernel
theorem dX6_firstStuckIsland_21 : decode cX6_firstStuckIsland 21 = .ok (.getfield 32, 3) := by decide +kernel
theorem dX6_firstStuckIsland_24 : decode cX6_firstStuckIsland 24 = .ok (.iload_n 2, 1) := by decide +kernel
theorem dX6_firstStuckIsland_25 : decode cX6_firstStuckIsland 25 = .ok (.iaload, 1) := by decide +kernel
theorem dX6_firstStuckIsland_26 : decode cX6_firstStuckIsland 26 = .ok (.invokevirtual 165, 3) := by decide +kernel
theorem dX6_firstStuckIsland_29 : decode cX6_firstStuckIsland 29 = .ok (.iconst (-1), 1) := by decide +kernel
theorem dX6_firstStuckIsland_30 : decode cX6_firstStuckIsland 30 = .ok (.if_icmp .ne 7, 3) := by decide +kernel
theorem dX6_firstStuckIsland_33 : decode cX6_firstStuckIsland 33 = .ok (.iload_n 2, 1) := by decide +kernel
theorem dX6_firstStuckIsland_34 : decode cX6_firstStuckIsland 34 = .ok (.goto 4, 3) := by decide +kernel
theorem dX6_firstStuckIsland_37 : decode cX6_firstStuckIsland 37 = .ok (.iload_n 1, 1) := by decide +kernel
theorem dX6_firstStuckIsland_38 : decode cX6_firstStuckIsland 38 = .ok (.istore_n 1, 1) := by decide +kernel
theorem dX6_firstStuckIsland_39 : decode cX6_firstStuckIsland 39 = .ok (.iinc 2 (-1), 3) := by decide +kernel
theorem dX6_firstStuckIsland_42 : decode cX6_firstStuckIsland 42 = .ok (.goto (-33), 3) := by decide +kernel
theorem dX6_firstStuckIsland_45 : decode cX6_firstStuckIsland 45 = .ok (.iload_n 1, 1) := by decide +kernel
theorem dX6_firstStuckIsland_46 : decode cX6_firstStuckIsland 46 = .ok (.ireturn, 1) := by decide +kernel
set_option maxRecDepth 20000 in
theorem ggX6_putConstant_X6_fails : GoodIn wsX6_putConstant wsX6_fails := goodIn_r _ [14, 15, 16, 17, 18, 19, 20, 21, 22, 23, 24, 25, 26, 27, 28, 29, 30, 31, 32, 33, 34, 35, 36, 37, 38, 39, 40, 41, 42, 43, 44, 45, 46, 47, 48, 49, 50, 51] (by decide +kernel) (by decide +kernel)
set_option maxRecDepth 20000 in
theorem gX6_putConstant_X6_fails : GoodIn wsX6_putConstant (wsV RX6 177 RX6 yX6_fails wsX6_fails) := goodIn_app (goodIn_of _ (by decide +kernel)) ggX6_putConstant_X6_fails
theorem dX6_putConstant_0 : decode cX6_putConstant 0 = .ok (.iconst (-1), 1) := by decide +kernel
theorem dX6_putConstant_1 : decode cX6_putConstant 1 = .ok (.istore_n 2, 1) := by decide +kernel
theorem dX6_putConstant_2 : decode cX6_putConstant 2 = .ok (.iload_n 1, 1) := by decide +kernel
theorem dX6_putConstant_3 : decode cX6_putConstant 3 = .ok (.iconst 1, 1) := by decide +kernel
theorem dX6_putConstant_4 : decode cX6_putConstant 4 = .ok (.iadd, 1) := by decide +kernel
theorem dX6_putConstant_5 : decode cX6_putConstant 5 = .ok (.istore_n 3, 1) := by decide +kernel
theorem dX6_putConstant_6 : decode cX6_putConstant 6 = .ok (.iload_n 3, 1) := by decide +kernel
theorem dX6_putConstant_7 : decode cX6_putConstant 7 = .ok (.aload_n 0, 1) := by decide +kernel
theorem dX6_putConstant_8 : decode cX6_putConstant 8 = .ok (.getfield 114, 3) := by decide +kernel
theorem dX6_putConstant_11 : decode cX6_putConstant 11 = .ok (.if_icmp .ge 47, 3) := by decide +kernel
theorem dX6_putConstant_14 : decode cX6_putConstant 14 = .ok (.aload_n 0, 1) := by decide +kernel
theorem dX6_putConstant_15 : decode cX6_putConstant 15 = .ok (.getfield 13, 3) := by decide +kernel
theorem dX6_putConstant_18 : decode cX6_putConstant 18 = .ok (.iload_n 3, 1) := by decide +kernel
theorem dX6_putConstant_19 : decode cX6_putConstant 19 = .ok (.iaload, 1) := by decide +kernel
theorem dX6_putConstant_20 : decode cX6_putConstant 20 = .ok (.iconst 5, 1) := by decide +kernel
theorem dX6_putConstant_21 : decode cX6_putConstant 21 = .ok (.if_icmp .ne 29, 3) := by decide +kernel
theorem dX6_putConstant_24 : decode cX6_putConstant 24 = .ok (.aload_n 0, 1) := by decide +kernel
theorem dX6_putConstant_25 : decode cX6_putConstant 25 = .ok (.getfield 56, 3) := by decide +kernel
theorem dX6_putConstant_28 : decode cX6_putConstant 28 = .ok (.iload_n 3, 1) := by decide +kernel
theorem dX6_putConstant_29 : decode cX6_putConstant 29 = .ok (.iaload, 1) := by decide +kernel
theorem dX6_putConstant_30 : decode cX6_putConstant 30 = .ok (.aload_n 0, 1) := by decide +kernel
theorem dX6_putConstant_31 : decode cX6_putConstant 31 = .ok (.getfield 44, 3) := by decide +kernel
theorem dX6_putConstant_34 : decode cX6_putConstant 34 = .ok (.iload_n 1, 1) := by decide +kernel
theorem dX6_putConstant_35 : decode cX6_putConstant 35 = .ok (.iaload, 1) := by decide +kernel
theorem dX6_putConstant_36 : decode cX6_putConstant 36 = .ok (.isub, 1) := by decide +kernel
theorem dX6_putConstant_37 : decode cX6_putConstant 37 = .ok (.aload_n 0, 1) := by decide +kernel
theorem dX6_putConstant_38 : decode cX6_putConstant 38 = .ok (.getfield 19, 3) := by decide +kernel
theorem dX6_putConstant_41 : decode cX6_putConstant 41 = .ok (.iconst 2, 1) := by decide +kernel
theorem dX6_putConstant_42 : decode cX6_putConstant 42 = .ok (.iaload, 1) := by decide +kernel
theorem dX6_putConstant_43 : decode cX6_putConstant 43 = .ok (.if_icmp .gt 7, 3) := by decide +kernel
theorem dX6_putConstant_46 : decode cX6_putConstant 46 = .ok (.iload_n 3, 1) := by decide +kernel
theorem dX6_putConstant_47 : decode cX6_putConstant 47 = .ok (.goto 4, 3) := by decide +kernel
theorem dX6_putConstant_50 : decode cX6_putConstant 50 = .ok (.iload_n 2, 1) := by decide +kernel
theorem dX6_putConstant_51 : decode cX6_putConstant 51 = .ok (.istore_n 2, 1) := by decide +kernel
theorem dX6_putConstant_52 : decode cX6_putConstant 52 = .ok (.iinc 3 1, 3) := by decide +kernel
theorem dX6_putConstant_55 : decode cX6_putConstant 55 = .ok (.goto (-49), 3) := by decide +kernel
theorem dX6_putConstant_58 : decode cX6_putConstant 58 = .ok (.iload_n 2, 1) := by decide +kernel
theorem dX6_putConstant_59 : decode cX6_putConstant 59 = .ok (.iconst (-1), 1) := by decide +kernel
theorem dX6_putConstant_60 : decode cX6_putConstant 60 = .ok (.if_icmp .eq 12, 3) := by decide +kernel
theorem dX6_putConstant_63 : decode cX6_putConstant 63 = .ok (.aload_n 0, 1) := by decide +kernel
theorem dX6_putConstant_64 : decode cX6_putConstant 64 = .ok (.getfield 136, 3) := by decide +kernel
theorem dX6_putConstant_67 : decode cX6_putConstant 67 = .ok (.bipush 16, 2) := by decide +kernel
theorem dX6_putConstant_69 : decode cX6_putConstant 69 = .ok (.if_icmp .ne 10, 3) := by decide +kernel
theorem dX6_putConstant_72 : decode cX6_putConstant 72 = .ok (.aload_n 0, 1) := by decide +kernel
theorem dX6_putConstant_73 : decode cX6_putConstant 73 = .ok (.iconst 1, 1) := by decide +kernel
theorem dX6_putConstant_74 : decode cX6_putConstant 74 = .ok (.iload_n 1, 1) := by decide +kernel
theorem dX6_putConstant_75 : decode cX6_putConstant 75 = .ok (.invokevirtual 177, 3) := by decide +kernel
theorem dX6_putConstant_78 : decode cX6_putConstant 78 = .ok (.ireturn, 1) := by decide +kernel
theorem dX6_putConstant_79 : decode cX6_putConstant 79 = .ok (.aload_n 0, 1) := by decide +kernel
theorem dX6_putConstant_80 : decode cX6_putConstant 80 = .ok (.getfield 38, 3) := by decide +kernel
theorem dX6_putConstant_83 : decode cX6_putConstant 83 = .ok (.aload_n 0, 1) := by decide +kernel
theorem dX6_putConstant_84 : decode cX6_putConstant 84 = .ok (.getfield 136, 3) := by decide +kernel
theorem dX6_putConstant_87 : decode cX6_putConstant 87 = .ok (.aload_n 0, 1) := by decide +kernel
theorem dX6_putConstant_88 : decode cX6_putConstant 88 = .ok (.getfield 16, 3) := by decide +kernel
theorem dX6_putConstant_91 : decode cX6_putConstant 91 = .ok (.iload_n 1, 1) := by decide +kernel
theorem dX6_putConstant_92 : decode cX6_putConstant 92 = .ok (.iaload, 1) := by decide +kernel
theorem dX6_putConstant_93 : decode cX6_putConstant 93 = .ok (.iastore, 1) := by decide +kernel
theorem dX6_putConstant_94 : decode cX6_putConstant 94 = .ok (.aload_n 0, 1) := by decide +kernel
theorem dX6_putConstant_95 : decode cX6_putConstant 95 = .ok (.getfield 41, 3) := by decide +kernel
theorem dX6_putConstant_98 : decode cX6_putConstant 98 = .ok (.aload_n 0, 1) := by decide +kernel
theorem dX6_putConstant_99 : decode cX6_putConstant 99 = .ok (.getfield 136, 3) := by decide +kernel
theorem dX6_putConstant_102 : decode cX6_putConstant 102 = .ok (.iload_n 2, 1) := by decide +kernel
theorem dX6_putConstant_103 : decode cX6_putConstant 103 = .ok (.iastore, 1) := by decide +kernel
theorem dX6_putConstant_104 : decode cX6_putConstant 104 = .ok (.aload_n 0, 1) := by decide +kernel
theorem dX6_putConstant_105 : decode cX6_putConstant 105 = .ok (.dup, 1) := by decide +kernel
theorem dX6_putConstant_106 : decode cX6_putConstant 106 = .ok (.getfield 136, 3) := by decide +kernel
theorem dX6_putConstant_109 : decode cX6_putConstant 109 = .ok (.iconst 1, 1) := by decide +kernel
theorem dX6_putConstant_110 : decode cX6_putConstant 110 = .ok (.iadd, 1) := by decide +kernel
theorem dX6_putConstant_111 : decode cX6_putConstant 111 = .ok (.putfield 136, 3) := by decide +kernel
theorem dX6_putConstant_114 : decode cX6_putConstant 114 = .ok (.iconst 1, 1) := by decide +kernel
theorem dX6_putConstant_115 : decode cX6_putConstant 115 = .ok (.ireturn, 1) := by decide +kernel
set_option maxRecDepth 20000 in
theorem ggX6_gapFor_X6_apart : GoodIn wsX6_gapFor wsX6_apart := goodIn_r _ [9] (by decide +kernel) (by decide +kernel)
set_option maxRecDepth 20000 in
theorem gX6_gapFor_X6_apart : GoodIn wsX6_gapFor (va_wsS RX6 151 yX6_apart wsX6_apart) := goodIn_app (goodIn_of _ (by decide +kernel)) ggX6_gapFor_X6_apart
theorem dX6_gapFor_0 : decode cX6_gapFor 0 = .ok (.iconst (-1), 1) := by decide +kernel
theorem dX6_gapFor_1 : decode cX6_gapFor 1 = .ok (.istore_n 3, 1) := by decide +kernel
theorem dX6_gapFor_2 : decode cX6_gapFor 2 = .ok (.iload_n 1, 1) := by decide +kernel
theorem dX6_gapFor_3 : decode cX6_gapFor 3 = .ok (.aload_n 0, 1) := by decide +kernel
theorem dX6_gapFor_4 : decode cX6_gapFor 4 = .ok (.getfield 59, 3) := by decide +kernel
theorem dX6_gapFor_7 : decode cX6_gapFor 7 = .ok (.iload_n 2, 1) := by decide +kernel
theorem dX6_gapFor_8 : decode cX6_gapFor 8 = .ok (.iaload, 1) := by decide +kernel
theorem dX6_gapFor_9 : decode cX6_gapFor 9 = .ok (.invokestatic 151, 3) := by decide +kernel
theorem dX6_gapFor_12 : decode cX6_gapFor 12 = .ok (.istore 4, 2) := by decide +kernel
theorem dX6_gapFor_14 : decode cX6_gapFor 14 = .ok (.iconst 0, 1) := by decide +kernel
theorem dX6_gapFor_15 : decode cX6_gapFor 15 = .ok (.istore 5, 2) := by decide +kernel
theorem dX6_gapFor_17 : decode cX6_gapFor 17 = .ok (.iload 5, 2) := by decide +kernel
theorem dX6_gapFor_19 : decode cX6_gapFor 19 = .ok (.aload_n 0, 1) := by decide +kernel
theorem dX6_gapFor_20 : decode cX6_gapFor 20 = .ok (.getfield 114, 3) := by decide +kernel
theorem dX6_gapFor_23 : decode cX6_gapFor 23 = .ok (.if_icmp .ge 82, 3) := by decide +kernel
theorem dX6_gapFor_26 : decode cX6_gapFor 26 = .ok (.aload_n 0, 1) := by decide +kernel
theorem dX6_gapFor_27 : decode cX6_gapFor 27 = .ok (.getfield 13, 3) := by decide +kernel
theorem dX6_gapFor_30 : decode cX6_gapFor 30 = .ok (.iload 5, 2) := by decide +kernel
theorem dX6_gapFor_32 : decode cX6_gapFor 32 = .ok (.iaload, 1) := by decide +kernel
theorem dX6_gapFor_33 : decode cX6_gapFor 33 = .ok (.iconst 5, 1) := by decide +kernel
end
section
theorem dX6_gapFor_34 : decode cX6_gapFor 34 = .ok (.if_icmp .ne 65, 3) := by decide +kernel
theorem dX6_gapFor_37 : decode cX6_gapFor 37 = .ok (.aload_n 0, 1) := by decide +kernel
theorem dX6_gapFor_38 : decode cX6_gapFor 38 = .ok (.getfield 53, 3) := by decide +kernel
theorem dX6_gapFor_41 : decode cX6_gapFor 41 = .ok (.iload 5, 2) := by decide +kernel
theorem dX6_gapFor_43 : decode cX6_gapFor 43 = .ok (.iaload, 1) := by decide +kernel
theorem dX6_gapFor_44 : decode cX6_gapFor 44 = .ok (.iload_n 1, 1) := by decide +kernel
theorem dX6_gapFor_45 : decode cX6_gapFor 45 = .ok (.invokestatic 151, 3) := by decide +kernel
theorem dX6_gapFor_48 : decode cX6_gapFor 48 = .ok (.aload_n 0, 1) := by decide +kernel
theorem dX6_gapFor_49 : decode cX6_gapFor 49 = .ok (.getfield 19, 3) := by decide +kernel
theorem dX6_gapFor_52 : decode cX6_gapFor 52 = .ok (.iconst 1, 1) := by decide +kernel
theorem dX6_gapFor_53 : decode cX6_gapFor 53 = .ok (.iaload, 1) := by decide +kernel
theorem dX6_gapFor_54 : decode cX6_gapFor 54 = .ok (.if_icmp .gt 45, 3) := by decide +kernel
theorem dX6_gapFor_57 : decode cX6_gapFor 57 = .ok (.aload_n 0, 1) := by decide +kernel
theorem dX6_gapFor_58 : decode cX6_gapFor 58 = .ok (.getfield 53, 3) := by decide +kernel
theorem dX6_gapFor_61 : decode cX6_gapFor 61 = .ok (.iload 5, 2) := by decide +kernel
theorem dX6_gapFor_63 : decode cX6_gapFor 63 = .ok (.iaload, 1) := by decide +kernel
theorem dX6_gapFor_64 : decode cX6_gapFor 64 = .ok (.aload_n 0, 1) := by decide +kernel
theorem dX6_gapFor_65 : decode cX6_gapFor 65 = .ok (.getfield 59, 3) := by decide +kernel
theorem dX6_gapFor_68 : decode cX6_gapFor 68 = .ok (.iload_n 2, 1) := by decide +kernel
theorem dX6_gapFor_69 : decode cX6_gapFor 69 = .ok (.iaload, 1) := by decide +kernel
theorem dX6_gapFor_70 : decode cX6_gapFor 70 = .ok (.invokestatic 151, 3) := by decide +kernel
theorem dX6_gapFor_73 : decode cX6_gapFor 73 = .ok (.iload 4, 2) := by decide +kernel
theorem dX6_gapFor_75 : decode cX6_gapFor 75 = .ok (.if_icmp .ge 24, 3) := by decide +kernel
theorem dX6_gapFor_78 : decode cX6_gapFor 78 = .ok (.iload 5, 2) := by decide +kernel
theorem dX6_gapFor_80 : decode cX6_gapFor 80 = .ok (.istore_n 3, 1) := by decide +kernel
theorem dX6_gapFor_81 : decode cX6_gapFor 81 = .ok (.aload_n 0, 1) := by decide +kernel
theorem dX6_gapFor_82 : decode cX6_gapFor 82 = .ok (.getfield 53, 3) := by decide +kernel
theorem dX6_gapFor_85 : decode cX6_gapFor 85 = .ok (.iload 5, 2) := by decide +kernel
theorem dX6_gapFor_87 : decode cX6_gapFor 87 = .ok (.iaload, 1) := by decide +kernel
theorem dX6_gapFor_88 : decode cX6_gapFor 88 = .ok (.aload_n 0, 1) := by decide +kernel
theorem dX6_gapFor_89 : decode cX6_gapFor 89 = .ok (.getfield 59, 3) := by decide +kernel
theorem dX6_gapFor_92 : decode cX6_gapFor 92 = .ok (.iload_n 2, 1) := by decide +kernel
theorem dX6_gapFor_93 : decode cX6_gapFor 93 = .ok (.iaload, 1) := by decide +kernel
theorem dX6_gapFor_94 : decode cX6_gapFor 94 = .ok (.invokestatic 151, 3) := by decide +kernel
theorem dX6_gapFor_97 : decode cX6_gapFor 97 = .ok (.istore 4, 2) := by decide +kernel
theorem dX6_gapFor_99 : decode cX6_gapFor 99 = .ok (.iinc 5 1, 3) := by decide +kernel
theorem dX6_gapFor_102 : decode cX6_gapFor 102 = .ok (.goto (-85), 3) := by decide +kernel
theorem dX6_gapFor_105 : decode cX6_gapFor 105 = .ok (.iload_n 3, 1) := by decide +kernel
theorem dX6_gapFor_106 : decode cX6_gapFor 106 = .ok (.ireturn, 1) := by decide +kernel
set_option maxRecDepth 20000 in
theorem ggX6_putIsland_X6_gapFor : GoodIn wsX6_putIsland wsX6_gapFor := goodIn_r _ [8, 9, 10, 11, 12, 13, 14, 15, 7, 16, 24, 25, 26, 27, 28, 29, 30, 31, 32, 33, 34, 35, 36, 37, 38, 39, 40, 41, 42, 43, 44, 45, 46, 47, 48, 49, 50, 51, 52, 53, 54, 55, 56, 57] (by decide +kernel) (by decide +kernel)
set_option maxRecDepth 20000 in
theorem gX6_putIsland_X6_gapFor : GoodIn wsX6_putIsland (wsV RX6 180 RX6 yX6_gapFor wsX6_gapFor) := goodIn_app (goodIn_of _ (by decide +kernel)) ggX6_putIsland_X6_gapFor
set_option maxRecDepth 20000 in
theorem ggX6_putIsland_X6_fails : GoodIn wsX6_putIsland wsX6_fails := goodIn_r _ [20, 21, 22, 23, 24, 25, 26, 27, 28, 29, 30, 31, 32, 33, 34, 35, 36, 37, 38, 39, 40, 41, 42, 43, 44, 45, 46, 47, 48, 49, 50, 51, 52, 53, 54, 55, 56, 57] (by decide +kernel) (by decide +kernel)
set_option maxRecDepth 20000 in
theorem gX6_putIsland_X6_fails : GoodIn wsX6_putIsland (wsV RX6 177 RX6 yX6_fails wsX6_fails) := goodIn_app (goodIn_of _ (by decide +kernel)) ggX6_putIsland_X6_fails
theorem dX6_putIsland_0 : decode cX6_putIsland 0 = .ok (.aload_n 0, 1) := by decide +kernel
theorem dX6_putIsland_1 : decode cX6_putIsland 1 = .ok (.iload_n 1, 1) := by decide +kernel
theorem dX6_putIsland_2 : decode cX6_putIsland 2 = .ok (.iload_n 2, 1) := by decide +kernel
theorem dX6_putIsland_3 : decode cX6_putIsland 3 = .ok (.invokevirtual 180, 3) := by decide +kernel
theorem dX6_putIsland_6 : decode cX6_putIsland 6 = .ok (.istore 5, 2) := by decide +kernel
theorem dX6_putIsland_8 : decode cX6_putIsland 8 = .ok (.iload 5, 2) := by decide +kernel
theorem dX6_putIsland_10 : decode cX6_putIsland 10 = .ok (.iconst (-1), 1) := by decide +kernel
theorem dX6_putIsland_11 : decode cX6_putIsland 11 = .ok (.if_icmp .eq 12, 3) := by decide +kernel
theorem dX6_putIsland_14 : decode cX6_putIsland 14 = .ok (.aload_n 0, 1) := by decide +kernel
theorem dX6_putIsland_15 : decode cX6_putIsland 15 = .ok (.getfield 133, 3) := by decide +kernel
theorem dX6_putIsland_18 : decode cX6_putIsland 18 = .ok (.bipush 12, 2) := by decide +kernel
theorem dX6_putIsland_20 : decode cX6_putIsland 20 = .ok (.if_icmp .ne 11, 3) := by decide +kernel
theorem dX6_putIsland_23 : decode cX6_putIsland 23 = .ok (.aload_n 0, 1) := by decide +kernel
theorem dX6_putIsland_24 : decode cX6_putIsland 24 = .ok (.iload_n 3, 1) := by decide +kernel
theorem dX6_putIsland_25 : decode cX6_putIsland 25 = .ok (.iload 4, 2) := by decide +kernel
theorem dX6_putIsland_27 : decode cX6_putIsland 27 = .ok (.invokevirtual 177, 3) := by decide +kernel
theorem dX6_putIsland_30 : decode cX6_putIsland 30 = .ok (.ireturn, 1) := by decide +kernel
theorem dX6_putIsland_31 : decode cX6_putIsland 31 = .ok (.aload_n 0, 1) := by decide +kernel
theorem dX6_putIsland_32 : decode cX6_putIsland 32 = .ok (.getfield 32, 3) := by decide +kernel
theorem dX6_putIsland_35 : decode cX6_putIsland 35 = .ok (.aload_n 0, 1) := by decide +kernel
theorem dX6_putIsland_36 : decode cX6_putIsland 36 = .ok (.getfield 133, 3) := by decide +kernel
theorem dX6_putIsland_39 : decode cX6_putIsland 39 = .ok (.iload_n 2, 1) := by decide +kernel
theorem dX6_putIsland_40 : decode cX6_putIsland 40 = .ok (.iastore, 1) := by decide +kernel
theorem dX6_putIsland_41 : decode cX6_putIsland 41 = .ok (.aload_n 0, 1) := by decide +kernel
theorem dX6_putIsland_42 : decode cX6_putIsland 42 = .ok (.getfield 35, 3) := by decide +kernel
theorem dX6_putIsland_45 : decode cX6_putIsland 45 = .ok (.aload_n 0, 1) := by decide +kernel
theorem dX6_putIsland_46 : decode cX6_putIsland 46 = .ok (.getfield 133, 3) := by decide +kernel
theorem dX6_putIsland_49 : decode cX6_putIsland 49 = .ok (.iload 5, 2) := by decide +kernel
theorem dX6_putIsland_51 : decode cX6_putIsland 51 = .ok (.iastore, 1) := by decide +kernel
theorem dX6_putIsland_52 : decode cX6_putIsland 52 = .ok (.aload_n 0, 1) := by decide +kernel
theorem dX6_putIsland_53 : decode cX6_putIsland 53 = .ok (.dup, 1) := by decide +kernel
theorem dX6_putIsland_54 : decode cX6_putIsland 54 = .ok (.getfield 133, 3) := by decide +kernel
theorem dX6_putIsland_57 : decode cX6_putIsland 57 = .ok (.iconst 1, 1) := by decide +kernel
theorem dX6_putIsland_58 : decode cX6_putIsland 58 = .ok (.iadd, 1) := by decide +kernel
theorem dX6_putIsland_59 : decode cX6_putIsland 59 = .ok (.putfield 133, 3) := by decide +kernel
theorem dX6_putIsland_62 : decode cX6_putIsland 62 = .ok (.iconst 1, 1) := by decide +kernel
theorem dX6_putIsland_63 : decode cX6_putIsland 63 = .ok (.ireturn, 1) := by decide +kernel
set_option maxRecDepth 20000 in
theorem ggX6_mends_X6_firstStuck : GoodIn wsX6_mends wsX6_firstStuck := goodIn_r _ [10, 11, 12, 1, 13, 14, 15, 9, 16, 17, 2, 3, 18, 19, 20, 21, 22, 23, 24, 25, 26, 27, 28, 29, 4, 30, 31, 32, 33, 34, 35, 36, 37, 38, 39, 40, 41, 5, 42, 43, 44, 45, 46, 74, 75, 76, 77, 78, 79, 80, 81, 82, 83, 84, 85, 86, 87, 88, 89, 90, 91, 92, 93, 94, 95, 96, 97, 98, 99, 100, 101, 102, 103, 104, 105, 106, 107] (by decide +kernel) (by decide +kernel)
set_option maxRecDepth 20000 in
theorem gX6_mends_X6_firstStuck : GoodIn wsX6_mends (wsV RX6 183 RX6 yX6_firstStuck wsX6_firstStuck) := goodIn_app (goodIn_of _ (by decide +kernel)) ggX6_mends_X6_firstStuck
set_option maxRecDepth 20000 in
theorem ggX6_mends_X6_putConstant : GoodIn wsX6_mends wsX6_putConstant := goodIn_r _ [50, 11, 12, 51, 2, 24, 22, 23, 3, 52, 53, 54, 55, 9, 56, 57, 58, 59, 74, 75, 76, 77, 78, 79, 80, 81, 82, 83, 84, 85, 86, 87, 88, 89, 90, 91, 92, 93, 94, 95, 96, 97, 98, 99, 100, 101, 102, 103, 104, 105, 106, 107] (by decide +kernel) (by decide +kernel)
set_option maxRecDepth 20000 in
theorem gX6_mends_X6_putConstant : GoodIn wsX6_mends (wsV RX6 187 RX6 yX6_putConstant wsX6_putConstant) := goodIn_app (goodIn_of _ (by decide +kernel)) ggX6_mends_X6_putConstant
set_option maxRecDepth 20000 in
theorem ggX6_mends_X6_putIsland : GoodIn wsX6_mends wsX6_putIsland := goodIn_r _ [63, 41, 5, 64, 65, 66, 67, 9, 68, 29, 11, 12, 69, 24, 34, 35, 36, 53, 54, 55, 56, 57, 58, 59, 74, 75, 76, 77, 78, 79, 80, 81, 82, 83, 84, 85, 86, 87, 88, 89, 90, 91, 92, 93, 94, 95, 96, 97, 98, 99, 100, 101, 102, 103, 104, 105, 106, 107] (by decide +kernel) (by decide +kernel)
set_option maxRecDepth 20000 in
theorem gX6_mends_X6_putIsland : GoodIn wsX6_mends (wsV RX6 190 RX6 yX6_putIsland wsX6_putIsland) := goodIn_app (goodIn_of _ (by decide +kernel)) ggX6_mends_X6_putIsland
set_option maxRecDepth 20000 in
theorem ggX6_mends_X6_firstStuckIsland : GoodIn wsX6_mends wsX6_firstStuckIsland := goodIn_r _ [73, 41, 4, 5, 25, 26, 27, 9, 28, 29, 30, 31, 32, 33, 24, 34, 35, 36, 37, 38, 39, 40, 42, 74, 75, 76, 77, 78, 79, 80, 81, 82, 83, 84, 85, 86, 87, 88, 89, 90, 91, 92, 93, 94, 95, 96, 97, 98, 99, 100, 101, 102, 103, 104, 105, 106, 107] (by decide +kernel) (by decide +kernel)
set_option maxRecDepth 20000 in
theorem gX6_mends_X6_firstStuckIsland : GoodIn wsX6_mends (wsV RX6 194 RX6 yX6_firstStuckIsland wsX6_firstStuckIsland) := goodIn_app (goodIn_of _ (by decide +kernel)) ggX6_mends_X6_firstStuckIsland
theorem dX6_mends_0 : decode cX6_mends 0 = .ok (.aload_n 0, 1) := by decide +kernel
theorem dX6_mends_1 : decode cX6_mends 1 = .ok (.iconst 2, 1) := by decide +kernel
theorem dX6_mends_2 : decode cX6_mends 2 = .ok (.iconst 0, 1) := by decide +kernel
theorem dX6_mends_3 : decode cX6_mends 3 = .ok (.invokevirtual 183, 3) := by decide +kernel
theorem dX6_mends_6 : decode cX6_mends 6 = .ok (.istore_n 1, 1) := by decide +kernel
theorem dX6_mends_7 : decode cX6_mends 7 = .ok (.iload_n 1, 1) := by decide +kernel
theorem dX6_mends_8 : decode cX6_mends 8 = .ok (.iconst (-1), 1) := by decide +kernel
theorem dX6_mends_9 : decode cX6_mends 9 = .ok (.if_icmp .eq 12, 3) := by decide +kernel
theorem dX6_mends_12 : decode cX6_mends 12 = .ok (.aload_n 0, 1) := by decide +kernel
theorem dX6_mends_13 : decode cX6_mends 13 = .ok (.getfield 28, 3) := by decide +kernel
theorem dX6_mends_16 : decode cX6_mends 16 = .ok (.iload_n 1, 1) := by decide +kernel
theorem dX6_mends_17 : decode cX6_mends 17 = .ok (.iconst 1, 1) := by decide +kernel
theorem dX6_mends_18 : decode cX6_mends 18 = .ok (.bastore, 1) := by decide +kernel
theorem dX6_mends_19 : decode cX6_mends 19 = .ok (.iconst 1, 1) := by decide +kernel
theorem dX6_mends_20 : decode cX6_mends 20 = .ok (.ireturn, 1) := by decide +kernel
theorem dX6_mends_21 : decode cX6_mends 21 = .ok (.aload_n 0, 1) := by decide +kernel
theorem dX6_mends_22 : decode cX6_mends 22 = .ok (.iconst 1, 1) := by decide +kernel
theorem dX6_mends_23 : decode cX6_mends 23 = .ok (.iconst 0, 1) := by decide +kernel
theorem dX6_mends_24 : decode cX6_mends 24 = .ok (.invokevirtual 183, 3) := by decide +kernel
theorem dX6_mends_27 : decode cX6_mends 27 = .ok (.istore_n 1, 1) := by decide +kernel
theorem dX6_mends_28 : decode cX6_mends 28 = .ok (.iload_n 1, 1) := by decide +kernel
theorem dX6_mends_29 : decode cX6_mends 29 = .ok (.iconst (-1), 1) := by decide +kernel
theorem dX6_mends_30 : decode cX6_mends 30 = .ok (.if_icmp .eq 9, 3) := by decide +kernel
theorem dX6_mends_33 : decode cX6_mends 33 = .ok (.aload_n 0, 1) := by decide +kernel
theorem dX6_mends_34 : decode cX6_mends 34 = .ok (.iload_n 1, 1) := by decide +kernel
theorem dX6_mends_35 : decode cX6_mends 35 = .ok (.invokevirtual 187, 3) := by decide +kernel
theorem dX6_mends_38 : decode cX6_mends 38 = .ok (.ireturn, 1) := by decide +kernel
theorem dX6_mends_39 : decode cX6_mends 39 = .ok (.aload_n 0, 1) := by decide +kernel
theorem dX6_mends_40 : decode cX6_mends 40 = .ok (.iconst 2, 1) := by decide +kernel
theorem dX6_mends_41 : decode cX6_mends 41 = .ok (.iconst 1, 1) := by decide +kernel
theorem dX6_mends_42 : decode cX6_mends 42 = .ok (.invokevirtual 183, 3) := by decide +kernel
theorem dX6_mends_45 : decode cX6_mends 45 = .ok (.istore_n 1, 1) := by decide +kernel
theorem dX6_mends_46 : decode cX6_mends 46 = .ok (.iload_n 1, 1) := by decide +kernel
theorem dX6_mends_47 : decode cX6_mends 47 = .ok (.iconst (-1), 1) := by decide +kernel
theorem dX6_mends_48 : decode cX6_mends 48 = .ok (.if_icmp .eq 22, 3) := by decide +kernel
theorem dX6_mends_51 : decode cX6_mends 51 = .ok (.aload_n 0, 1) := by decide +kernel
theorem dX6_mends_52 : decode cX6_mends 52 = .ok (.aload_n 0, 1) := by decide +kernel
theorem dX6_mends_53 : decode cX6_mends 53 = .ok (.getfield 44, 3) := by decide +kernel
theorem dX6_mends_56 : decode cX6_mends 56 = .ok (.iload_n 1, 1) := by decide +kernel
theorem dX6_mends_57 : decode cX6_mends 57 = .ok (.iaload, 1) := by decide +kernel
theorem dX6_mends_58 : decode cX6_mends 58 = .ok (.aload_n 0, 1) := by decide +kernel
theorem dX6_mends_59 : decode cX6_mends 59 = .ok (.getfield 16, 3) := by decide +kernel
theorem dX6_mends_62 : decode cX6_mends 62 = .ok (.iload_n 1, 1) := by decide +kernel
theorem dX6_mends_63 : decode cX6_mends 63 = .ok (.iaload, 1) := by decide +kernel
theorem dX6_mends_64 : decode cX6_mends 64 = .ok (.iconst 2, 1) := by decide +kernel
theorem dX6_mends_65 : decode cX6_mends 65 = .ok (.iload_n 1, 1) := by decide +kernel
theorem dX6_mends_66 : decode cX6_mends 66 = .ok (.invokevirtual 190, 3) := by decide +kernel
theorem dX6_mends_69 : decode cX6_mends 69 = .ok (.ireturn, 1) := by decide +kernel
theorem dX6_mends_70 : decode cX6_mends 70 = .ok (.aload_n 0, 1) := by decide +kernel
theorem dX6_mends_71 : decode cX6_mends 71 = .ok (.invokevirtual 194, 3) := by decide +kernel
theorem dX6_mends_74 : decode cX6_mends 74 = .ok (.istore_n 1, 1) := by decide +kernel
theorem dX6_mends_75 : decode cX6_mends 75 = .ok (.iload_n 1, 1) := by decide +kernel
theorem dX6_mends_76 : decode cX6_mends 76 = .ok (.iconst (-1), 1) := by decide +kernel
theorem dX6_mends_77 : decode cX6_mends 77 = .ok (.if_icmp .eq 28, 3) := by decide +kernel
theorem dX6_mends_80 : decode cX6_mends 80 = .ok (.aload_n 0, 1) := by decide +kernel
theorem dX6_mends_81 : decode cX6_mends 81 = .ok (.aload_n 0, 1) := by decide +kernel
theorem dX6_mends_82 : decode cX6_mends 82 = .ok (.getfield 47, 3) := by decide +kernel
theorem dX6_mends_85 : decode cX6_mends 85 = .ok (.iload_n 1, 1) := by decide +kernel
theorem dX6_mends_86 : decode cX6_mends 86 = .ok (.iaload, 1) := by decide +kernel
theorem dX6_mends_87 : decode cX6_mends 87 = .ok (.aload_n 0, 1) := by decide +kernel
theorem dX6_mends_88 : decode cX6_mends 88 = .ok (.getfield 32, 3) := by decide +kernel
theorem dX6_mends_91 : decode cX6_mends 91 = .ok (.iload_n 1, 1) := by decide +kernel
theorem dX6_mends_92 : decode cX6_mends 92 = .ok (.iaload, 1) := by decide +kernel
theorem dX6_mends_93 : decode cX6_mends 93 = .ok (.iconst 3, 1) := by decide +kernel
theorem dX6_mends_94 : decode cX6_mends 94 = .ok (.iload_n 1, 1) := by decide +kernel
theorem dX6_mends_95 : decode cX6_mends 95 = .ok (.invokevirtual 190, 3) := by decide +kernel
theorem dX6_mends_98 : decode cX6_mends 98 = .ok (.ifCond .eq 7, 3) := by decide +kernel
theorem dX6_mends_101 : decode cX6_mends 101 = .ok (.iconst 1, 1) := by decide +kernel
theorem dX6_mends_102 : decode cX6_mends 102 = .ok (.goto 4, 3) := by decide +kernel
theorem dX6_mends_105 : decode cX6_mends 105 = .ok (.iconst 0, 1) := by decide +kernel
theorem dX6_mends_106 : decode cX6_mends 106 = .ok (.ireturn, 1) := by decide +kernel
set_option maxRecDepth 20000 in
theorem ggX6_placeAll_X6_layAll : GoodIn wsX6_placeAll wsX6_layAll := goodIn_r _ [13, 14, 7, 15, 16, 17, 18, 19, 20, 21, 22, 12, 23, 8, 24, 25, 26, 27, 28, 29, 30, 1, 31, 32, 33, 2, 34, 35, 36, 96, 97, 98, 99, 100, 101, 102, 103, 104, 105, 106, 107, 108, 109, 110, 111, 112, 113, 114, 115, 116, 117, 118, 119, 120, 121, 122, 123, 124, 125, 126, 127, 128, 129] (by decide +kernel) (by decide +kernel)
set_option maxRecDepth 20000 in
theorem gX6_placeAll_X6_layAll : GoodIn wsX6_placeAll (wsV RX6 200 RX6 yX6_layAll wsX6_layAll) := goodIn_app (goodIn_of _ (by decide +kernel)) ggX6_placeAll_X6_layAll
set_option maxRecDepth 20000 in
theorem ggX6_placeAll_X6_mends : GoodIn wsX6_placeAll wsX6_mends := goodIn_r _ [40, 8, 15, 18, 32, 41, 42, 43, 44, 12, 45, 7, 16, 46, 47, 48, 49, 35, 50, 51, 52, 53, 2, 54, 55, 56, 57, 58, 59, 17, 60, 61, 62, 63, 64, 65, 66, 67, 68, 69, 70, 1, 71, 72, 73, 74, 75, 76, 77, 78, 79, 36, 34, 80, 81, 82, 83, 4, 5, 6, 84, 85, 86, 87, 31, 88, 89, 90, 91, 33, 92, 93, 94, 95, 96, 97, 98, 99, 100, 101, 102, 103, 104, 105, 106, 107, 108, 109, 110, 111, 112, 113, 114, 115, 116, 117, 118, 119, 120, 121, 122, 123, 124, 125, 126, 127, 128, 129] (by decide +kernel) (by decide +kernel)
set_option maxRecDepth 20000 in
theorem gX6_placeAll_X6_mends : GoodIn wsX6_placeAll (wsV RX6 203 RX6 yX6_mends wsX6_mends) := goodIn_app (goodIn_of _ (by decide +kernel)) ggX6_placeAll_X6_mends
theorem dX6_placeAll_0 : decode cX6_placeAll 0 = .ok (.aload_n 0, 1) := by decide +kernel
theorem dX6_placeAll_1 : decode cX6_placeAll 1 = .ok (.iconst 0, 1) := by decide +kernel
theorem dX6_placeAll_2 : decode cX6_placeAll 2 = .ok (.putfield 133, 3) := by decide +kernel
theorem dX6_placeAll_5 : decode cX6_placeAll 5 = .ok (.aload_n 0, 1) := by decide +kernel
theorem dX6_placeAll_6 : decode cX6_placeAll 6 = .ok (.iconst 0, 1) := by decide +kernel
theorem dX6_placeAll_7 : decode cX6_placeAll 7 = .ok (.putfield 136, 3) := by decide +kernel
theorem dX6_placeAll_10 : decode cX6_placeAll 10 = .ok (.aload_n 0, 1) := by decide +kernel
theorem dX6_placeAll_11 : decode cX6_placeAll 11 = .ok (.iconst 0, 1) := by decide +kernel
theorem dX6_placeAll_12 : decode cX6_placeAll 12 = .ok (.putfield 197, 3) := by decide +kernel
theorem dX6_placeAll_15 : decode cX6_placeAll 15 = .ok (.aload_n 0, 1) := by decide +kernel
theorem dX6_placeAll_16 : decode cX6_placeAll 16 = .ok (.iconst 1, 1) := by decide +kernel
theorem dX6_placeAll_17 : decode cX6_placeAll 17 = .ok (.putfield 62, 3) := by decide +kernel
theorem dX6_placeAll_20 : decode cX6_placeAll 20 = .ok (.aload_n 0, 1) := by decide +kernel
theorem dX6_placeAll_21 : decode cX6_placeAll 21 = .ok (.iconst 0, 1) := by decide +kernel
theorem dX6_placeAll_22 : decode cX6_placeAll 22 = .ok (.putfield 171, 3) := by decide +kernel
theorem dX6_placeAll_25 : decode cX6_placeAll 25 = .ok (.aload_n 0, 1) := by decide +kernel
theorem dX6_placeAll_26 : decode cX6_placeAll 26 = .ok (.iconst (-1), 1) := by decide +kernel
theorem dX6_placeAll_27 : decode cX6_placeAll 27 = .ok (.putfield 66, 3) := by decide +kernel
theorem dX6_placeAll_30 : decode cX6_placeAll 30 = .ok (.iconst 0, 1) := by decide +kernel
theorem dX6_placeAll_31 : decode cX6_placeAll 31 = .ok (.istore_n 1, 1) := by decide +kernel
theorem dX6_placeAll_32 : decode cX6_placeAll 32 = .ok (.iload_n 1, 1) := by decide +kernel
theorem dX6_placeAll_33 : decode cX6_placeAll 33 = .ok (.aload_n 0, 1) := by decide +kernel
theorem dX6_placeAll_34 : decode cX6_placeAll 34 = .ok (.getfield 114, 3) := by decide +kernel
theorem dX6_placeAll_37 : decode cX6_placeAll 37 = .ok (.if_icmp .ge 16, 3) := by decide +kernel
theorem dX6_placeAll_40 : decode cX6_placeAll 40 = .ok (.aload_n 0, 1) := by decide +kernel
theorem dX6_placeAll_41 : decode cX6_placeAll 41 = .ok (.getfield 28, 3) := by decide +kernel
theorem dX6_placeAll_44 : decode cX6_placeAll 44 = .ok (.iload_n 1, 1) := by decide +kernel
theorem dX6_placeAll_45 : decode cX6_placeAll 45 = .ok (.iconst 0, 1) := by decide +kernel
theorem dX6_placeAll_46 : decode cX6_placeAll 46 = .ok (.bastore, 1) := by decide +kernel
theorem dX6_placeAll_47 : decode cX6_placeAll 47 = .ok (.iinc 1 1, 3) := by decide +kernel
theorem dX6_placeAll_50 : decode cX6_placeAll 50 = .ok (.goto (-18), 3) := by decide +kernel
theorem dX6_placeAll_53 : decode cX6_placeAll 53 = .ok (.aload_n 0, 1) := by decide +kernel
theorem dX6_placeAll_54 : decode cX6_placeAll 54 = .ok (.getfield 114, 3) := by decide +kernel
theorem dX6_placeAll_57 : decode cX6_placeAll 57 = .ok (.ifCond .le 7, 3) := by decide +kernel
theorem dX6_placeAll_60 : decode cX6_placeAll 60 = .ok (.iconst 1, 1) := by decide +kernel
theorem dX6_placeAll_61 : decode cX6_placeAll 61 = .ok (.goto 4, 3) := by decide +kernel
theorem dX6_placeAll_64 : decode cX6_placeAll 64 = .ok (.iconst 0, 1) := by decide +kernel
theorem dX6_placeAll_65 : decode cX6_placeAll 65 = .ok (.istore_n 1, 1) := by decide +kernel
theorem dX6_placeAll_66 : decode cX6_placeAll 66 = .ok (.iload_n 1, 1) := by decide +kernel
theorem dX6_placeAll_67 : decode cX6_placeAll 67 = .ok (.ifCond .eq 25, 3) := by decide +kernel
theorem dX6_placeAll_70 : decode cX6_placeAll 70 = .ok (.aload_n 0, 1) := by decide +kernel
theorem dX6_placeAll_71 : decode cX6_placeAll 71 = .ok (.dup, 1) := by decide +kernel
theorem dX6_placeAll_72 : decode cX6_placeAll 72 = .ok (.getfield 197, 3) := by decide +kernel
theorem dX6_placeAll_75 : decode cX6_placeAll 75 = .ok (.iconst 1, 1) := by decide +kernel
theorem dX6_placeAll_76 : decode cX6_placeAll 76 = .ok (.iadd, 1) := by decide +kernel
theorem dX6_placeAll_77 : decode cX6_placeAll 77 = .ok (.putfield 197, 3) := by decide +kernel
theorem dX6_placeAll_80 : decode cX6_placeAll 80 = .ok (.aload_n 0, 1) := by decide +kernel
theorem dX6_placeAll_81 : decode cX6_placeAll 81 = .ok (.invokevirtual 200, 3) := by decide +kernel
theorem dX6_placeAll_84 : decode cX6_placeAll 84 = .ok (.aload_n 0, 1) := by decide +kernel
theorem dX6_placeAll_85 : decode cX6_placeAll 85 = .ok (.invokevirtual 203, 3) := by decide +kernel
theorem dX6_placeAll_88 : decode cX6_placeAll 88 = .ok (.istore_n 1, 1) := by decide +kernel
theorem dX6_placeAll_89 : decode cX6_placeAll 89 = .ok (.goto (-23), 3) := by decide +kernel
theorem dX6_placeAll_92 : decode cX6_placeAll 92 = .ok (.return_, 1) := by decide +kernel
set_option maxRecDepth 20000 in
theorem ggX6_itemNow_X6_sizeOf : GoodIn wsX6_itemNow wsX6_sizeOf := goodIn_r _ [9, 1, 2, 4, 10, 11, 8, 12, 49, 50, 51, 52, 53, 54, 55, 56, 57, 58, 59, 60, 61, 62, 63, 64, 65, 66, 67, 68, 69, 70, 71, 72, 73, 74, 75, 76, 77, 78, 79, 80, 81, 82] (by decide +kernel) (by decide +kernel)
set_option maxRecDepth 20000 in
theorem gX6_itemNow_X6_sizeOf : GoodIn wsX6_itemNow (wsV RX6 142 RX6 yX6_sizeOf wsX6_sizeOf) := goodIn_app (goodIn_of _ (by decide +kernel)) ggX6_itemNow_X6_sizeOf
set_option maxRecDepth 20000 in
theorem ggX6_itemNow_X6_goesTo : GoodIn wsX6_itemNow wsX6_goesTo := goodIn_r _ [16, 1, 17, 4, 3, 2, 18, 19, 20, 8, 21, 22, 23, 24, 25, 26, 27, 28, 29, 30, 31, 32, 33, 34, 35, 36, 37, 38, 39, 40, 41, 42, 43, 44, 45, 46, 47, 48, 49, 50, 51, 52, 53, 54, 55, 56, 57, 58, 59, 60, 61, 62, 63, 64, 65, 66, 67, 68, 69, 70, 71, 72, 73, 74, 75, 76, 77, 78, 79, 80, 81, 82] (by decide +kernel) (by decide +kernel)
set_option maxRecDepth 20000 in
theorem gX6_itemNow_X6_goesTo : GoodIn wsX6_itemNow (wsV RX6 174 RX6 yX6_goesTo wsX6_goesTo) := goodIn_app (goodIn_of _ (by decide +kernel)) ggX6_itemNow_X6_goesTo
theorem dX6_itemNow_0 : decode cX6_itemNow 0 = .ok (.iload_n 2, 1) := by decide +kernel
theorem dX6_itemNow_1 : decode cX6_itemNow 1 = .ok (.tableswitch 83 0 4 #[35, 42, 49, 56, 68], 35) := by decide +kernel
theorem dX6_itemNow_36 : decode cX6_itemNow 36 = .ok (.aload_n 0, 1) := by decide +kernel
theorem dX6_itemNow_37 : decode cX6_itemNow 37 = .ok (.getfield 13, 3) := by decide +kernel
theorem dX6_itemNow_40 : decode cX6_itemNow 40 = .ok (.iload_n 1, 1) := by decide +kernel
theorem dX6_itemNow_41 : decode cX6_itemNow 41 = .ok (.iaload, 1) := by decide +kernel
theorem dX6_itemNow_42 : decode cX6_itemNow 42 = .ok (.ireturn, 1) := by decide +kernel
theorem dX6_itemNow_43 : decode cX6_itemNow 43 = .ok (.aload_n 0, 1) := by decide +kernel
theorem dX6_itemNow_44 : decode cX6_itemNow 44 = .ok (.getfield 16, 3) := by decide +kernel
theorem dX6_itemNow_47 : decode cX6_itemNow 47 = .ok (.iload_n 1, 1) := by decide +kernel
theorem dX6_itemNow_48 : decode cX6_itemNow 48 = .ok (.iaload, 1) := by decide +kernel
theorem dX6_itemNow_49 : decode cX6_itemNow 49 = .ok (.ireturn, 1) := by decide +kernel
theorem dX6_itemNow_50 : decode cX6_itemNow 50 = .ok (.aload_n 0, 1) := by decide +kernel
theorem dX6_itemNow_51 : decode cX6_itemNow 51 = .ok (.getfield 44, 3) := by decide +kernel
theorem dX6_itemNow_54 : decode cX6_itemNow 54 = .ok (.iload_n 1, 1) := by decide +kernel
theorem dX6_itemNow_55 : decode cX6_itemNow 55 = .ok (.iaload, 1) := by decide +kernel
theorem dX6_itemNow_56 : decode cX6_itemNow 56 = .ok (.ireturn, 1) := by decide +kernel
theorem dX6_itemNow_57 : decode cX6_itemNow 57 = .ok (.aload_n 0, 1) := by decide +kernel
theorem dX6_itemNow_58 : decode cX6_itemNow 58 = .ok (.iload_n 1, 1) := by decide +kernel
theorem dX6_itemNow_59 : decode cX6_itemNow 59 = .ok (.aload_n 0, 1) := by decide +kernel
theorem dX6_itemNow_60 : decode cX6_itemNow 60 = .ok (.getfield 44, 3) := by decide +kernel
theorem dX6_itemNow_63 : decode cX6_itemNow 63 = .ok (.iload_n 1, 1) := by decide +kernel
theorem dX6_itemNow_64 : decode cX6_itemNow 64 = .ok (.iaload, 1) := by decide +kernel
theorem dX6_itemNow_65 : decode cX6_itemNow 65 = .ok (.invokevirtual 142, 3) := by decide +kernel
theorem dX6_itemNow_68 : decode cX6_itemNow 68 = .ok (.ireturn, 1) := by decide +kernel
theorem dX6_itemNow_69 : decode cX6_itemNow 69 = .ok (.aload_n 0, 1) := by decide +kernel
theorem dX6_itemNow_70 : decode cX6_itemNow 70 = .ok (.getfield 28, 3) := by decide +kernel
theorem dX6_itemNow_73 : decode cX6_itemNow 73 = .ok (.iload_n 1, 1) := by decide +kernel
theorem dX6_itemNow_74 : decode cX6_itemNow 74 = .ok (.baload, 1) := by decide +kernel
theorem dX6_itemNow_75 : decode cX6_itemNow 75 = .ok (.ifCond .eq 7, 3) := by decide +kernel
theorem dX6_itemNow_78 : decode cX6_itemNow 78 = .ok (.iconst 1, 1) := by decide +kernel
theorem dX6_itemNow_79 : decode cX6_itemNow 79 = .ok (.goto 4, 3) := by decide +kernel
theorem dX6_itemNow_82 : decode cX6_itemNow 82 = .ok (.iconst 0, 1) := by decide +kernel
theorem dX6_itemNow_83 : decode cX6_itemNow 83 = .ok (.ireturn, 1) := by decide +kernel
theorem dX6_itemNow_84 : decode cX6_itemNow 84 = .ok (.aload_n 0, 1) := by decide +kernel
theorem dX6_itemNow_85 : decode cX6_itemNow 85 = .ok (.iload_n 1, 1) := by decide +kernel
theorem dX6_itemNow_86 : decode cX6_itemNow 86 = .ok (.invokevirtual 174, 3) := by decide +kernel
theorem dX6_itemNow_89 : decode cX6_itemNow 89 = .ok (.ireturn, 1) := by decide +kernel
set_option maxRecDepth 20000 in
theorem ggX6_item_X6_isItem : GoodIn wsX6_item wsX6_isItem := goodIn_r _ [5, 6, 7, 8, 4, 9, 61, 62, 63, 64, 65, 66, 67, 68, 69, 70, 71, 72, 73, 74, 75, 76, 77, 78, 79, 80, 81, 82, 83, 84, 85, 86, 87, 88, 89, 90, 91, 92, 93, 94] (by decide +kernel) (by decide +kernel)
set_option maxRecDepth 20000 in
theorem gX6_item_X6_isItem : GoodIn wsX6_item (wsV RX6 126 RX6 yX6_isItem wsX6_isItem) := goodIn_app (goodIn_of _ (by decide +kernel)) ggX6_item_X6_isItem
set_option maxRecDepth 20000 in
theorem ggX6_item_X6_within : GoodIn wsX6_item wsX6_within := goodIn_r _ [9] (by decide +kernel) (by decide +kernel)
set_option maxRecDepth 20000 in
theorem gX6_item_X6_within : GoodIn wsX6_item (va_wsS RX6 70 yX6_within wsX6_within) := goodIn_app (goodIn_of _ (by decide +kernel)) ggX6_item_X6_within
set_option maxRecDepth 20000 in
theorem ggX6_item_X6_itemNow : GoodIn wsX6_item wsX6_itemNow := goodIn_r _ [13, 14, 15, 16, 17, 18, 19, 20, 4, 21, 22, 23, 24, 25, 26, 27, 28, 29, 30, 31, 32, 33, 34, 35, 36, 37, 38, 39, 40, 41, 42, 43, 44, 45, 46, 47, 48, 49, 50, 51, 52, 53, 54, 55, 56, 57, 58, 59, 60, 61, 62, 63, 64, 65, 66, 67, 68, 69, 70, 71, 72, 73, 74, 75, 76, 77, 78, 79, 80, 81, 82, 83, 84, 85, 86, 87, 88, 89, 90, 91, 92, 93, 94] (by decide +kernel) (by decide +kernel)
set_option maxRecDepth 20000 in
theorem gX6_item_X6_itemNow : GoodIn wsX6_item (wsV RX6 207 RX6 yX6_itemNow wsX6_itemNow) := goodIn_app (goodIn_of _ (by decide +kernel)) ggX6_item_X6_itemNow
theorem dX6_item_0 : decode cX6_item 0 = .ok (.aload_n 0, 1) := by decide +kernel
theorem dX6_item_1 : decode cX6_item 1 = .ok (.iload_n 1, 1) := by decide +kernel
theorem dX6_item_2 : decode cX6_item 2 = .ok (.invokevirtual 126, 3) := by decide +kernel
theorem dX6_item_5 : decode cX6_item 5 = .ok (.ifCond .ne 7, 3) := by decide +kernel
theorem dX6_item_8 : decode cX6_item 8 = .ok (.sipush (-1001), 3) := by decide +kernel
theorem dX6_item_11 : decode cX6_item 11 = .ok (.ireturn, 1) := by decide +kernel
theorem dX6_item_12 : decode cX6_item 12 = .ok (.iload_n 2, 1) := by decide +kernel
theorem dX6_item_13 : decode cX6_item 13 = .ok (.iconst 0, 1) := by decide +kernel
theorem dX6_item_14 : decode cX6_item 14 = .ok (.iconst 5, 1) := by decide +kernel
theorem dX6_item_15 : decode cX6_item 15 = .ok (.invokestatic 70, 3) := by decide +kernel
theorem dX6_item_18 : decode cX6_item 18 = .ok (.ifCond .eq 12, 3) := by decide +kernel
theorem dX6_item_21 : decode cX6_item 21 = .ok (.aload_n 0, 1) := by decide +kernel
theorem dX6_item_22 : decode cX6_item 22 = .ok (.iload_n 1, 1) := by decide +kernel
theorem dX6_item_23 : decode cX6_item 23 = .ok (.iload_n 2, 1) := by decide +kernel
theorem dX6_item_24 : decode cX6_item 24 = .ok (.invokevirtual 207, 3) := by decide +kernel
theorem dX6_item_27 : decode cX6_item 27 = .ok (.goto 6, 3) := by decide +kernel
theorem dX6_item_30 : decode cX6_item 30 = .ok (.sipush (-1002), 3) := by decide +kernel
theorem dX6_item_33 : decode cX6_item 33 = .ok (.ireturn, 1) := by decide +kernel
set_option maxRecDepth 20000 in
theorem ggX6_islandNow_X6_goesFrom : GoodIn wsX6_islandNow wsX6_goesFrom := goodIn_r _ [8, 9, 3, 10, 11, 12, 7, 13, 14, 15, 16, 17, 18, 19, 20, 21, 22, 1, 23, 24, 25, 26, 27, 28, 29, 30, 31, 32, 33, 34, 35, 36, 37, 38, 39, 40, 41, 42, 43, 44, 45, 46, 47, 48, 49, 50, 51, 52, 53, 54, 55, 56, 57] (by decide +kernel) (by decide +kernel)
set_option maxRecDepth 20000 in
theorem gX6_islandNow_X6_goesFrom : GoodIn wsX6_islandNow (wsV RX6 165 RX6 yX6_goesFrom wsX6_goesFrom) := goodIn_app (goodIn_of _ (by decide +kernel)) ggX6_islandNow_X6_goesFrom
theorem dX6_islandNow_0 : decode cX6_islandNow 0 = .ok (.iload_n 2, 1) := by decide +kernel
theorem dX6_islandNow_1 : decode cX6_islandNow 1 = .ok (.ifCond .ne 12, 3) := by decide +kernel
theorem dX6_islandNow_4 : decode cX6_islandNow 4 = .ok (.aload_n 0, 1) := by decide +kernel
theorem dX6_islandNow_5 : decode cX6_islandNow 5 = .ok (.getfield 32, 3) := by decide +kernel
theorem dX6_islandNow_8 : decode cX6_islandNow 8 = .ok (.iload_n 1, 1) := by decide +kernel
theorem dX6_islandNow_9 : decode cX6_islandNow 9 = .ok (.iaload, 1) := by decide +kernel
theorem dX6_islandNow_10 : decode cX6_islandNow 10 = .ok (.goto 47, 3) := by decide +kernel
theorem dX6_islandNow_13 : decode cX6_islandNow 13 = .ok (.iload_n 2, 1) := by decide +kernel
theorem dX6_islandNow_14 : decode cX6_islandNow 14 = .ok (.iconst 1, 1) := by decide +kernel
theorem dX6_islandNow_15 : decode cX6_islandNow 15 = .ok (.if_icmp .ne 12, 3) := by decide +kernel
theorem dX6_islandNow_18 : decode cX6_islandNow 18 = .ok (.aload_n 0, 1) := by decide +kernel
theorem dX6_islandNow_19 : decode cX6_islandNow 19 = .ok (.getfield 35, 3) := by decide +kernel
theorem dX6_islandNow_22 : decode cX6_islandNow 22 = .ok (.iload_n 1, 1) := by decide +kernel
theorem dX6_islandNow_23 : decode cX6_islandNow 23 = .ok (.iaload, 1) := by decide +kernel
theorem dX6_islandNow_24 : decode cX6_islandNow 24 = .ok (.goto 33, 3) := by decide +kernel
theorem dX6_islandNow_27 : decode cX6_islandNow 27 = .ok (.iload_n 2, 1) := by decide +kernel
theorem dX6_islandNow_28 : decode cX6_islandNow 28 = .ok (.iconst 2, 1) := by decide +kernel
theorem dX6_islandNow_29 : decode cX6_islandNow 29 = .ok (.if_icmp .ne 12, 3) := by decide +kernel
theorem dX6_islandNow_32 : decode cX6_islandNow 32 = .ok (.aload_n 0, 1) := by decide +kernel
theorem dX6_islandNow_33 : decode cX6_islandNow 33 = .ok (.getfield 47, 3) := by decide +kernel
theorem dX6_islandNow_36 : decode cX6_islandNow 36 = .ok (.iload_n 1, 1) := by decide +kernel
theorem dX6_islandNow_37 : decode cX6_islandNow 37 = .ok (.iaload, 1) := by decide +kernel
theorem dX6_islandNow_38 : decode cX6_islandNow 38 = .ok (.goto 19, 3) := by decide +kernel
theorem dX6_islandNow_41 : decode cX6_islandNow 41 = .ok (.aload_n 0, 1) := by decide +kernel
theorem dX6_islandNow_42 : decode cX6_islandNow 42 = .ok (.aload_n 0, 1) := by decide +kernel
theorem dX6_islandNow_43 : decode cX6_islandNow 43 = .ok (.getfield 47, 3) := by decide +kernel
theorem dX6_islandNow_46 : decode cX6_islandNow 46 = .ok (.iload_n 1, 1) := by decide +kernel
theorem dX6_islandNow_47 : decode cX6_islandNow 47 = .ok (.iaload, 1) := by decide +kernel
theorem dX6_islandNow_48 : decode cX6_islandNow 48 = .ok (.aload_n 0, 1) := by decide +kernel
theorem dX6_islandNow_49 : decode cX6_islandNow 49 = .ok (.getfield 32, 3) := by decide +kernel
theorem dX6_islandNow_52 : decode cX6_islandNow 52 = .ok (.iload_n 1, 1) := by decide +kernel
theorem dX6_islandNow_53 : decode cX6_islandNow 53 = .ok (.iaload, 1) := by decide +kernel
theorem dX6_islandNow_54 : decode cX6_islandNow 54 = .ok (.invokevirtual 165, 3) := by decide +kernel
theorem dX6_islandNow_57 : decode cX6_islandNow 57 = .ok (.ireturn, 1) := by decide +kernel
set_option maxRecDepth 20000 in
theorem ggX6_island_X6_within : GoodIn wsX6_island wsX6_within := goodIn_r _ [5] (by decide +kernel) (by decide +kernel)
set_option maxRecDepth 20000 in
theorem gX6_island_X6_within : GoodIn wsX6_island (va_wsS RX6 70 yX6_within wsX6_within) := goodIn_app (goodIn_of _ (by decide +kernel)) ggX6_island_X6_within
set_option maxRecDepth 20000 in
theorem ggX6_island_X6_islandNow : GoodIn wsX6_island wsX6_islandNow := goodIn_r _ [9, 10, 11, 12, 13, 14, 15, 4, 16, 17, 18, 19, 20, 21, 22, 23, 24, 25, 26, 27, 28, 29, 1, 30, 31, 32, 33, 34, 35, 36, 37, 38, 39, 40, 41, 42, 43, 44, 45, 46, 47, 48, 49, 50, 51, 52, 53, 54, 55, 56, 57, 58, 59, 60, 61, 62, 63, 64] (by decide +kernel) (by decide +kernel)
set_option maxRecDepth 20000 in
theorem gX6_island_X6_islandNow : GoodIn wsX6_island (wsV RX6 210 RX6 yX6_islandNow wsX6_islandNow) := goodIn_app (goodIn_of _ (by decide +kernel)) ggX6_island_X6_islandNow
theorem dX6_island_0 : decode cX6_island 0 = .ok (.iload_n 1, 1) := by decide +kernel
theorem dX6_island_1 : decode cX6_island 1 = .ok (.iconst 0, 1) := by decide +kernel
theorem dX6_island_2 : decode cX6_island 2 = .ok (.aload_n 0, 1) := by decide +kernel
theorem dX6_island_3 : decode cX6_island 3 = .ok (.getfield 133, 3) := by decide +kernel
theorem dX6_island_6 : decode cX6_island 6 = .ok (.iconst 1, 1) := by decide +kernel
theorem dX6_island_7 : decode cX6_island 7 = .ok (.isub, 1) := by decide +kernel
theorem dX6_island_8 : decode cX6_island 8 = .ok (.invokestatic 70, 3) := by decide +kernel
theorem dX6_island_11 : decode cX6_island 11 = .ok (.ifCond .ne 7, 3) := by decide +kernel
theorem dX6_island_14 : decode cX6_island 14 = .ok (.sipush (-1001), 3) := by decide +kernel
theorem dX6_island_17 : decode cX6_island 17 = .ok (.ireturn, 1) := by decide +kernel
theorem dX6_island_18 : decode cX6_island 18 = .ok (.iload_n 2, 1) := by decide +kernel
theorem dX6_island_19 : decode cX6_island 19 = .ok (.iconst 0, 1) := by decide +kernel
theorem dX6_island_20 : decode cX6_island 20 = .ok (.iconst 3, 1) := by decide +kernel
theorem dX6_island_21 : decode cX6_island 21 = .ok (.invokestatic 70, 3) := by decide +kernel
theorem dX6_island_24 : decode cX6_island 24 = .ok (.ifCond .eq 12, 3) := by decide +kernel
theorem dX6_island_27 : decode cX6_island 27 = .ok (.aload_n 0, 1) := by decide +kernel
theorem dX6_island_28 : decode cX6_island 28 = .ok (.iload_n 1, 1) := by decide +kernel
theorem dX6_island_29 : decode cX6_island 29 = .ok (.iload_n 2, 1) := by decide +kernel
theorem dX6_island_30 : decode cX6_island 30 = .ok (.invokevirtual 210, 3) := by decide +kernel
theorem dX6_island_33 : decode cX6_island 33 = .ok (.goto 6, 3) := by decide +kernel
theorem dX6_island_36 : decode cX6_island 36 = .ok (.sipush (-1002), 3) := by decide +kernel
theorem dX6_island_39 : decode cX6_island 39 = .ok (.ireturn, 1) := by decide +kernel
set_option maxRecDepth 20000 in
theorem ggX6_loadsOf_X6_constantFor : GoodIn wsX6_loadsOf wsX6_constantFor := goodIn_r _ [7, 8, 9, 10, 11, 12, 13, 14, 15, 16, 17, 18, 19, 20, 21, 22, 23, 24, 25, 26, 27, 28, 29, 30, 31, 32, 33, 34, 35, 36, 37, 38, 39, 40, 41, 42, 43, 44, 45, 46, 47] (by decide +kernel) (by decide +kernel)
set_option maxRecDepth 20000 in
theorem gX6_loadsOf_X6_constantFor : GoodIn wsX6_loadsOf (wsV RX6 162 RX6 yX6_constantFor wsX6_constantFor) := goodIn_app (goodIn_of _ (by decide +kernel)) ggX6_loadsOf_X6_constantFor
theorem dX6_loadsOf_0 : decode cX6_loadsOf 0 = .ok (.iconst 0, 1) := by decide +kernel
theorem dX6_loadsOf_1 : decode cX6_loadsOf 1 = .ok (.istore_n 2, 1) := by decide +kernel
theorem dX6_loadsOf_2 : decode cX6_loadsOf 2 = .ok (.iconst 0, 1) := by decide +kernel
theorem dX6_loadsOf_3 : decode cX6_loadsOf 3 = .ok (.istore_n 3, 1) := by decide +kernel
theorem dX6_loadsOf_4 : decode cX6_loadsOf 4 = .ok (.iload_n 3, 1) := by decide +kernel
theorem dX6_loadsOf_5 : decode cX6_loadsOf 5 = .ok (.aload_n 0, 1) := by decide +kernel
theorem dX6_loadsOf_6 : decode cX6_loadsOf 6 = .ok (.getfield 114, 3) := by decide +kernel
theorem dX6_loadsOf_9 : decode cX6_loadsOf 9 = .ok (.if_icmp .ge 36, 3) := by decide +kernel
theorem dX6_loadsOf_12 : decode cX6_loadsOf 12 = .ok (.iload_n 2, 1) := by decide +kernel
theorem dX6_loadsOf_13 : decode cX6_loadsOf 13 = .ok (.aload_n 0, 1) := by decide +kernel
theorem dX6_loadsOf_14 : decode cX6_loadsOf 14 = .ok (.getfield 13, 3) := by decide +kernel
theorem dX6_loadsOf_17 : decode cX6_loadsOf 17 = .ok (.iload_n 3, 1) := by decide +kernel
theorem dX6_loadsOf_18 : decode cX6_loadsOf 18 = .ok (.iaload, 1) := by decide +kernel
theorem dX6_loadsOf_19 : decode cX6_loadsOf 19 = .ok (.iconst 1, 1) := by decide +kernel
theorem dX6_loadsOf_20 : decode cX6_loadsOf 20 = .ok (.if_icmp .ne 16, 3) := by decide +kernel
theorem dX6_loadsOf_23 : decode cX6_loadsOf 23 = .ok (.aload_n 0, 1) := by decide +kernel
theorem dX6_loadsOf_24 : decode cX6_loadsOf 24 = .ok (.iload_n 3, 1) := by decide +kernel
theorem dX6_loadsOf_25 : decode cX6_loadsOf 25 = .ok (.invokevirtual 162, 3) := by decide +kernel
theorem dX6_loadsOf_28 : decode cX6_loadsOf 28 = .ok (.iload_n 1, 1) := by decide +kernel
theorem dX6_loadsOf_29 : decode cX6_loadsOf 29 = .ok (.if_icmp .ne 7, 3) := by decide +kernel
theorem dX6_loadsOf_32 : decode cX6_loadsOf 32 = .ok (.iconst 1, 1) := by decide +kernel
theorem dX6_loadsOf_33 : decode cX6_loadsOf 33 = .ok (.goto 4, 3) := by decide +kernel
theorem dX6_loadsOf_36 : decode cX6_loadsOf 36 = .ok (.iconst 0, 1) := by decide +kernel
theorem dX6_loadsOf_37 : decode cX6_loadsOf 37 = .ok (.iadd, 1) := by decide +kernel
theorem dX6_loadsOf_38 : decode cX6_loadsOf 38 = .ok (.istore_n 2, 1) := by decide +kernel
theorem dX6_loadsOf_39 : decode cX6_loadsOf 39 = .ok (.iinc 3 1, 3) := by decide +kernel
theorem dX6_loadsOf_42 : decode cX6_loadsOf 42 = .ok (.goto (-38), 3) := by decide +kernel
theorem dX6_loadsOf_45 : decode cX6_loadsOf 45 = .ok (.iload_n 2, 1) := by decide +kernel
theorem dX6_loadsOf_46 : decode cX6_loadsOf 46 = .ok (.ireturn, 1) := by decide +kernel
set_option maxRecDepth 20000 in
theorem ggX6_constantNow_X6_loadsOf : GoodIn wsX6_constantNow wsX6_loadsOf := goodIn_r _ [8, 9, 10, 11, 12, 13, 7, 14, 15, 3, 16, 1, 17, 18, 19, 20, 21, 22, 23, 24, 25, 26, 27, 28, 29, 30, 31, 32, 33, 34, 35, 36, 37, 38, 39, 40, 41, 42, 43, 44, 45, 46, 47, 48, 49, 50, 51, 52] (by decide +kernel) (by decide +kernel)
set_option maxRecDepth 20000 in
theorem gX6_constantNow_X6_loadsOf : GoodIn wsX6_constantNow (wsV RX6 213 RX6 yX6_loadsOf wsX6_loadsOf) := goodIn_app (goodIn_of _ (by decide +kernel)) ggX6_constantNow_X6_loadsOf
theorem dX6_constantNow_0 : decode cX6_constantNow 0 = .ok (.iload_n 2, 1) := by decide +kernel
theorem dX6_constantNow_1 : decode cX6_constantNow 1 = .ok (.ifCond .ne 12, 3) := by decide +kernel
theorem dX6_constantNow_4 : decode cX6_constantNow 4 = .ok (.aload_n 0, 1) := by decide +kernel
theorem dX6_constantNow_5 : decode cX6_constantNow 5 = .ok (.getfield 38, 3) := by decide +kernel
theorem dX6_constantNow_8 : decode cX6_constantNow 8 = .ok (.iload_n 1, 1) := by decide +kernel
theorem dX6_constantNow_9 : decode cX6_constantNow 9 = .ok (.iaload, 1) := by decide +kernel
theorem dX6_constantNow_10 : decode cX6_constantNow 10 = .ok (.goto 36, 3) := by decide +kernel
theorem dX6_constantNow_13 : decode cX6_constantNow 13 = .ok (.iload_n 2, 1) := by decide +kernel
theorem dX6_constantNow_14 : decode cX6_constantNow 14 = .ok (.iconst 1, 1) := by decide +kernel
theorem dX6_constantNow_15 : decode cX6_constantNow 15 = .ok (.if_icmp .ne 12, 3) := by decide +kernel
theorem dX6_constantNow_18 : decode cX6_constantNow 18 = .ok (.aload_n 0, 1) := by decide +kernel
theorem dX6_constantNow_19 : decode cX6_constantNow 19 = .ok (.getfield 41, 3) := by decide +kernel
theorem dX6_constantNow_22 : decode cX6_constantNow 22 = .ok (.iload_n 1, 1) := by decide +kernel
theorem dX6_constantNow_23 : decode cX6_constantNow 23 = .ok (.iaload, 1) := by decide +kernel
theorem dX6_constantNow_24 : decode cX6_constantNow 24 = .ok (.goto 22, 3) := by decide +kernel
theorem dX6_constantNow_27 : decode cX6_constantNow 27 = .ok (.iload_n 2, 1) := by decide +kernel
theorem dX6_constantNow_28 : decode cX6_constantNow 28 = .ok (.iconst 2, 1) := by decide +kernel
theorem dX6_constantNow_29 : decode cX6_constantNow 29 = .ok (.if_icmp .ne 12, 3) := by decide +kernel
theorem dX6_constantNow_32 : decode cX6_constantNow 32 = .ok (.aload_n 0, 1) := by decide +kernel
theorem dX6_constantNow_33 : decode cX6_constantNow 33 = .ok (.getfield 50, 3) := by decide +kernel
theorem dX6_constantNow_36 : decode cX6_constantNow 36 = .ok (.iload_n 1, 1) := by decide +kernel
theorem dX6_constantNow_37 : decode cX6_constantNow 37 = .ok (.iaload, 1) := by decide +kernel
theorem dX6_constantNow_38 : decode cX6_constantNow 38 = .ok (.goto 8, 3) := by decide +kernel
theorem dX6_constantNow_41 : decode cX6_constantNow 41 = .ok (.aload_n 0, 1) := by decide +kernel
theorem dX6_constantNow_42 : decode cX6_constantNow 42 = .ok (.iload_n 1, 1) := by decide +kernel
theorem dX6_constantNow_43 : decode cX6_constantNow 43 = .ok (.invokevirtual 213, 3) := by decide +kernel
theorem dX6_constantNow_46 : decode cX6_constantNow 46 = .ok (.ireturn, 1) := by decide +kernel
set_option maxRecDepth 20000 in
theorem ggX6_constant_X6_within : GoodIn wsX6_constant wsX6_within := goodIn_r _ [5] (by decide +kernel) (by decide +kernel)
set_option maxRecDepth 20000 in
theorem gX6_constant_X6_within : GoodIn wsX6_constant (va_wsS RX6 70 yX6_within wsX6_within) := goodIn_app (goodIn_of _ (by decide +kernel)) ggX6_constant_X6_within
set_option maxRecDepth 20000 in
theorem ggX6_constant_X6_constantNow : GoodIn wsX6_constant wsX6_constantNow := goodIn_r _ [9, 10, 11, 12, 13, 14, 15, 4, 16, 17, 18, 19, 20, 21, 22, 1, 23, 24, 25, 26, 27, 28, 29, 30, 31, 32, 33, 34, 35, 36, 37, 38, 39, 40, 41, 42, 43, 44, 45, 46, 47, 48, 49, 50, 51, 52, 53, 54, 55, 56, 57, 58, 59] (by decide +kernel) (by decide +kernel)
set_option maxRecDepth 20000 in
theorem gX6_constant_X6_constantNow : GoodIn wsX6_constant (wsV RX6 216 RX6 yX6_constantNow wsX6_constantNow) := goodIn_app (goodIn_of _ (by decide +kernel)) ggX6_constant_X6_constantNow
theorem dX6_constant_0 : decode cX6_constant 0 = .ok (.iload_n 1, 1) := by decide +kernel
theorem dX6_constant_1 : decode cX6_constant 1 = .ok (.iconst 0, 1) := by decide +kernel
theorem dX6_constant_2 : decode cX6_constant 2 = .ok (.aload_n 0, 1) := by decide +kernel
theorem dX6_constant_3 : decode cX6_constant 3 = .ok (.getfield 136, 3) := by decide +kernel
theorem dX6_constant_6 : decode cX6_constant 6 = .ok (.iconst 1, 1) := by decide +kernel
theorem dX6_constant_7 : decode cX6_constant 7 = .ok (.isub, 1) := by decide +kernel
theorem dX6_constant_8 : decode cX6_constant 8 = .ok (.invokestatic 70, 3) := by decide +kernel
theorem dX6_constant_11 : decode cX6_constant 11 = .ok (.ifCond .ne 7, 3) := by decide +kernel
theorem dX6_constant_14 : decode cX6_constant 14 = .ok (.sipush (-1001), 3) := by decide +kernel
theorem dX6_constant_17 : decode cX6_constant 17 = .ok (.ireturn, 1) := by decide +kernel
theorem dX6_constant_18 : decode cX6_constant 18 = .ok (.iload_n 2, 1) := by decide +kernel
theorem dX6_constant_19 : decode cX6_constant 19 = .ok (.iconst 0, 1) := by decide +kernel
theorem dX6_constant_20 : decode cX6_constant 20 = .ok (.iconst 3, 1) := by decide +kernel
theorem dX6_constant_21 : decode cX6_constant 21 = .ok (.invokestatic 70, 3) := by decide +kernel
theorem dX6_constant_24 : decode cX6_constant 24 = .ok (.ifCond .eq 12, 3) := by decide +kernel
theorem dX6_constant_27 : decode cX6_constant 27 = .ok (.aload_n 0, 1) := by decide +kernel
theorem dX6_constant_28 : decode cX6_constant 28 = .ok (.iload_n 1, 1) := by decide +kernel
theorem dX6_constant_29 : decode cX6_constant 29 = .ok (.iload_n 2, 1) := by decide +kernel
theorem dX6_constant_30 : decode cX6_constant 30 = .ok (.invokevirtual 216, 3) := by decide +kernel
theorem dX6_constant_33 : decode cX6_constant 33 = .ok (.goto 6, 3) := by decide +kernel
theorem dX6_constant_36 : decode cX6_constant 36 = .ok (.sipush (-1002), 3) := by decide +kernel
theorem dX6_constant_39 : decode cX6_constant 39 = .ok (.ireturn, 1) := by decide +kernel
set_option maxRecDepth 20000 in
theorem ggX6_hopsNow_X6_shortGoes : GoodIn wsX6_hopsNow wsX6_shortGoes := goodIn_r _ [9, 10, 1, 3, 11, 12, 13, 8, 14, 26, 27, 28, 29, 30, 31, 32, 33, 34, 35, 36, 37, 38, 39, 40, 41, 42, 43, 44, 45, 46, 47, 48, 49, 50, 51, 52, 53, 54, 55, 56, 57, 58, 59] (by decide +kernel) (by decide +kernel)
set_option maxRecDepth 20000 in
theorem gX6_hopsNow_X6_shortGoes : GoodIn wsX6_hopsNow (wsV RX6 168 RX6 yX6_shortGoes wsX6_shortGoes) := goodIn_app (goodIn_of _ (by decide +kernel)) ggX6_hopsNow_X6_shortGoes
set_option maxRecDepth 20000 in
theorem ggX6_hopsNow_X6_reachesLabel : GoodIn wsX6_hopsNow wsX6_reachesLabel := goodIn_r _ [18, 10, 11, 12, 13, 8, 14, 26, 27, 28, 29, 30, 31, 32, 33, 34, 35, 36, 37, 38, 39, 40, 41, 42, 43, 44, 45, 46, 47, 48, 49, 50, 51, 52, 53, 54, 55, 56, 57, 58, 59] (by decide +kernel) (by decide +kernel)
set_option maxRecDepth 20000 in
theorem gX6_hopsNow_X6_reachesLabel : GoodIn wsX6_hopsNow (wsV RX6 155 RX6 yX6_reachesLabel wsX6_reachesLabel) := goodIn_app (goodIn_of _ (by decide +kernel)) ggX6_hopsNow_X6_reachesLabel
set_option maxRecDepth 20000 in
theorem ggX6_hopsNow_X6_islandFor : GoodIn wsX6_hopsNow wsX6_islandFor := goodIn_r _ [22, 23, 4, 10, 24, 11, 25, 12, 13, 8, 14, 26, 27, 28, 29, 30, 31, 32, 33, 34, 35, 36, 37, 38, 39, 40, 41, 42, 43, 44, 45, 46, 47, 48, 49, 50, 51, 52, 53, 54, 55, 56, 57, 58, 59] (by decide +kernel) (by decide +kernel)
set_option maxRecDepth 20000 in
theorem gX6_hopsNow_X6_islandFor : GoodIn wsX6_hopsNow (wsV RX6 159 RX6 yX6_islandFor wsX6_islandFor) := goodIn_app (goodIn_of _ (by decide +kernel)) ggX6_hopsNow_X6_islandFor
theorem dX6_hopsNow_0 : decode cX6_hopsNow 0 = .ok (.aload_n 0, 1) := by decide +kernel
theorem dX6_hopsNow_1 : decode cX6_hopsNow 1 = .ok (.getfield 16, 3) := by decide +kernel
theorem dX6_hopsNow_4 : decode cX6_hopsNow 4 = .ok (.iload_n 1, 1) := by decide +kernel
theorem dX6_hopsNow_5 : decode cX6_hopsNow 5 = .ok (.iaload, 1) := by decide +kernel
theorem dX6_hopsNow_6 : decode cX6_hopsNow 6 = .ok (.istore_n 2, 1) := by decide +kernel
theorem dX6_hopsNow_7 : decode cX6_hopsNow 7 = .ok (.aload_n 0, 1) := by decide +kernel
theorem dX6_hopsNow_8 : decode cX6_hopsNow 8 = .ok (.getfield 28, 3) := by decide +kernel
theorem dX6_hopsNow_11 : decode cX6_hopsNow 11 = .ok (.iload_n 1, 1) := by decide +kernel
theorem dX6_hopsNow_12 : decode cX6_hopsNow 12 = .ok (.baload, 1) := by decide +kernel
theorem dX6_hopsNow_13 : decode cX6_hopsNow 13 = .ok (.ifCond .ne 18, 3) := by decide +kernel
theorem dX6_hopsNow_16 : decode cX6_hopsNow 16 = .ok (.aload_n 0, 1) := by decide +kernel
theorem dX6_hopsNow_17 : decode cX6_hopsNow 17 = .ok (.iload_n 1, 1) := by decide +kernel
theorem dX6_hopsNow_18 : decode cX6_hopsNow 18 = .ok (.invokevirtual 168, 3) := by decide +kernel
theorem dX6_hopsNow_21 : decode cX6_hopsNow 21 = .ok (.iconst (-1), 1) := by decide +kernel
theorem dX6_hopsNow_22 : decode cX6_hopsNow 22 = .ok (.if_icmp .ne 7, 3) := by decide +kernel
theorem dX6_hopsNow_25 : decode cX6_hopsNow 25 = .ok (.iconst (-1), 1) := by decide +kernel
theorem dX6_hopsNow_26 : decode cX6_hopsNow 26 = .ok (.goto 4, 3) := by decide +kernel
theorem dX6_hopsNow_29 : decode cX6_hopsNow 29 = .ok (.iconst 0, 1) := by decide +kernel
theorem dX6_hopsNow_30 : decode cX6_hopsNow 30 = .ok (.ireturn, 1) := by decide +kernel
theorem dX6_hopsNow_31 : decode cX6_hopsNow 31 = .ok (.aload_n 0, 1) := by decide +kernel
theorem dX6_hopsNow_32 : decode cX6_hopsNow 32 = .ok (.getfield 44, 3) := by decide +kernel
theorem dX6_hopsNow_35 : decode cX6_hopsNow 35 = .ok (.iload_n 1, 1) := by decide +kernel
theorem dX6_hopsNow_36 : decode cX6_hopsNow 36 = .ok (.iaload, 1) := by decide +kernel
theorem dX6_hopsNow_37 : decode cX6_hopsNow 37 = .ok (.istore_n 3, 1) := by decide +kernel
theorem dX6_hopsNow_38 : decode cX6_hopsNow 38 = .ok (.iconst 0, 1) := by decide +kernel
theorem dX6_hopsNow_39 : decode cX6_hopsNow 39 = .ok (.istore 4, 2) := by decide +kernel
theorem dX6_hopsNow_41 : decode cX6_hopsNow 41 = .ok (.aload_n 0, 1) := by decide +kernel
theorem dX6_hopsNow_42 : decode cX6_hopsNow 42 = .ok (.iload_n 3, 1) := by decide +kernel
theorem dX6_hopsNow_43 : decode cX6_hopsNow 43 = .ok (.iload_n 2, 1) := by decide +kernel
theorem dX6_hopsNow_44 : decode cX6_hopsNow 44 = .ok (.invokevirtual 155, 3) := by decide +kernel
theorem dX6_hopsNow_47 : decode cX6_hopsNow 47 = .ok (.ifCond .ne 33, 3) := by decide +kernel
theorem dX6_hopsNow_50 : decode cX6_hopsNow 50 = .ok (.aload_n 0, 1) := by decide +kernel
theorem dX6_hopsNow_51 : decode cX6_hopsNow 51 = .ok (.iload_n 3, 1) := by decide +kernel
theorem dX6_hopsNow_52 : decode cX6_hopsNow 52 = .ok (.iload_n 2, 1) := by decide +kernel
theorem dX6_hopsNow_53 : decode cX6_hopsNow 53 = .ok (.invokevirtual 159, 3) := by decide +kernel
theorem dX6_hopsNow_56 : decode cX6_hopsNow 56 = .ok (.istore 5, 2) := by decide +kernel
theorem dX6_hopsNow_58 : decode cX6_hopsNow 58 = .ok (.iload 5, 2) := by decide +kernel
theorem dX6_hopsNow_60 : decode cX6_hopsNow 60 = .ok (.iconst (-1), 1) := by decide +kernel
theorem dX6_hopsNow_61 : decode cX6_hopsNow 61 = .ok (.if_icmp .ne 5, 3) := by decide +kernel
theorem dX6_hopsNow_64 : decode cX6_hopsNow 64 = .ok (.iconst (-1), 1) := by decide +kernel
theorem dX6_hopsNow_65 : decode cX6_hopsNow 65 = .ok (.ireturn, 1) := by decide +kernel
theorem dX6_hopsNow_66 : decode cX6_hopsNow 66 = .ok (.aload_n 0, 1) := by decide +kernel
theorem dX6_hopsNow_67 : decode cX6_hopsNow 67 = .ok (.getfield 47, 3) := by decide +kernel
theorem dX6_hopsNow_70 : decode cX6_hopsNow 70 = .ok (.iload 5, 2) := by decide +kernel
theorem dX6_hopsNow_72 : decode cX6_hopsNow 72 = .ok (.iaload, 1) := by decide +kernel
theorem dX6_hopsNow_73 : decode cX6_hopsNow 73 = .ok (.istore_n 3, 1) := by decide +kernel
theorem dX6_hopsNow_74 : decode cX6_hopsNow 74 = .ok (.iinc 4 1, 3) := by decide +kernel
theorem dX6_hopsNow_77 : decode cX6_hopsNow 77 = .ok (.goto (-36), 3) := by decide +kernel
theorem dX6_hopsNow_80 : decode cX6_hopsNow 80 = .ok (.iload 4, 2) := by decide +kernel
theorem dX6_hopsNow_82 : decode cX6_hopsNow 82 = .ok (.ireturn, 1) := by decide +kernel
set_option maxRecDepth 20000 in
theorem ggX6_hops_X6_isItem : GoodIn wsX6_hops wsX6_isItem := goodIn_r _ [6, 7, 8, 9, 5, 10, 39, 40, 41, 42, 43, 44, 45, 46, 47, 48, 49, 50, 51, 52, 53, 54, 55, 56, 57, 58, 59, 60, 61, 62, 63, 64, 65, 66, 67, 68, 69, 70, 71, 72] (by decide +kernel) (by decide +kernel)
set_option maxRecDepth 20000 in
theorem gX6_hops_X6_isItem : GoodIn wsX6_hops (wsV RX6 126 RX6 yX6_isItem wsX6_isItem) := goodIn_app (goodIn_of _ (by decide +kernel)) ggX6_hops_X6_isItem
set_option maxRecDepth 20000 in
theorem ggX6_hops_X6_hopsNow : GoodIn wsX6_hops wsX6_hopsNow := goodIn_r _ [14, 15, 16, 17, 18, 19, 20, 21, 5, 22, 23, 24, 25, 26, 27, 28, 29, 30, 31, 32, 33, 34, 35, 36, 37, 38, 39, 40, 41, 42, 43, 44, 45, 46, 47, 48, 49, 50, 51, 52, 53, 54, 55, 56, 57, 58, 59, 60, 61, 62, 63, 64, 65, 66, 67, 68, 69, 70, 71, 72] (by decide +kernel) (by decide +kernel)
set_option maxRecDepth 20000 in
theorem gX6_hops_X6_hopsNow : GoodIn wsX6_hops (wsV RX6 219 RX6 yX6_hopsNow wsX6_hopsNow) := goodIn_app (goodIn_of _ (by decide +kernel)) ggX6_hops_X6_hopsNow
theorem dX6_hops_0 : decode cX6_hops 0 = .ok (.aload_n 0, 1) := by decide +kernel
theorem dX6_hops_1 : decode cX6_hops 1 = .ok (.iload_n 1, 1) := by decide +kernel
theorem dX6_hops_2 : decode cX6_hops 2 = .ok (.invokevirtual 126, 3) := by decide +kernel
theorem dX6_hops_5 : decode cX6_hops 5 = .ok (.ifCond .ne 7, 3) := by decide +kernel
theorem dX6_hops_8 : decode cX6_hops 8 = .ok (.sipush (-1001), 3) := by decide +kernel
theorem dX6_hops_11 : decode cX6_hops 11 = .ok (.ireturn, 1) := by decide +kernel
theorem dX6_hops_12 : decode cX6_hops 12 = .ok (.aload_n 0, 1) := by decide +kernel
theorem dX6_hops_13 : decode cX6_hops 13 = .ok (.getfield 13, 3) := by decide +kernel
theorem dX6_hops_16 : decode cX6_hops 16 = .ok (.iload_n 1, 1) := by decide +kernel
theorem dX6_hops_17 : decode cX6_hops 17 = .ok (.iaload, 1) := by decide +kernel
theorem dX6_hops_18 : decode cX6_hops 18 = .ok (.iconst 2, 1) := by decide +kernel
theorem dX6_hops_19 : decode cX6_hops 19 = .ok (.if_icmp .ne 11, 3) := by decide +kernel
theorem dX6_hops_22 : decode cX6_hops 22 = .ok (.aload_n 0, 1) := by decide +kernel
theorem dX6_hops_23 : decode cX6_hops 23 = .ok (.iload_n 1, 1) := by decide +kernel
theorem dX6_hops_24 : decode cX6_hops 24 = .ok (.invokevirtual 219, 3) := by decide +kernel
theorem dX6_hops_27 : decode cX6_hops 27 = .ok (.goto 6, 3) := by decide +kernel
theorem dX6_hops_30 : decode cX6_hops 30 = .ok (.sipush (-1003), 3) := by decide +kernel
theorem dX6_hops_33 : decode cX6_hops 33 = .ok (.ireturn, 1) := by decide +kernel
theorem dX6_longMany_0 : decode cX6_longMany 0 = .ok (.iconst 0, 1) := by decide +kernel
theorem dX6_longMany_1 : decode cX6_longMany 1 = .ok (.istore_n 1, 1) := by decide +kernel
theorem dX6_longMany_2 : decode cX6_longMany 2 = .ok (.iconst 0, 1) := by decide +kernel
theorem dX6_longMany_3 : decode cX6_longMany 3 = .ok (.istore_n 2, 1) := by decide +kernel
theorem dX6_longMany_4 : decode cX6_longMany 4 = .ok (.iload_n 2, 1) := by decide +kernel
theorem dX6_longMany_5 : decode cX6_longMany 5 = .ok (.aload_n 0, 1) := by decide +kernel
theorem dX6_longMany_6 : decode cX6_longMany 6 = .ok (.getfield 114, 3) := by decide +kernel
theorem dX6_longMany_9 : decode cX6_longMany 9 = .ok (.if_icmp .ge 26, 3) := by decide +kernel
theorem dX6_longMany_12 : decode cX6_longMany 12 = .ok (.iload_n 1, 1) := by decide +kernel
theorem dX6_longMany_13 : decode cX6_longMany 13 = .ok (.aload_n 0, 1) := by decide +kernel
theorem dX6_longMany_14 : decode cX6_longMany 14 = .ok (.getfield 28, 3) := by decide +kernel
theorem dX6_longMany_17 : decode cX6_longMany 17 = .ok (.iload_n 2, 1) := by decide +kernel
theorem dX6_longMany_18 : decode cX6_longMany 18 = .ok (.baload, 1) := by decide +kernel
theorem dX6_longMany_19 : decode cX6_longMany 19 = .ok (.ifCond .eq 7, 3) := by decide +kernel
theorem dX6_longMany_22 : decode cX6_longMany 22 = .ok (.iconst 1, 1) := by decide +kernel
theorem dX6_longMany_23 : decode cX6_longMany 23 = .ok (.goto 4, 3) := by decide +kernel
theorem dX6_longMany_26 : decode cX6_longMany 26 = .ok (.iconst 0, 1) := by decide +kernel
theorem dX6_longMany_27 : decode cX6_longMany 27 = .ok (.iadd, 1) := by decide +kernel
theorem dX6_longMany_28 : decode cX6_longMany 28 = .ok (.istore_n 1, 1) := by decide +kernel
theorem dX6_longMany_29 : decode cX6_longMany 29 = .ok (.iinc 2 1, 3) := by decide +kernel
theorem dX6_longMany_32 : decode cX6_longMany 32 = .ok (.goto (-28), 3) := by decide +kernel
theorem dX6_longMany_35 : decode cX6_longMany 35 = .ok (.iload_n 1, 1) := by decide +kernel
theorem dX6_longMany_36 : decode cX6_longMany 36 = .ok (.ireturn, 1) := by decide +kernel
set_option maxRecDepth 20000 in
theorem ggX6_placedNow_X6_longMany : GoodIn wsX6_placedNow wsX6_longMany := goodIn_r _ [14, 3, 15, 16, 17, 18, 19, 20, 21, 22, 23, 24, 25, 26, 27, 28, 29, 30, 31, 32, 33, 34, 35, 36, 37, 38, 39, 40, 41, 42, 43, 44, 45, 46, 47, 48, 49] (by decide +kernel) (by decide +kernel)
set_option maxRecDepth 20000 in
theorem gX6_placedNow_X6_longMany : GoodIn wsX6_placedNow (wsV RX6 222 RX6 yX6_longMany wsX6_longMany) := goodIn_app (goodIn_of _ (by decide +kernel)) ggX6_placedNow_X6_longMany
theorem dX6_placedNow_0 : decode cX6_placedNow 0 = .ok (.iload_n 1, 1) := by decide +kernel
theorem dX6_placedNow_1 : decode cX6_placedNow 1 = .ok (.tableswitch 117 0 7 #[47, 60, 65, 81, 97, 102, 107, 112], 47) := by decide +kernel
theorem dX6_placedNow_48 : decode cX6_placedNow 48 = .ok (.aload_n 0, 1) := by decide +kernel
theorem dX6_placedNow_49 : decode cX6_placedNow 49 = .ok (.getfield 62, 3) := by decide +kernel
theorem dX6_placedNow_52 : decode cX6_placedNow 52 = .ok (.ifCond .eq 7, 3) := by decide +kernel
theorem dX6_placedNow_55 : decode cX6_placedNow 55 = .ok (.iconst 1, 1) := by decide +kernel
theorem dX6_placedNow_56 : decode cX6_placedNow 56 = .ok (.goto 4, 3) := by decide +kernel
theorem dX6_placedNow_59 : decode cX6_placedNow 59 = .ok (.iconst 0, 1) := by decide +kernel
theorem dX6_placedNow_60 : decode cX6_placedNow 60 = .ok (.ireturn, 1) := by decide +kernel
theorem dX6_placedNow_61 : decode cX6_placedNow 61 = .ok (.aload_n 0, 1) := by decide +kernel
theorem dX6_placedNow_62 : decode cX6_placedNow 62 = .ok (.getfield 197, 3) := by decide +kernel
theorem dX6_placedNow_65 : decode cX6_placedNow 65 = .ok (.ireturn, 1) := by decide +kernel
theorem dX6_placedNow_66 : decode cX6_placedNow 66 = .ok (.aload_n 0, 1) := by decide +kernel
theorem dX6_placedNow_67 : decode cX6_placedNow 67 = .ok (.getfield 114, 3) := by decide +kernel
theorem dX6_placedNow_70 : decode cX6_placedNow 70 = .ok (.ifCond .le 10, 3) := by decide +kernel
theorem dX6_placedNow_73 : decode cX6_placedNow 73 = .ok (.aload_n 0, 1) := by decide +kernel
theorem dX6_placedNow_74 : decode cX6_placedNow 74 = .ok (.getfield 148, 3) := by decide +kernel
theorem dX6_placedNow_77 : decode cX6_placedNow 77 = .ok (.goto 4, 3) := by decide +kernel
theorem dX6_placedNow_80 : decode cX6_placedNow 80 = .ok (.iconst 0, 1) := by decide +kernel
theorem dX6_placedNow_81 : decode cX6_placedNow 81 = .ok (.ireturn, 1) := by decide +kernel
theorem dX6_placedNow_82 : decode cX6_placedNow 82 = .ok (.aload_n 0, 1) := by decide +kernel
theorem dX6_placedNow_83 : decode cX6_placedNow 83 = .ok (.getfield 114, 3) := by decide +kernel
theorem dX6_placedNow_86 : decode cX6_placedNow 86 = .ok (.ifCond .le 10, 3) := by decide +kernel
theorem dX6_placedNow_89 : decode cX6_placedNow 89 = .ok (.aload_n 0, 1) := by decide +kernel
theorem dX6_placedNow_90 : decode cX6_placedNow 90 = .ok (.getfield 139, 3) := by decide +kernel
theorem dX6_placedNow_93 : decode cX6_placedNow 93 = .ok (.goto 4, 3) := by decide +kernel
theorem dX6_placedNow_96 : decode cX6_placedNow 96 = .ok (.iconst 0, 1) := by decide +kernel
theorem dX6_placedNow_97 : decode cX6_placedNow 97 = .ok (.ireturn, 1) := by decide +kernel
theorem dX6_placedNow_98 : decode cX6_placedNow 98 = .ok (.aload_n 0, 1) := by decide +kernel
theorem dX6_placedNow_99 : decode cX6_placedNow 99 = .ok (.getfield 171, 3) := by decide +kernel
theorem dX6_placedNow_102 : decode cX6_placedNow 102 = .ok (.ireturn, 1) := by decide +kernel
theorem dX6_placedNow_103 : decode cX6_placedNow 103 = .ok (.aload_n 0, 1) := by decide +kernel
theorem dX6_placedNow_104 : decode cX6_placedNow 104 = .ok (.getfield 66, 3) := by decide +kernel
theorem dX6_placedNow_107 : decode cX6_placedNow 107 = .ok (.ireturn, 1) := by decide +kernel
theorem dX6_placedNow_108 : decode cX6_placedNow 108 = .ok (.aload_n 0, 1) := by decide +kernel
theorem dX6_placedNow_109 : decode cX6_placedNow 109 = .ok (.getfield 133, 3) := by decide +kernel
theorem dX6_placedNow_112 : decode cX6_placedNow 112 = .ok (.ireturn, 1) := by decide +kernel
theorem dX6_placedNow_113 : decode cX6_placedNow 113 = .ok (.aload_n 0, 1) := by decide +kernel
theorem dX6_placedNow_114 : decode cX6_placedNow 114 = .ok (.getfield 136, 3) := by decide +kernel
theorem dX6_placedNow_117 : decode cX6_placedNow 117 = .ok (.ireturn, 1) := by decide +kernel
theorem dX6_placedNow_118 : decode cX6_placedNow 118 = .ok (.aload_n 0, 1) := by decide +kernel
theorem dX6_placedNow_119 : decode cX6_placedNow 119 = .ok (.invokevirtual 222, 3) := by decide +kernel
theorem dX6_placedNow_122 : decode cX6_placedNow 122 = .ok (.ireturn, 1) := by decide +kernel
set_option maxRecDepth 20000 in
theorem ggX6_placed_X6_within : GoodIn wsX6_placed wsX6_within := goodIn_r _ [4] (by decide +kernel) (by decide +kernel)
set_option maxRecDepth 20000 in
theorem gX6_placed_X6_within : GoodIn wsX6_placed (va_wsS RX6 70 yX6_within wsX6_within) := goodIn_app (goodIn_of _ (by decide +kernel)) ggX6_placed_X6_within
set_option maxRecDepth 20000 in
theorem ggX6_placed_X6_placedNow : GoodIn wsX6_placed wsX6_placedNow := goodIn_r _ [8, 9, 10, 11, 12, 13, 14, 15, 16, 17, 18, 19, 20, 3, 21, 22, 23, 24, 25, 26, 27, 28, 29, 30, 31, 32, 33, 34, 35, 36, 37, 38, 39, 40, 41, 42, 43, 44, 45, 46, 47, 48, 49, 50, 51, 52, 53, 54, 55, 56] (by decide +kernel) (by decide +kernel)
set_option maxRecDepth 20000 in
theorem gX6_placed_X6_placedNow : GoodIn wsX6_placed (wsV RX6 225 RX6 yX6_placedNow wsX6_placedNow) := goodIn_app (goodIn_of _ (by decide +kernel)) ggX6_placed_X6_placedNow
theorem dX6_placed_0 : decode cX6_placed 0 = .ok (.iload_n 1, 1) := by decide +kernel
theorem dX6_placed_1 : decode cX6_placed 1 = .ok (.iconst 0, 1) := by decide +kernel
theorem dX6_placed_2 : decode cX6_placed 2 = .ok (.bipush 8, 2) := by decide +kernel
theorem dX6_placed_4 : decode cX6_placed 4 = .ok (.invokestatic 70, 3) := by decide +kernel
theorem dX6_placed_7 : decode cX6_placed 7 = .ok (.ifCond .eq 11, 3) := by decide +kernel
theorem dX6_placed_10 : decode cX6_placed 10 = .ok (.aload_n 0, 1) := by decide +kernel
theorem dX6_placed_11 : decode cX6_placed 11 = .ok (.iload_n 1, 1) := by decide +kernel
theorem dX6_placed_12 : decode cX6_placed 12 = .ok (.invokevirtual 225, 3) := by decide +kernel
theorem dX6_placed_15 : decode cX6_placed 15 = .ok (.goto 6, 3) := by decide +kernel
theorem dX6_placed_18 : decode cX6_placed 18 = .ok (.sipush (-1002), 3) := by decide +kernel
theorem dX6_placed_21 : decode cX6_placed 21 = .ok (.ireturn, 1) := by decide +kernel
theorem dX6_gaps_0 : decode cX6_gaps 0 = .ok (.iconst 0, 1) := by decide +kernel
theorem dX6_gaps_1 : decode cX6_gaps 1 = .ok (.istore_n 1, 1) := by decide +kernel
theorem dX6_gaps_2 : decode cX6_gaps 2 = .ok (.iconst 0, 1) := by decide +kernel
theorem dX6_gaps_3 : decode cX6_gaps 3 = .ok (.istore_n 2, 1) := by decide +kernel
theorem dX6_gaps_4 : decode cX6_gaps 4 = .ok (.iload_n 2, 1) := by decide +kernel
theorem dX6_gaps_5 : decode cX6_gaps 5 = .ok (.aload_n 0, 1) := by decide +kernel
theorem dX6_gaps_6 : decode cX6_gaps 6 = .ok (.getfield 114, 3) := by decide +kernel
theorem dX6_gaps_9 : decode cX6_gaps 9 = .ok (.if_icmp .ge 27, 3) := by decide +kernel
theorem dX6_gaps_12 : decode cX6_gaps 12 = .ok (.iload_n 1, 1) := by decide +kernel
theorem dX6_gaps_13 : decode cX6_gaps 13 = .ok (.aload_n 0, 1) := by decide +kernel
theorem dX6_gaps_14 : decode cX6_gaps 14 = .ok (.getfield 13, 3) := by decide +kernel
theorem dX6_gaps_17 : decode cX6_gaps 17 = .ok (.iload_n 2, 1) := by decide +kernel
theorem dX6_gaps_18 : decode cX6_gaps 18 = .ok (.iaload, 1) := by decide +kernel
theorem dX6_gaps_19 : decode cX6_gaps 19 = .ok (.iconst 5, 1) := by decide +kernel
theorem dX6_gaps_20 : decode cX6_gaps 20 = .ok (.if_icmp .ne 7, 3) := by decide +kernel
theorem dX6_gaps_23 : decode cX6_gaps 23 = .ok (.iconst 1, 1) := by decide +kernel
theorem dX6_gaps_24 : decode cX6_gaps 24 = .ok (.goto 4, 3) := by decide +kernel
theorem dX6_gaps_27 : decode cX6_gaps 27 = .ok (.iconst 0, 1) := by decide +kernel
theorem dX6_gaps_28 : decode cX6_gaps 28 = .ok (.iadd, 1) := by decide +kernel
theorem dX6_gaps_29 : decode cX6_gaps 29 = .ok (.istore_n 1, 1) := by decide +kernel
theorem dX6_gaps_30 : decode cX6_gaps 30 = .ok (.iinc 2 1, 3) := by decide +kernel
theorem dX6_gaps_33 : decode cX6_gaps 33 = .ok (.goto (-29), 3) := by decide +kernel
theorem dX6_gaps_36 : decode cX6_gaps 36 = .ok (.iload_n 1, 1) := by decide +kernel
theorem dX6_gaps_37 : decode cX6_gaps 37 = .ok (.ireturn, 1) := by decide +kernel
set_option maxRecDepth 20000 in
theorem ggX6_howMany_X6_gaps : GoodIn wsX6_howMany wsX6_gaps := goodIn_r _ [10, 1, 11, 12, 13, 14, 15, 16, 17, 18, 19, 20, 21, 22, 23, 24, 25, 26, 27, 28, 29, 30, 31, 32, 33, 34, 35, 36, 37, 38, 39, 40, 41, 42, 43, 44, 45] (by decide +kernel) (by decide +kernel)
set_option maxRecDepth 20000 in
theorem gX6_howMany_X6_gaps : GoodIn wsX6_howMany (wsV RX6 228 RX6 yX6_gaps wsX6_gaps) := goodIn_app (goodIn_of _ (by decide +kernel)) ggX6_howMany_X6_gaps
theorem dX6_howMany_0 : decode cX6_howMany 0 = .ok (.iload_n 1, 1) := by decide +kernel
theorem dX6_howMany_1 : decode cX6_howMany 1 = .ok (.tableswitch 81 0 7 #[47, 52, 57, 62, 62, 62, 71, 76], 47) := by decide +kernel
theorem dX6_howMany_48 : decode cX6_howMany 48 = .ok (.aload_n 0, 1) := by decide +kernel
theorem dX6_howMany_49 : decode cX6_howMany 49 = .ok (.getfield 114, 3) := by decide +kernel
theorem dX6_howMany_52 : decode cX6_howMany 52 = .ok (.ireturn, 1) := by decide +kernel
theorem dX6_howMany_53 : decode cX6_howMany 53 = .ok (.aload_n 0, 1) := by decide +kernel
theorem dX6_howMany_54 : decode cX6_howMany 54 = .ok (.getfield 74, 3) := by decide +kernel
theorem dX6_howMany_57 : decode cX6_howMany 57 = .ok (.ireturn, 1) := by decide +kernel
theorem dX6_howMany_58 : decode cX6_howMany 58 = .ok (.aload_n 0, 1) := by decide +kernel
theorem dX6_howMany_59 : decode cX6_howMany 59 = .ok (.invokevirtual 228, 3) := by decide +kernel
theorem dX6_howMany_62 : decode cX6_howMany 62 = .ok (.ireturn, 1) := by decide +kernel
theorem dX6_howMany_63 : decode cX6_howMany 63 = .ok (.aload_n 0, 1) := by decide +kernel
theorem dX6_howMany_64 : decode cX6_howMany 64 = .ok (.getfield 19, 3) := by decide +kernel
theorem dX6_howMany_67 : decode cX6_howMany 67 = .ok (.iload_n 1, 1) := by decide +kernel
theorem dX6_howMany_68 : decode cX6_howMany 68 = .ok (.iconst 3, 1) := by decide +kernel
theorem dX6_howMany_69 : decode cX6_howMany 69 = .ok (.isub, 1) := by decide +kernel
theorem dX6_howMany_70 : decode cX6_howMany 70 = .ok (.iaload, 1) := by decide +kernel
theorem dX6_howMany_71 : decode cX6_howMany 71 = .ok (.ireturn, 1) := by decide +kernel
theorem dX6_howMany_72 : decode cX6_howMany 72 = .ok (.aload_n 0, 1) := by decide +kernel
theorem dX6_howMany_73 : decode cX6_howMany 73 = .ok (.getfield 117, 3) := by decide +kernel
theorem dX6_howMany_76 : decode cX6_howMany 76 = .ok (.ireturn, 1) := by decide +kernel
theorem dX6_howMany_77 : decode cX6_howMany 77 = .ok (.aload_n 0, 1) := by decide +kernel
theorem dX6_howMany_78 : decode cX6_howMany 78 = .ok (.getfield 123, 3) := by decide +kernel
theorem dX6_howMany_81 : decode cX6_howMany 81 = .ok (.ireturn, 1) := by decide +kernel
theorem dX6_howMany_82 : decode cX6_howMany 82 = .ok (.sipush (-1002), 3) := by decide +kernel
theorem dX6_howMany_85 : decode cX6_howMany 85 = .ok (.ireturn, 1) := by decide +kernel
set_option maxRecDepth 20000 in
theorem ggX6_count_X6_howMany : GoodIn wsX6_count wsX6_howMany := goodIn_r _ [5, 6, 7, 8, 9, 10, 11, 12, 13, 4, 14, 15, 16, 17, 18, 19, 20, 21, 22, 23, 24, 25, 26, 27, 28, 29, 30, 31, 32, 33, 34, 35, 36, 37, 38, 39, 40, 41, 42, 43, 44, 45, 46, 47, 48, 49] (by decide +kernel) (by decide +kernel)
set_option maxRecDepth 20000 in
theorem gX6_count_X6_howMany : GoodIn wsX6_count (wsV RX6 231 RX6 yX6_howMany wsX6_howMany) := goodIn_app (goodIn_of _ (by decide +kernel)) ggX6_count_X6_howMany
theorem dX6_count_0 : decode cX6_count 0 = .ok (.aload_n 0, 1) := by decide +kernel
theorem dX6_count_1 : decode cX6_count 1 = .ok (.iload_n 1, 1) := by decide +kernel
theorem dX6_count_2 : decode cX6_count 2 = .ok (.invokevirtual 231, 3) := by decide +kernel
theorem dX6_count_5 : decode cX6_count 5 = .ok (.ireturn, 1) := by decide +kernel
theorem dX6_mix_0 : decode cX6_mix 0 = .ok (.aload_n 0, 1) := by decide +kernel
theorem dX6_mix_1 : decode cX6_mix 1 = .ok (.ldc2_w 234, 3) := by decide +kernel
theorem dX6_mix_4 : decode cX6_mix 4 = .ok (.aload_n 0, 1) := by decide +kernel
theorem dX6_mix_5 : decode cX6_mix 5 = .ok (.getfield 236, 3) := by decide +kernel
theorem dX6_mix_8 : decode cX6_mix 8 = .ok (.lmul, 1) := by decide +kernel
theorem dX6_mix_9 : decode cX6_mix 9 = .ok (.lload_n 1, 1) := by decide +kernel
theorem dX6_mix_10 : decode cX6_mix 10 = .ok (.ladd, 1) := by decide +kernel
theorem dX6_mix_11 : decode cX6_mix 11 = .ok (.putfield 236, 3) := by decide +kernel
theorem dX6_mix_14 : decode cX6_mix 14 = .ok (.return_, 1) := by decide +kernel
set_option maxRecDepth 20000 in
theorem ggX6_digest_X6_itemNow : GoodIn wsX6_digest wsX6_itemNow := goodIn_r _ [12, 13, 14, 15, 16, 17, 18, 19, 11, 20, 21, 22, 23, 24, 25, 26, 27, 28, 29, 30, 31, 32, 5, 33, 34, 35, 36, 37, 38, 39, 40, 41, 42, 43, 44, 45, 46, 47, 48, 49, 50, 51, 4, 52, 53, 54, 55, 56, 57, 101, 102, 103, 104, 105, 106, 107, 108, 109, 110, 111, 112, 113, 114, 115, 116, 117, 118, 119, 120, 121, 122, 123, 124, 125, 126, 127, 128, 129, 130, 131, 132, 133, 134] (by decide +kernel) (by decide +kernel)
set_option maxRecDepth 20000 in
theorem gX6_digest_X6_itemNow : GoodIn wsX6_digest (wsV RX6 207 RX6 yX6_itemNow wsX6_itemNow) := goodIn_app (goodIn_of _ (by decide +kernel)) ggX6_digest_X6_itemNow
set_option maxRecDepth 20000 in
theorem ggX6_digest_X6_mix : GoodIn wsX6_digest wsX6_mix := goodIn_r _ [61, 62, 2, 101, 102, 103, 104, 105, 106, 107, 108, 109, 110, 111, 112, 113, 114, 115, 116, 117, 118, 119, 120, 121, 122, 123, 124, 125, 126, 127, 128, 129, 130, 131, 132, 133, 134] (by decide +kernel) (by decide +kernel)
set_option maxRecDepth 20000 in
theorem gX6_digest_X6_mix : GoodIn wsX6_digest (wsV RX6 242 RX6 yX6_mix wsX6_mix) := goodIn_app (goodIn_of _ (by decide +kernel)) ggX6_digest_X6_mix
set_option maxRecDepth 20000 in
theorem ggX6_digest_X6_islandNow : GoodIn wsX6_digest wsX6_islandNow := goodIn_r _ [66, 52, 67, 40, 35, 36, 37, 11, 38, 39, 41, 42, 43, 44, 34, 45, 46, 47, 48, 49, 50, 51, 4, 53, 101, 102, 103, 104, 105, 106, 107, 108, 109, 110, 111, 112, 113, 114, 115, 116, 117, 118, 119, 120, 121, 122, 123, 124, 125, 126, 127, 128, 129, 130, 131, 132, 133, 134] (by decide +kernel) (by decide +kernel)
set_option maxRecDepth 20000 in
theorem gX6_digest_X6_islandNow : GoodIn wsX6_digest (wsV RX6 210 RX6 yX6_islandNow wsX6_islandNow) := goodIn_app (goodIn_of _ (by decide +kernel)) ggX6_digest_X6_islandNow
set_option maxRecDepth 20000 in
theorem ggX6_digest_X6_constantNow : GoodIn wsX6_digest wsX6_constantNow := goodIn_r _ [71, 33, 72, 28, 73, 74, 75, 11, 76, 3, 13, 29, 30, 31, 32, 5, 15, 14, 34, 101, 102, 103, 104, 105, 106, 107, 108, 109, 110, 111, 112, 113, 114, 115, 116, 117, 118, 119, 120, 121, 122, 123, 124, 125, 126, 127, 128, 129, 130, 131, 132, 133, 134] (by decide +kernel) (by decide +kernel)
set_option maxRecDepth 20000 in
theorem gX6_digest_X6_constantNow : GoodIn wsX6_digest (wsV RX6 216 RX6 yX6_constantNow wsX6_constantNow) := goodIn_app (goodIn_of _ (by decide +kernel)) ggX6_digest_X6_constantNow
set_option maxRecDepth 20000 in
theorem ggX6_digest_X6_placedNow : GoodIn wsX6_digest wsX6_placedNow := goodIn_r _ [80, 81, 82, 3, 83, 84, 85, 86, 4, 5, 87, 88, 89, 11, 90, 16, 101, 102, 103, 104, 105, 106, 107, 108, 109, 110, 111, 112, 113, 114, 115, 116, 117, 118, 119, 120, 121, 122, 123, 124, 125, 126, 127, 128, 129, 130, 131, 132, 133, 134] (by decide +kernel) (by decide +kernel)
set_option maxRecDepth 20000 in
theorem gX6_digest_X6_placedNow : GoodIn wsX6_digest (wsV RX6 225 RX6 yX6_placedNow wsX6_placedNow) := goodIn_app (goodIn_of _ (by decide +kernel)) ggX6_digest_X6_placedNow
set_option maxRecDepth 20000 in
theorem ggX6_digest_X6_howMany : GoodIn wsX6_digest wsX6_howMany := goodIn_r _ [94, 3, 6, 34, 95, 96, 97, 98, 99, 11, 100, 13, 101, 102, 103, 104, 105, 106, 107, 108, 109, 110, 111, 112, 113, 114, 115, 116, 117, 118, 119, 120, 121, 122, 123, 124, 125, 126, 127, 128, 129, 130, 131, 132, 133, 134] (by decide +kernel) (by decide +kernel)
set_option maxRecDepth 20000 in
theorem gX6_digest_X6_howMany : GoodIn wsX6_digest (wsV RX6 231 RX6 yX6_howMany wsX6_howMany) := goodIn_app (goodIn_of _ (by decide +kernel)) ggX6_digest_X6_howMany
theorem dX6_digest_0 : decode cX6_digest 0 = .ok (.aload_n 0, 1) := by decide +kernel
theorem dX6_digest_1 : decode cX6_digest 1 = .ok (.ldc2_w 240, 3) := by decide +kernel
theorem dX6_digest_4 : decode cX6_digest 4 = .ok (.putfield 236, 3) := by decide +kernel
theorem dX6_digest_7 : decode cX6_digest 7 = .ok (.iconst 0, 1) := by decide +kernel
theorem dX6_digest_8 : decode cX6_digest 8 = .ok (.istore_n 1, 1) := by decide +kernel
theorem dX6_digest_9 : decode cX6_digest 9 = .ok (.iload_n 1, 1) := by decide +kernel
theorem dX6_digest_10 : decode cX6_digest 10 = .ok (.bipush 6, 2) := by decide +kernel
theorem dX6_digest_12 : decode cX6_digest 12 = .ok (.aload_n 0, 1) := by decide +kernel
theorem dX6_digest_13 : decode cX6_digest 13 = .ok (.getfield 114, 3) := by decide +kernel
theorem dX6_digest_16 : decode cX6_digest 16 = .ok (.imul, 1) := by decide +kernel
theorem dX6_digest_17 : decode cX6_digest 17 = .ok (.if_icmp .ge 26, 3) := by decide +kernel
theorem dX6_digest_20 : decode cX6_digest 20 = .ok (.aload_n 0, 1) := by decide +kernel
theorem dX6_digest_21 : decode cX6_digest 21 = .ok (.aload_n 0, 1) := by decide +kernel
theorem dX6_digest_22 : decode cX6_digest 22 = .ok (.iload_n 1, 1) := by decide +kernel
theorem dX6_digest_23 : decode cX6_digest 23 = .ok (.bipush 6, 2) := by decide +kernel
theorem dX6_digest_25 : decode cX6_digest 25 = .ok (.idiv, 1) := by decide +kernel
theorem dX6_digest_26 : decode cX6_digest 26 = .ok (.iload_n 1, 1) := by decide +kernel
theorem dX6_digest_27 : decode cX6_digest 27 = .ok (.bipush 6, 2) := by decide +kernel
theorem dX6_digest_29 : decode cX6_digest 29 = .ok (.irem, 1) := by decide +kernel
theorem dX6_digest_30 : decode cX6_digest 30 = .ok (.invokevirtual 207, 3) := by decide +kernel
theorem dX6_digest_33 : decode cX6_digest 33 = .ok (.i2l, 1) := by decide +kernel
theorem dX6_digest_34 : decode cX6_digest 34 = .ok (.invokevirtual 242, 3) := by decide +kernel
theorem dX6_digest_37 : decode cX6_digest 37 = .ok (.iinc 1 1, 3) := by decide +kernel
theorem dX6_digest_40 : decode cX6_digest 40 = .ok (.goto (-31), 3) := by decide +kernel
theorem dX6_digest_43 : decode cX6_digest 43 = .ok (.iconst 0, 1) := by decide +kernel
theorem dX6_digest_44 : decode cX6_digest 44 = .ok (.istore_n 1, 1) := by decide +kernel
theorem dX6_digest_45 : decode cX6_digest 45 = .ok (.iload_n 1, 1) := by decide +kernel
theorem dX6_digest_46 : decode cX6_digest 46 = .ok (.iconst 4, 1) := by decide +kernel
theorem dX6_digest_47 : decode cX6_digest 47 = .ok (.aload_n 0, 1) := by decide +kernel
theorem dX6_digest_48 : decode cX6_digest 48 = .ok (.getfield 133, 3) := by decide +kernel
theorem dX6_digest_51 : decode cX6_digest 51 = .ok (.imul, 1) := by decide +kernel
theorem dX6_digest_52 : decode cX6_digest 52 = .ok (.if_icmp .ge 24, 3) := by decide +kernel
theorem dX6_digest_55 : decode cX6_digest 55 = .ok (.aload_n 0, 1) := by decide +kernel
theorem dX6_digest_56 : decode cX6_digest 56 = .ok (.aload_n 0, 1) := by decide +kernel
theorem dX6_digest_57 : decode cX6_digest 57 = .ok (.iload_n 1, 1) := by decide +kernel
theorem dX6_digest_58 : decode cX6_digest 58 = .ok (.iconst 4, 1) := by decide +kernel
theorem dX6_digest_59 : decode cX6_digest 59 = .ok (.idiv, 1) := by decide +kernel
theorem dX6_digest_60 : decode cX6_digest 60 = .ok (.iload_n 1, 1) := by decide +kernel
theorem dX6_digest_61 : decode cX6_digest 61 = .ok (.iconst 4, 1) := by decide +kernel
theorem dX6_digest_62 : decode cX6_digest 62 = .ok (.irem, 1) := by decide +kernel
theorem dX6_digest_63 : decode cX6_digest 63 = .ok (.invokevirtual 210, 3) := by decide +kernel
theorem dX6_digest_66 : decode cX6_digest 66 = .ok (.i2l, 1) := by decide +kernel
theorem dX6_digest_67 : decode cX6_digest 67 = .ok (.invokevirtual 242, 3) := by decide +kernel
theorem dX6_digest_70 : decode cX6_digest 70 = .ok (.iinc 1 1, 3) := by decide +kernel
theorem dX6_digest_73 : decode cX6_digest 73 = .ok (.goto (-28), 3) := by decide +kernel
theorem dX6_digest_76 : decode cX6_digest 76 = .ok (.iconst 0, 1) := by decide +kernel
theorem dX6_digest_77 : decode cX6_digest 77 = .ok (.istore_n 1, 1) := by decide +kernel
theorem dX6_digest_78 : decode cX6_digest 78 = .ok (.iload_n 1, 1) := by decide +kernel
theorem dX6_digest_79 : decode cX6_digest 79 = .ok (.iconst 4, 1) := by decide +kernel
theorem dX6_digest_80 : decode cX6_digest 80 = .ok (.aload_n 0, 1) := by decide +kernel
theorem dX6_digest_81 : decode cX6_digest 81 = .ok (.getfield 136, 3) := by decide +kernel
theorem dX6_digest_84 : decode cX6_digest 84 = .ok (.imul, 1) := by decide +kernel
theorem dX6_digest_85 : decode cX6_digest 85 = .ok (.if_icmp .ge 24, 3) := by decide +kernel
theorem dX6_digest_88 : decode cX6_digest 88 = .ok (.aload_n 0, 1) := by decide +kernel
theorem dX6_digest_89 : decode cX6_digest 89 = .ok (.aload_n 0, 1) := by decide +kernel
theorem dX6_digest_90 : decode cX6_digest 90 = .ok (.iload_n 1, 1) := by decide +kernel
theorem dX6_digest_91 : decode cX6_digest 91 = .ok (.iconst 4, 1) := by decide +kernel
theorem dX6_digest_92 : decode cX6_digest 92 = .ok (.idiv, 1) := by decide +kernel
theorem dX6_digest_93 : decode cX6_digest 93 = .ok (.iload_n 1, 1) := by decide +kernel
theorem dX6_digest_94 : decode cX6_digest 94 = .ok (.iconst 4, 1) := by decide +kernel
theorem dX6_digest_95 : decode cX6_digest 95 = .ok (.irem, 1) := by decide +kernel
theorem dX6_digest_96 : decode cX6_digest 96 = .ok (.invokevirtual 216, 3) := by decide +kernel
theorem dX6_digest_99 : decode cX6_digest 99 = .ok (.i2l, 1) := by decide +kernel
theorem dX6_digest_100 : decode cX6_digest 100 = .ok (.invokevirtual 242, 3) := by decide +kernel
theorem dX6_digest_103 : decode cX6_digest 103 = .ok (.iinc 1 1, 3) := by decide +kernel
theorem dX6_digest_106 : decode cX6_digest 106 = .ok (.goto (-28), 3) := by decide +kernel
theorem dX6_digest_109 : decode cX6_digest 109 = .ok (.iconst 0, 1) := by decide +kernel
theorem dX6_digest_110 : decode cX6_digest 110 = .ok (.istore_n 1, 1) := by decide +kernel
theorem dX6_digest_111 : decode cX6_digest 111 = .ok (.iload_n 1, 1) := by decide +kernel
theorem dX6_digest_112 : decode cX6_digest 112 = .ok (.bipush 9, 2) := by decide +kernel
theorem dX6_digest_114 : decode cX6_digest 114 = .ok (.if_icmp .ge 19, 3) := by decide +kernel
theorem dX6_digest_117 : decode cX6_digest 117 = .ok (.aload_n 0, 1) := by decide +kernel
theorem dX6_digest_118 : decode cX6_digest 118 = .ok (.aload_n 0, 1) := by decide +kernel
theorem dX6_digest_119 : decode cX6_digest 119 = .ok (.iload_n 1, 1) := by decide +kernel
theorem dX6_digest_120 : decode cX6_digest 120 = .ok (.invokevirtual 225, 3) := by decide +kernel
theorem dX6_digest_123 : decode cX6_digest 123 = .ok (.i2l, 1) := by decide +kernel
theorem dX6_digest_124 : decode cX6_digest 124 = .ok (.invokevirtual 242, 3) := by decide +kernel
theorem dX6_digest_127 : decode cX6_digest 127 = .ok (.iinc 1 1, 3) := by decide +kernel
theorem dX6_digest_130 : decode cX6_digest 130 = .ok (.goto (-19), 3) := by decide +kernel
theorem dX6_digest_133 : decode cX6_digest 133 = .ok (.iconst 0, 1) := by decide +kernel
theorem dX6_digest_134 : decode cX6_digest 134 = .ok (.istore_n 1, 1) := by decide +kernel
theorem dX6_digest_135 : decode cX6_digest 135 = .ok (.iload_n 1, 1) := by decide +kernel
theorem dX6_digest_136 : decode cX6_digest 136 = .ok (.aload_n 0, 1) := by decide +kernel
theorem dX6_digest_137 : decode cX6_digest 137 = .ok (.getfield 74, 3) := by decide +kernel
theorem dX6_digest_140 : decode cX6_digest 140 = .ok (.if_icmp .ge 20, 3) := by decide +kernel
theorem dX6_digest_143 : decode cX6_digest 143 = .ok (.aload_n 0, 1) := by decide +kernel
theorem dX6_digest_144 : decode cX6_digest 144 = .ok (.aload_n 0, 1) := by decide +kernel
theorem dX6_digest_145 : decode cX6_digest 145 = .ok (.getfield 7, 3) := by decide +kernel
theorem dX6_digest_148 : decode cX6_digest 148 = .ok (.iload_n 1, 1) := by decide +kernel
theorem dX6_digest_149 : decode cX6_digest 149 = .ok (.iaload, 1) := by decide +kernel
theorem dX6_digest_150 : decode cX6_digest 150 = .ok (.i2l, 1) := by decide +kernel
theorem dX6_digest_151 : decode cX6_digest 151 = .ok (.invokevirtual 242, 3) := by decide +kernel
theorem dX6_digest_154 : decode cX6_digest 154 = .ok (.iinc 1 1, 3) := by decide +kernel
theorem dX6_digest_157 : decode cX6_digest 157 = .ok (.goto (-22), 3) := by decide +kernel
theorem dX6_digest_160 : decode cX6_digest 160 = .ok (.iconst 0, 1) := by decide +kernel
theorem dX6_digest_161 : decode cX6_digest 161 = .ok (.istore_n 1, 1) := by decide +kernel
theorem dX6_digest_162 : decode cX6_digest 162 = .ok (.iload_n 1, 1) := by decide +kernel
theorem dX6_digest_163 : decode cX6_digest 163 = .ok (.bipush 8, 2) := by decide +kernel
theorem dX6_digest_165 : decode cX6_digest 165 = .ok (.if_icmp .ge 19, 3) := by decide +kernel
theorem dX6_digest_168 : decode cX6_digest 168 = .ok (.aload_n 0, 1) := by decide +kernel
theorem dX6_digest_169 : decode cX6_digest 169 = .ok (.aload_n 0, 1) := by decide +kernel
theorem dX6_digest_170 : decode cX6_digest 170 = .ok (.iload_n 1, 1) := by decide +kernel
theorem dX6_digest_171 : decode cX6_digest 171 = .ok (.invokevirtual 231, 3) := by decide +kernel
theorem dX6_digest_174 : decode cX6_digest 174 = .ok (.i2l, 1) := by decide +kernel
theorem dX6_digest_175 : decode cX6_digest 175 = .ok (.invokevirtual 242, 3) := by decide +kernel
theorem dX6_digest_178 : decode cX6_digest 178 = .ok (.iinc 1 1, 3) := by decide +kernel
theorem dX6_digest_181 : decode cX6_digest 181 = .ok (.goto (-19), 3) := by decide +kernel
theorem dX6_digest_184 : decode cX6_digest 184 = .ok (.aload_n 0, 1) := by decide +kernel
theorem dX6_digest_185 : decode cX6_digest 185 = .ok (.getfield 236, 3) := by decide +kernel
theorem dX6_digest_188 : decode cX6_digest 188 = .ok (.lreturn, 1) := by decide +kernel
theorem dJ9_max_7cf53_0 : decode cJ9_max_7cf53 0 = .ok (.iload_n 0, 1) := by decide +kernel
theorem dJ9_max_7cf53_1 : decode cJ9_max_7cf53 1 = .ok (.iload_n 1, 1) := by decide +kernel
theorem dJ9_max_7cf53_2 : decode cJ9_max_7cf53 2 = .ok (.if_icmp .lt 7, 3) := by decide +kernel
theorem dJ9_max_7cf53_5 : decode cJ9_max_7cf53 5 = .ok (.iload_n 0, 1) := by decide +kernel
theorem dJ9_max_7cf53_6 : decode cJ9_max_7cf53 6 = .ok (.goto 4, 3) := by decide +kernel
theorem dJ9_max_7cf53_9 : decode cJ9_max_7cf53 9 = .ok (.iload_n 1, 1) := by decide +kernel
theorem dJ9_max_7cf53_10 : decode cJ9_max_7cf53 10 = .ok (.ireturn, 1) := by decide +kernel
set_option maxRecDepth 20000 in
theorem ggL_law_X5_init : GoodIn wsL_law wsX5_init := goodIn_r _ [8, 9, 10, 11, 12, 13, 14, 15, 16, 17, 18, 19, 20, 21, 22, 23, 24, 25, 26, 27, 28, 29, 30, 31, 32, 33, 34, 35, 36, 37, 38, 39, 40, 41, 42, 43, 44, 45, 46, 47, 48, 49, 50, 51, 52, 53, 54, 55, 56, 57, 58, 59, 60, 61, 62, 63, 64, 65, 66, 67, 68, 69, 70, 71, 72, 73, 74, 75, 76, 707, 708, 666, 667, 668, 669, 670, 671, 672, 709, 710, 711, 712, 713, 714, 715, 716, 717, 718, 719, 720, 721, 722, 723, 724, 725, 726, 727, 728, 729, 730, 731, 732, 733, 734, 735, 736, 737, 738] (by decide +kernel) (by decide +kernel)
set_option maxRecDepth 20000 in
theorem gL_law_X5_init : GoodIn wsL_law (wsX5_init) := ggL_law_X5_init
set_option maxRecDepth 20000 in
theorem ggL_law_X6_init : GoodIn wsL_law wsX6_init := goodIn_r _ [79, 80, 10, 11, 24, 81, 82, 83, 84, 85, 86, 53, 87, 88, 89, 90, 91, 92, 93, 94, 95, 96, 97, 98, 99, 673, 674, 675, 676, 677, 678, 679, 680, 681, 682, 683, 684, 685, 686, 687, 688, 689, 690, 691, 692, 693, 694, 695, 696, 697, 698, 699, 700, 701, 702, 703, 704, 705, 706] (by decide +kernel) (by decide +kernel)
set_option maxRecDepth 20000 in
theorem gL_law_X6_init : GoodIn wsL_law (wsX6_init) := ggL_law_X6_init
set_option maxRecDepth 20000 in
theorem ggL_law_X5_letter : GoodIn wsL_law wsX5_letter := goodIn_r _ [103, 15, 104, 105, 106, 14, 107, 108, 33, 109, 110, 111, 112, 666, 667, 668, 669, 670, 671, 672, 707, 708] (by decide +kernel) (by decide +kernel)
set_option maxRecDepth 20000 in
theorem gL_law_X5_letter : GoodIn wsL_law (wsV RL 13 RX5 yX5_letter wsX5_letter) := goodIn_app (goodIn_of _ (by decide +kernel)) ggL_law_X5_letter
set_option maxRecDepth 20000 in
theorem ggL_law_X6_letter : GoodIn wsL_law wsX6_letter := goodIn_r _ [116, 117, 81, 118, 119, 5, 120, 673, 674, 675, 676, 677, 678, 679, 680, 681, 682, 683, 684, 685, 686, 687, 688, 689, 690, 691, 692, 693, 694, 695, 696, 697, 698, 699, 700, 701, 702, 703, 704, 705, 706] (by decide +kernel) (by decide +kernel)
set_option maxRecDepth 20000 in
theorem gL_law_X6_letter : GoodIn wsL_law (wsV RL 17 RX6 yX6_letter wsX6_letter) := goodIn_app (goodIn_of _ (by decide +kernel)) ggL_law_X6_letter
set_option maxRecDepth 20000 in
theorem ggL_law_X5_blank : GoodIn wsL_law wsX5_blank := goodIn_r _ [124, 15, 109, 110, 111, 14, 112, 108, 125, 126, 127, 128, 666, 667, 668, 669, 670, 671, 672, 707, 708] (by decide +kernel) (by decide +kernel)
set_option maxRecDepth 20000 in
theorem gL_law_X5_blank : GoodIn wsL_law (wsV RL 18 RX5 yX5_blank wsX5_blank) := goodIn_app (goodIn_of _ (by decide +kernel)) ggL_law_X5_blank
set_option maxRecDepth 20000 in
theorem ggL_law_X6_blank : GoodIn wsL_law wsX6_blank := goodIn_r _ [132, 117, 673, 674, 675, 676, 677, 678, 679, 680, 681, 682, 683, 684, 685, 686, 687, 688, 689, 690, 691, 692, 693, 694, 695, 696, 697, 698, 699, 700, 701, 702, 703, 704, 705, 706] (by decide +kernel) (by decide +kernel)
set_option maxRecDepth 20000 in
theorem gL_law_X6_blank : GoodIn wsL_law (wsV RL 22 RX6 yX6_blank wsX6_blank) := goodIn_app (goodIn_of _ (by decide +kernel)) ggL_law_X6_blank
set_option maxRecDepth 20000 in
theorem ggL_law_X5_fault : GoodIn wsL_law wsX5_fault := goodIn_r _ [136, 19, 15, 137, 138, 139, 18, 140, 38, 141, 142, 143, 144, 145, 146, 22, 147, 148, 149, 150, 110, 111, 14, 112, 108, 151, 152, 153, 154, 33, 155, 156, 157, 158, 159, 160, 161, 162, 163, 164, 165, 166, 167, 168, 169, 42, 43, 170, 171, 172, 173, 174, 175, 176, 177, 666, 667, 668, 669, 670, 671, 672, 709, 710, 711, 712, 713, 714, 715, 716, 707, 708] (by decide +kernel) (by decide +kernel)
set_option maxRecDepth 20000 in
theorem gL_law_X5_fault : GoodIn wsL_law (wsV RL 23 RX5 yX5_fault wsX5_fault) := goodIn_app (goodIn_of _ (by decide +kernel)) ggL_law_X5_fault
set_option maxRecDepth 20000 in
theorem ggL_law_X6_fault : GoodIn wsL_law wsX6_fault := goodIn_r _ [181, 182, 183, 184, 5, 185, 186, 187, 188, 189, 117, 81, 190, 191, 192, 193, 194, 195, 196, 197, 198, 199, 200, 201, 202, 203, 204, 85, 86, 205, 206, 207, 208, 118, 119, 120, 209, 210, 211, 212, 673, 674, 675, 676, 677, 678, 679, 680, 681, 682, 683, 684, 685, 686, 687, 688, 689, 690, 691, 692, 693, 694, 695, 696, 697, 698, 699, 700, 701, 702, 703, 704, 705, 706] (by decide +kernel) (by decide +kernel)
set_option maxRecDepth 20000 in
theorem gL_law_X6_fault : GoodIn wsL_law (wsV RL 26 RX6 yX6_fault wsX6_fault) := goodIn_app (goodIn_of _ (by decide +kernel)) ggL_law_X6_fault
set_option maxRecDepth 20000 in
theorem ggL_law_X5_code : GoodIn wsL_law wsX5_code := goodIn_r _ [216, 19, 15, 23, 217, 29, 137, 138, 139, 18, 140, 38, 141, 142, 143, 144, 145, 146, 22, 147, 148, 149, 150, 110, 111, 14, 112, 108, 151, 152, 153, 154, 33, 155, 156, 157, 158, 159, 160, 161, 162, 163, 164, 165, 166, 167, 168, 169, 42, 43, 170, 171, 172, 173, 174, 175, 176, 177, 109, 218, 219, 220, 221, 222, 223, 224, 225, 226, 227, 228, 229, 230, 231, 232, 233, 234, 235, 236, 237, 238, 239, 240, 125, 126, 127, 128, 241, 242, 243, 28, 244, 62, 245, 246, 247, 248, 249, 51, 52, 54, 250, 251, 252, 60, 61, 253, 254, 255, 50, 256, 257, 68, 69, 258, 259, 260, 261, 262, 55, 56, 263, 264, 265, 266, 267, 268, 269, 270, 271, 272, 273, 2, 274, 275, 276, 277, 278, 57, 279, 280, 281, 282, 283, 284, 285, 286, 287, 288, 289, 290, 291, 292, 293, 294, 295, 296, 297, 58, 298, 299, 300, 301, 302, 303, 304, 305, 306, 307, 308, 309, 310, 311, 312, 313, 75, 76, 314, 315, 316, 317, 74, 318, 319, 320, 321, 322, 323, 324, 325, 63, 326, 327, 328, 329, 330, 331, 332, 333, 334, 335, 336, 337, 338, 339, 340, 341, 342, 343, 344, 345, 346, 347, 348, 349, 350, 351, 59, 352, 353, 354, 355, 356, 357, 358, 359, 360, 361, 362, 363, 364, 365, 366, 367, 368, 369, 370, 371, 372, 373, 374, 375, 376, 377, 378, 379, 380, 381, 382, 383, 384, 385, 386, 387, 388, 389, 390, 391, 392, 393, 394, 395, 396, 397, 398, 399, 400, 666, 667, 668, 669, 670, 671, 672, 709, 710, 711, 712, 713, 714, 715, 716, 707, 708, 717, 718, 719, 720, 721, 722, 723, 724, 725, 726, 727, 728, 729, 730, 731, 732, 733, 734, 735, 736, 737, 738] (by decide +kernel) (by decide +kernel)
set_option maxRecDepth 20000 in
theorem gL_law_X5_code : GoodIn wsL_law (wsV RL 27 RX5 yX5_code wsX5_code) := goodIn_app (goodIn_of _ (by decide +kernel)) ggL_law_X5_code
set_option maxRecDepth 20000 in
theorem ggL_law_X6_code : GoodIn wsL_law wsX6_code := goodIn_r _ [404, 117, 187, 186, 189, 188, 405, 82, 85, 83, 86, 406, 182, 183, 184, 5, 185, 81, 190, 191, 192, 193, 194, 195, 196, 197, 198, 199, 200, 201, 202, 203, 204, 205, 206, 207, 208, 118, 119, 120, 209, 210, 211, 212, 407, 408, 409, 410, 411, 412, 413, 98, 414, 99, 87, 415, 416, 417, 418, 419, 92, 97, 420, 421, 422, 423, 424, 425, 426, 427, 428, 429, 430, 431, 89, 93, 95, 91, 94, 96, 432, 433, 434, 435, 88, 436, 437, 438, 439, 440, 441, 442, 443, 444, 445, 446, 447, 90, 84, 448, 449, 450, 451, 452, 453, 454, 455, 456, 457, 458, 459, 460, 461, 462, 463, 464, 465, 466, 467, 468, 469, 470, 471, 472, 473, 474, 475, 476, 477, 478, 479, 480, 481, 482, 483, 484, 485, 486, 487, 673, 674, 675, 676, 677, 678, 679, 680, 681, 682, 683, 684, 685, 686, 687, 688, 689, 690, 691, 692, 693, 694, 695, 696, 697, 698, 699, 700, 701, 702, 703, 704, 705, 706] (by decide +kernel) (by decide +kernel)
set_option maxRecDepth 20000 in
theorem gL_law_X6_code : GoodIn wsL_law (wsV RL 30 RX6 yX6_code wsX6_code) := goodIn_app (goodIn_of _ (by decide +kernel)) ggL_law_X6_code
set_option maxRecDepth 20000 in
theorem ggL_law_X5_reach : GoodIn wsL_law wsX5_reach := goodIn_r _ [491, 492, 493, 25, 494, 29, 241, 242, 243, 28, 244, 62, 245, 246, 247, 248, 249, 51, 52, 54, 250, 251, 252, 60, 61, 253, 254, 255, 50, 256, 257, 68, 69, 258, 163, 164, 22, 165, 148, 259, 260, 261, 262, 55, 56, 263, 229, 230, 231, 42, 232, 233, 234, 235, 43, 264, 265, 266, 267, 268, 237, 238, 239, 269, 270, 271, 272, 273, 2, 274, 275, 276, 277, 278, 57, 279, 280, 281, 282, 283, 284, 285, 286, 287, 288, 289, 290, 291, 292, 293, 294, 295, 296, 297, 58, 298, 299, 300, 301, 302, 303, 304, 305, 306, 307, 308, 309, 310, 311, 312, 313, 75, 76, 314, 315, 316, 317, 74, 318, 319, 320, 321, 322, 323, 324, 325, 63, 326, 327, 328, 329, 330, 331, 332, 333, 334, 335, 336, 337, 338, 339, 340, 341, 342, 343, 344, 345, 346, 347, 348, 349, 350, 351, 59, 352, 353, 354, 355, 356, 357, 358, 359, 360, 361, 362, 363, 364, 365, 366, 367, 368, 369, 370, 371, 372, 373, 374, 375, 376, 377, 378, 379, 380, 381, 382, 383, 384, 385, 386, 387, 388, 389, 390, 391, 392, 393, 394, 395, 396, 397, 398, 399, 666, 667, 668, 669, 670, 671, 672, 717, 718, 719, 720, 721, 722, 723, 724, 725, 726, 727, 728, 729, 730, 731, 732, 733, 734, 735, 736, 737, 738, 713, 714, 715, 716] (by decide +kernel) (by decide +kernel)
set_option maxRecDepth 20000 in
theorem gL_law_X5_reach : GoodIn wsL_law (wsV RL 31 RX5 yX5_reach wsX5_reach) := goodIn_app (goodIn_of _ (by decide +kernel)) ggL_law_X5_reach
set_option maxRecDepth 20000 in
theorem ggL_law_X6_reach : GoodIn wsL_law wsX6_reach := goodIn_r _ [498, 84, 499, 118, 119, 5, 120, 407, 408, 409, 410, 411, 412, 413, 98, 414, 99, 405, 87, 415, 416, 417, 418, 419, 92, 82, 97, 83, 420, 421, 422, 423, 424, 425, 426, 427, 428, 429, 430, 431, 89, 93, 95, 91, 94, 96, 432, 433, 434, 435, 88, 436, 437, 438, 439, 440, 441, 442, 443, 444, 445, 446, 447, 90, 448, 449, 450, 451, 452, 453, 454, 455, 456, 457, 458, 459, 460, 461, 462, 463, 464, 465, 466, 467, 468, 469, 470, 471, 472, 473, 474, 475, 476, 477, 478, 479, 480, 481, 482, 483, 484, 485, 486, 487, 673, 674, 675, 676, 677, 678, 679, 680, 681, 682, 683, 684, 685, 686, 687, 688, 689, 690, 691, 692, 693, 694, 695, 696, 697, 698, 699, 700, 701, 702, 703, 704, 705, 706] (by decide +kernel) (by decide +kernel)
set_option maxRecDepth 20000 in
theorem gL_law_X6_reach : GoodIn wsL_law (wsV RL 35 RX6 yX6_reach wsX6_reach) := goodIn_app (goodIn_of _ (by decide +kernel)) ggL_law_X6_reach
set_option maxRecDepth 20000 in
theorem ggL_law_X5_grow : GoodIn wsL_law wsX5_grow := goodIn_r _ [503, 23, 494, 29, 504, 233, 234, 22, 235, 148, 42, 43, 505, 229, 230, 231, 232, 506, 237, 238, 239, 507, 508, 509, 510, 241, 242, 243, 28, 244, 62, 245, 246, 247, 248, 249, 51, 52, 54, 250, 251, 252, 60, 61, 253, 254, 255, 50, 256, 257, 68, 69, 258, 163, 164, 165, 259, 260, 261, 262, 55, 56, 263, 264, 265, 266, 267, 268, 269, 270, 271, 272, 273, 2, 274, 275, 276, 277, 278, 57, 279, 280, 281, 282, 283, 284, 285, 286, 287, 288, 289, 290, 291, 292, 293, 294, 295, 296, 297, 58, 298, 299, 300, 301, 302, 303, 304, 305, 306, 307, 308, 309, 310, 311, 312, 313, 75, 76, 314, 315, 316, 317, 74, 318, 319, 320, 321, 322, 323, 324, 325, 63, 326, 327, 328, 329, 330, 331, 332, 333, 334, 335, 336, 337, 338, 339, 340, 341, 342, 343, 344, 345, 346, 347, 348, 349, 350, 351, 59, 352, 353, 354, 355, 356, 357, 358, 359, 360, 361, 362, 363, 364, 365, 366, 367, 368, 369, 370, 371, 372, 373, 374, 375, 376, 377, 378, 379, 380, 381, 382, 383, 384, 385, 386, 387, 388, 389, 390, 391, 392, 393, 394, 395, 396, 397, 398, 399, 666, 667, 668, 669, 670, 671, 672, 713, 714, 715, 716, 717, 718, 719, 720, 721, 722, 723, 724, 725, 726, 727, 728, 729, 730, 731, 732, 733, 734, 735, 736, 737, 738] (by decide +kernel) (by decide +kernel)
set_option maxRecDepth 20000 in
theorem gL_law_X5_grow : GoodIn wsL_law (wsV RL 36 RX5 yX5_grow wsX5_grow) := goodIn_app (goodIn_of _ (by decide +kernel)) ggL_law_X5_grow
set_option maxRecDepth 20000 in
theorem ggL_law_X6_grow : GoodIn wsL_law wsX6_grow := goodIn_r _ [514, 82, 83, 499, 515, 516, 517, 5, 518, 405, 118, 119, 120, 407, 408, 409, 410, 411, 412, 413, 98, 414, 99, 87, 415, 416, 417, 418, 419, 92, 97, 420, 421, 422, 423, 424, 425, 426, 427, 428, 429, 430, 431, 89, 93, 95, 91, 94, 96, 432, 433, 434, 435, 88, 436, 437, 438, 439, 440, 441, 442, 443, 444, 445, 446, 447, 90, 84, 448, 449, 450, 451, 452, 453, 454, 455, 456, 457, 458, 459, 460, 461, 462, 463, 464, 465, 466, 467, 468, 469, 470, 471, 472, 473, 474, 475, 476, 477, 478, 479, 480, 481, 482, 483, 484, 485, 486, 487, 673, 674, 675, 676, 677, 678, 679, 680, 681, 682, 683, 684, 685, 686, 687, 688, 689, 690, 691, 692, 693, 694, 695, 696, 697, 698, 699, 700, 701, 702, 703, 704, 705, 706] (by decide +kernel) (by decide +kernel)
set_option maxRecDepth 20000 in
theorem gL_law_X6_grow : GoodIn wsL_law (wsV RL 39 RX6 yX6_grow wsX6_grow) := goodIn_app (goodIn_of _ (by decide +kernel)) ggL_law_X6_grow
set_option maxRecDepth 20000 in
theorem ggL_law_X5_item : GoodIn wsL_law wsX5_item := goodIn_r _ [522, 23, 29, 504, 233, 234, 22, 235, 148, 42, 43, 505, 229, 230, 231, 232, 506, 237, 238, 239, 523, 299, 300, 28, 301, 55, 524, 525, 526, 527, 56, 528, 270, 271, 272, 54, 529, 361, 362, 363, 58, 666, 667, 668, 669, 670, 671, 672, 713, 714, 715, 716, 717, 718, 719, 720, 721, 722, 723, 724, 725, 726, 727, 728, 729, 730, 731, 732] (by decide +kernel) (by decide +kernel)
set_option maxRecDepth 20000 in
theorem gL_law_X5_item : GoodIn wsL_law (wsV RL 40 RX5 yX5_item wsX5_item) := goodIn_app (goodIn_of _ (by decide +kernel)) ggL_law_X5_item
set_option maxRecDepth 20000 in
theorem ggL_law_X6_item : GoodIn wsL_law wsX6_item := goodIn_r _ [533, 515, 516, 517, 5, 518, 405, 118, 119, 120, 534, 535, 536, 537, 82, 83, 92, 87, 421, 422, 423, 424, 425, 426, 427, 440, 441, 442, 443, 94, 444, 445, 446, 447, 412, 90, 84, 448, 449, 450, 451, 97, 93, 452, 453, 454, 455, 456, 457, 458, 459, 460, 461, 462, 411, 88, 463, 464, 465, 466, 467, 673, 674, 675, 676, 677, 678, 679, 680, 681, 682, 683, 684, 685, 686, 687, 688, 689, 690, 691, 692, 693, 694, 695, 696, 697, 698, 699, 700, 701, 702, 703, 704, 705, 706] (by decide +kernel) (by decide +kernel)
set_option maxRecDepth 20000 in
theorem gL_law_X6_item : GoodIn wsL_law (wsV RL 43 RX6 yX6_item wsX6_item) := goodIn_app (goodIn_of _ (by decide +kernel)) ggL_law_X6_item
set_option maxRecDepth 20000 in
theorem ggL_law_X5_island : GoodIn wsL_law wsX5_island := goodIn_r _ [541, 29, 542, 315, 316, 50, 317, 257, 74, 543, 319, 320, 321, 314, 544, 545, 546, 547, 75, 548, 311, 312, 313, 69, 76, 287, 288, 289, 549, 397, 398, 28, 399, 59, 666, 667, 668, 669, 670, 671, 672, 717, 718, 719, 720, 721, 722, 723, 724, 725, 726, 727, 728, 729, 730, 731, 732, 733, 734, 735, 736, 737, 738] (by decide +kernel) (by decide +kernel)
set_option maxRecDepth 20000 in
theorem gL_law_X5_island : GoodIn wsL_law (wsV RL 44 RX5 yX5_island wsX5_island) := goodIn_app (goodIn_of _ (by decide +kernel)) ggL_law_X5_island
set_option maxRecDepth 20000 in
theorem ggL_law_X6_island : GoodIn wsL_law wsX6_island := goodIn_r _ [553, 411, 118, 119, 5, 120, 554, 555, 556, 557, 88, 89, 93, 448, 449, 450, 451, 97, 452, 453, 454, 455, 84, 456, 457, 458, 459, 460, 461, 462, 463, 673, 674, 675, 676, 677, 678, 679, 680, 681, 682, 683, 684, 685, 686, 687, 688, 689, 690, 691, 692, 693, 694, 695, 696, 697, 698, 699, 700, 701, 702, 703, 704, 705, 706] (by decide +kernel) (by decide +kernel)
set_option maxRecDepth 20000 in
theorem gL_law_X6_island : GoodIn wsL_law (wsV RL 47 RX6 yX6_island wsX6_island) := goodIn_app (goodIn_of _ (by decide +kernel)) ggL_law_X6_island
set_option maxRecDepth 20000 in
theorem ggL_law_X5_constant : GoodIn wsL_law wsX5_constant := goodIn_r _ [561, 29, 542, 315, 316, 50, 317, 257, 74, 543, 319, 320, 321, 314, 544, 545, 546, 547, 75, 548, 311, 312, 313, 69, 76, 287, 288, 289, 562, 563, 564, 28, 565, 52, 62, 310, 258, 163, 164, 22, 165, 148, 263, 229, 230, 231, 42, 232, 233, 234, 235, 43, 360, 361, 362, 363, 58, 666, 667, 668, 669, 670, 671, 672, 717, 718, 719, 720, 721, 722, 723, 724, 725, 726, 727, 728, 729, 730, 731, 732, 733, 734, 735, 736, 737, 738, 713, 714, 715, 716] (by decide +kernel) (by decide +kernel)
set_option maxRecDepth 20000 in
theorem gL_law_X5_constant : GoodIn wsL_law (wsV RL 48 RX5 yX5_constant wsX5_constant) := goodIn_app (goodIn_of _ (by decide +kernel)) ggL_law_X5_constant
set_option maxRecDepth 20000 in
theorem ggL_law_X6_constant : GoodIn wsL_law wsX6_constant := goodIn_r _ [569, 412, 118, 119, 5, 120, 570, 571, 572, 573, 90, 91, 94, 574, 575, 576, 577, 405, 82, 444, 445, 446, 447, 92, 83, 84, 673, 674, 675, 676, 677, 678, 679, 680, 681, 682, 683, 684, 685, 686, 687, 688, 689, 690, 691, 692, 693, 694, 695, 696, 697, 698, 699, 700, 701, 702, 703, 704, 705, 706] (by decide +kernel) (by decide +kernel)
set_option maxRecDepth 20000 in
theorem gL_law_X6_constant : GoodIn wsL_law (wsV RL 51 RX6 yX6_constant wsX6_constant) := goodIn_app (goodIn_of _ (by decide +kernel)) ggL_law_X6_constant
set_option maxRecDepth 20000 in
theorem ggL_law_X5_hops : GoodIn wsL_law wsX5_hops := goodIn_r _ [581, 23, 29, 504, 233, 234, 22, 235, 148, 42, 43, 505, 229, 230, 231, 232, 582, 583, 584, 28, 585, 62, 51, 268, 237, 238, 239, 298, 299, 300, 301, 55, 269, 270, 271, 272, 54, 360, 361, 362, 363, 58, 330, 331, 332, 333, 63, 334, 335, 336, 337, 57, 338, 2, 339, 340, 341, 342, 343, 306, 307, 308, 50, 309, 257, 310, 311, 312, 313, 75, 69, 76, 314, 315, 316, 317, 74, 287, 288, 289, 318, 319, 320, 321, 666, 667, 668, 669, 670, 671, 672, 713, 714, 715, 716, 717, 718, 719, 720, 721, 722, 723, 724, 725, 726, 727, 728, 729, 730, 731, 732, 733, 734, 735, 736, 737, 738] (by decide +kernel) (by decide +kernel)
set_option maxRecDepth 20000 in
theorem gL_law_X5_hops : GoodIn wsL_law (wsV RL 52 RX5 yX5_hops wsX5_hops) := goodIn_app (goodIn_of _ (by decide +kernel)) ggL_law_X5_hops
set_option maxRecDepth 20000 in
theorem ggL_law_X6_hops : GoodIn wsL_law wsX6_hops := goodIn_r _ [589, 82, 515, 516, 517, 5, 518, 405, 118, 119, 120, 590, 591, 592, 593, 83, 87, 92, 93, 464, 465, 466, 467, 97, 84, 456, 457, 458, 452, 453, 454, 455, 459, 460, 461, 462, 411, 88, 463, 673, 674, 675, 676, 677, 678, 679, 680, 681, 682, 683, 684, 685, 686, 687, 688, 689, 690, 691, 692, 693, 694, 695, 696, 697, 698, 699, 700, 701, 702, 703, 704, 705, 706] (by decide +kernel) (by decide +kernel)
set_option maxRecDepth 20000 in
theorem gL_law_X6_hops : GoodIn wsL_law (wsV RL 55 RX6 yX6_hops wsX6_hops) := goodIn_app (goodIn_of _ (by decide +kernel)) ggL_law_X6_hops
set_option maxRecDepth 20000 in
theorem ggL_law_X5_placed : GoodIn wsL_law wsX5_placed := goodIn_r _ [597, 29, 598, 307, 308, 50, 309, 257, 666, 667, 668, 669, 670, 671, 672, 717, 718, 719, 720, 721, 722, 723, 724, 725, 726, 727, 728, 729, 730, 731, 732, 733, 734, 735, 736, 737, 738] (by decide +kernel) (by decide +kernel)
set_option maxRecDepth 20000 in
theorem gL_law_X5_placed : GoodIn wsL_law (wsV RL 56 RX5 yX5_placed wsX5_placed) := goodIn_app (goodIn_of _ (by decide +kernel)) ggL_law_X5_placed
set_option maxRecDepth 20000 in
theorem ggL_law_X6_placed : GoodIn wsL_law wsX6_placed := goodIn_r _ [602, 118, 119, 5, 120, 603, 604, 605, 606, 98, 413, 405, 420, 419, 414, 99, 411, 412, 607, 608, 609, 610, 87, 673, 674, 675, 676, 677, 678, 679, 680, 681, 682, 683, 684, 685, 686, 687, 688, 689, 690, 691, 692, 693, 694, 695, 696, 697, 698, 699, 700, 701, 702, 703, 704, 705, 706] (by decide +kernel) (by decide +kernel)
set_option maxRecDepth 20000 in
theorem gL_law_X6_placed : GoodIn wsL_law (wsV RL 59 RX6 yX6_placed wsX6_placed) := goodIn_app (goodIn_of _ (by decide +kernel)) ggL_law_X6_placed
set_option maxRecDepth 20000 in
theorem ggL_law_X5_count : GoodIn wsL_law wsX5_count := goodIn_r _ [614, 23, 15, 25, 217, 494, 400, 163, 164, 22, 165, 148, 109, 110, 111, 14, 112, 108, 615, 616, 617, 618, 149, 666, 667, 668, 669, 670, 671, 672, 713, 714, 715, 716, 707, 708] (by decide +kernel) (by decide +kernel)
set_option maxRecDepth 20000 in
theorem gL_law_X5_count : GoodIn wsL_law (wsV RL 60 RX5 yX5_count wsX5_count) := goodIn_app (goodIn_of _ (by decide +kernel)) ggL_law_X5_count
set_option maxRecDepth 20000 in
theorem ggL_law_X6_count : GoodIn wsL_law wsX6_count := goodIn_r _ [622, 623, 624, 625, 5, 626, 405, 117, 84, 406, 499, 627, 628, 629, 630, 82, 673, 674, 675, 676, 677, 678, 679, 680, 681, 682, 683, 684, 685, 686, 687, 688, 689, 690, 691, 692, 693, 694, 695, 696, 697, 698, 699, 700, 701, 702, 703, 704, 705, 706] (by decide +kernel) (by decide +kernel)
set_option maxRecDepth 20000 in
theorem gL_law_X6_count : GoodIn wsL_law (wsV RL 63 RX6 yX6_count wsX6_count) := goodIn_app (goodIn_of _ (by decide +kernel)) ggL_law_X6_count
set_option maxRecDepth 20000 in
theorem ggL_law_X5_digest : GoodIn wsL_law wsX5_digest := goodIn_r _ [634, 635, 636, 15, 637, 638, 639, 2, 640, 23, 400, 163, 164, 22, 165, 148, 641, 520, 521, 522, 29, 504, 233, 234, 235, 42, 43, 505, 229, 230, 231, 232, 506, 237, 238, 239, 523, 299, 300, 28, 301, 55, 524, 525, 526, 527, 56, 528, 270, 271, 272, 54, 529, 361, 362, 363, 58, 642, 643, 644, 645, 598, 307, 308, 50, 309, 257, 646, 539, 540, 541, 542, 315, 316, 317, 74, 543, 319, 320, 321, 314, 544, 545, 546, 547, 75, 548, 311, 312, 313, 69, 76, 287, 288, 289, 549, 397, 398, 399, 59, 647, 648, 649, 650, 651, 559, 560, 561, 562, 563, 564, 565, 52, 62, 310, 258, 263, 360, 652, 595, 596, 597, 109, 110, 111, 14, 112, 108, 653, 152, 153, 154, 33, 654, 612, 613, 614, 25, 217, 494, 615, 616, 617, 618, 149, 666, 667, 668, 669, 670, 671, 672, 713, 714, 715, 716, 717, 718, 719, 720, 721, 722, 723, 724, 725, 726, 727, 728, 729, 730, 731, 732, 733, 734, 735, 736, 737, 738, 707, 708] (by decide +kernel) (by decide +kernel)
set_option maxRecDepth 20000 in
theorem gL_law_X5_digest : GoodIn wsL_law (wsV RL 64 RX5 yX5_digest wsX5_digest) := goodIn_app (goodIn_of _ (by decide +kernel)) ggL_law_X5_digest
set_option maxRecDepth 20000 in
theorem ggL_law_X6_digest : GoodIn wsL_law wsX6_digest := goodIn_r _ [658, 659, 660, 405, 411, 412, 117, 81, 534, 535, 536, 5, 537, 82, 83, 92, 87, 421, 422, 423, 424, 425, 426, 427, 440, 441, 442, 443, 94, 444, 445, 446, 447, 90, 84, 448, 449, 450, 451, 97, 93, 452, 453, 454, 455, 456, 457, 458, 459, 460, 461, 462, 88, 463, 464, 465, 466, 467, 661, 662, 663, 664, 665, 554, 555, 556, 557, 89, 570, 571, 572, 573, 91, 574, 575, 576, 577, 603, 604, 605, 606, 98, 413, 420, 419, 414, 99, 607, 608, 609, 610, 623, 624, 625, 626, 406, 499, 627, 628, 629, 630, 673, 674, 675, 676, 677, 678, 679, 680, 681, 682, 683, 684, 685, 686, 687, 688, 689, 690, 691, 692, 693, 694, 695, 696, 697, 698, 699, 700, 701, 702, 703, 704, 705, 706] (by decide +kernel) (by decide +kernel)
set_option maxRecDepth 20000 in
theorem gL_law_X6_digest : GoodIn wsL_law (wsV RL 68 RX6 yX6_digest wsX6_digest) := goodIn_app (goodIn_of _ (by decide +kernel)) ggL_law_X6_digest
theorem dL_law_0 : decode cL_law 0 = .ok (.new 7, 3) := by decide +kernel
theorem dL_law_3 : decode cL_law 3 = .ok (.dup, 1) := by decide +kernel
theorem dL_law_4 : decode cL_law 4 = .ok (.invokespecial 9, 3) := by decide +kernel
theorem dL_law_7 : decode cL_law 7 = .ok (.astore_n 1, 1) := by decide +kernel
theorem dL_law_8 : decode cL_law 8 = .ok (.new 10, 3) := by decide +kernel
theorem dL_law_11 : decode cL_law 11 = .ok (.dup, 1) := by decide +kernel
theorem dL_law_12 : decode cL_law 12 = .ok (.invokespecial 12, 3) := by decide +kernel
theorem dL_law_15 : decode cL_law 15 = .ok (.astore_n 2, 1) := by decide +kernel
theorem dL_law_16 : decode cL_law 16 = .ok (.iconst 0, 1) := by decide +kernel
theorem dL_law_17 : decode cL_law 17 = .ok (.istore_n 3, 1) := by decide +kernel
theorem dL_law_18 : decode cL_law 18 = .ok (.iload_n 3, 1) := by decide +kernel
theorem dL_law_19 : decode cL_law 19 = .ok (.aload_n 0, 1) := by decide +kernel
theorem dL_law_20 : decode cL_law 20 = .ok (.arraylength, 1) := by decide +kernel
theorem dL_law_21 : decode cL_law 21 = .ok (.iconst 3, 1) := by decide +kernel
theorem dL_law_22 : decode cL_law 22 = .ok (.isub, 1) := by decide +kernel
theorem dL_law_23 : decode cL_law 23 = .ok (.if_icmp .gt 393, 3) := by decide +kernel
theorem dL_law_26 : decode cL_law 26 = .ok (.aload_n 0, 1) := by decide +kernel
theorem dL_law_27 : decode cL_law 27 = .ok (.iload_n 3, 1) := by decide +kernel
theorem dL_law_28 : decode cL_law 28 = .ok (.iaload, 1) := by decide +kernel
theorem dL_law_29 : decode cL_law 29 = .ok (.bipush 15, 2) := by decide +kernel
theorem dL_law_31 : decode cL_law 31 = .ok (.iand, 1) := by decide +kernel
theorem dL_law_32 : decode cL_law 32 = .ok (.tableswitch 378 0 12 #[68, 91, 104, 117, 130, 163, 196, 229, 262, 295, 318, 341, 364], 68) := by decide +kernel
theorem dL_law_100 : decode cL_law 100 = .ok (.aload_n 1, 1) := by decide +kernel
theorem dL_law_101 : decode cL_law 101 = .ok (.aload_n 0, 1) := by decide +kernel
theorem dL_law_102 : decode cL_law 102 = .ok (.iload_n 3, 1) := by decide +kernel
theorem dL_law_103 : decode cL_law 103 = .ok (.iconst 1, 1) := by decide +kernel
theorem dL_law_104 : decode cL_law 104 = .ok (.iadd, 1) := by decide +kernel
theorem dL_law_105 : decode cL_law 105 = .ok (.iaload, 1) := by decide +kernel
theorem dL_law_106 : decode cL_law 106 = .ok (.invokevirtual 13, 3) := by decide +kernel
theorem dL_law_109 : decode cL_law 109 = .ok (.aload_n 2, 1) := by decide +kernel
theorem dL_law_110 : decode cL_law 110 = .ok (.aload_n 0, 1) := by decide +kernel
theorem dL_law_111 : decode cL_law 111 = .ok (.iload_n 3, 1) := by decide +kernel
theorem dL_law_112 : decode cL_law 112 = .ok (.iconst 1, 1) := by decide +kernel
theorem dL_law_113 : decode cL_law 113 = .ok (.iadd, 1) := by decide +kernel
theorem dL_law_114 : decode cL_law 114 = .ok (.iaload, 1) := by decide +kernel
theorem dL_law_115 : decode cL_law 115 = .ok (.invokevirtual 17, 3) := by decide +kernel
theorem dL_law_118 : decode cL_law 118 = .ok (.if_icmp .eq 292, 3) := by decide +kernel
theorem dL_law_121 : decode cL_law 121 = .ok (.iconst 0, 1) := by decide +kernel
theorem dL_law_122 : decode cL_law 122 = .ok (.ireturn, 1) := by decide +kernel
theorem dL_law_123 : decode cL_law 123 = .ok (.aload_n 1, 1) := by decide +kernel
theorem dL_law_124 : decode cL_law 124 = .ok (.invokevirtual 18, 3) := by decide +kernel
theorem dL_law_127 : decode cL_law 127 = .ok (.aload_n 2, 1) := by decide +kernel
theorem dL_law_128 : decode cL_law 128 = .ok (.invokevirtual 22, 3) := by decide +kernel
theorem dL_law_131 : decode cL_law 131 = .ok (.if_icmp .eq 279, 3) := by decide +kernel
theorem dL_law_134 : decode cL_law 134 = .ok (.iconst 0, 1) := by decide +kernel
theorem dL_law_135 : decode cL_law 135 = .ok (.ireturn, 1) := by decide +kernel
theorem dL_law_136 : decode cL_law 136 = .ok (.aload_n 1, 1) := by decide +kernel
theorem dL_law_137 : decode cL_law 137 = .ok (.invokevirtual 23, 3) := by decide +kernel
theorem dL_law_140 : decode cL_law 140 = .ok (.aload_n 2, 1) := by decide +kernel
theorem dL_law_141 : decode cL_law 141 = .ok (.invokevirtual 26, 3) := by decide +kernel
theorem dL_law_144 : decode cL_law 144 = .ok (.if_icmp .eq 266, 3) := by decide +kernel
theorem dL_law_147 : decode cL_law 147 = .ok (.iconst 0, 1) := by decide +kernel
theorem dL_law_148 : decode cL_law 148 = .ok (.ireturn, 1) := by decide +kernel
theorem dL_law_149 : decode cL_law 149 = .ok (.aload_n 1, 1) := by decide +kernel
theorem dL_law_150 : decode cL_law 150 = .ok (.invokevirtual 27, 3) := by decide +kernel
theorem dL_law_153 : decode cL_law 153 = .ok (.aload_n 2, 1) := by decide +kernel
theorem dL_law_154 : decode cL_law 154 = .ok (.invokevirtual 30, 3) := by decide +kernel
theorem dL_law_157 : decode cL_law 157 = .ok (.if_icmp .eq 253, 3) := by decide +kernel
theorem dL_law_160 : decode cL_law 160 = .ok (.iconst 0, 1) := by decide +kernel
theorem dL_law_161 : decode cL_law 161 = .ok (.ireturn, 1) := by decide +kernel
theorem dL_law_162 : decode cL_law 162 = .ok (.aload_n 1, 1) := by decide +kernel
theorem dL_law_163 : decode cL_law 163 = .ok (.aload_n 0, 1) := by decide +kernel
theorem dL_law_164 : decode cL_law 164 = .ok (.iload_n 3, 1) := by decide +kernel
theorem dL_law_165 : decode cL_law 165 = .ok (.iconst 1, 1) := by decide +kernel
theorem dL_law_166 : decode cL_law 166 = .ok (.iadd, 1) := by decide +kernel
theorem dL_law_167 : decode cL_law 167 = .ok (.iaload, 1) := by decide +kernel
theorem dL_law_168 : decode cL_law 168 = .ok (.aload_n 0, 1) := by decide +kernel
theorem dL_law_169 : decode cL_law 169 = .ok (.iload_n 3, 1) := by decide +kernel
theorem dL_law_170 : decode cL_law 170 = .ok (.iconst 2, 1) := by decide +kernel
theorem dL_law_171 : decode cL_law 171 = .ok (.iadd, 1) := by decide +kernel
theorem dL_law_172 : decode cL_law 172 = .ok (.iaload, 1) := by decide +kernel
theorem dL_law_173 : decode cL_law 173 = .ok (.invokevirtual 31, 3) := by decide +kernel
theorem dL_law_176 : decode cL_law 176 = .ok (.aload_n 2, 1) := by decide +kernel
theorem dL_law_177 : decode cL_law 177 = .ok (.aload_n 0, 1) := by decide +kernel
theorem dL_law_178 : decode cL_law 178 = .ok (.iload_n 3, 1) := by decide +kernel
theorem dL_law_179 : decode cL_law 179 = .ok (.iconst 1, 1) := by decide +kernel
theorem dL_law_180 : decode cL_law 180 = .ok (.iadd, 1) := by decide +kernel
theorem dL_law_181 : decode cL_law 181 = .ok (.iaload, 1) := by decide +kernel
theorem dL_law_182 : decode cL_law 182 = .ok (.aload_n 0, 1) := by decide +kernel
theorem dL_law_183 : decode cL_law 183 = .ok (.iload_n 3, 1) := by decide +kernel
theorem dL_law_184 : decode cL_law 184 = .ok (.iconst 2, 1) := by decide +kernel
theorem dL_law_185 : decode cL_law 185 = .ok (.iadd, 1) := by decide +kernel
theorem dL_law_186 : decode cL_law 186 = .ok (.iaload, 1) := by decide +kernel
theorem dL_law_187 : decode cL_law 187 = .ok (.invokevirtual 35, 3) := by decide +kernel
theorem dL_law_190 : decode cL_law 190 = .ok (.if_icmp .eq 220, 3) := by decide +kernel
theorem dL_law_193 : decode cL_law 193 = .ok (.iconst 0, 1) := by decide +kernel
theorem dL_law_194 : decode cL_law 194 = .ok (.ireturn, 1) := by decide +kernel
theorem dL_law_195 : decode cL_law 195 = .ok (.aload_n 1, 1) := by decide +kernel
theorem dL_law_196 : decode cL_law 196 = .ok (.aload_n 0, 1) := by decide +kernel
theorem dL_law_197 : decode cL_law 197 = .ok (.iload_n 3, 1) := by decide +kernel
theorem dL_law_198 : decode cL_law 198 = .ok (.iconst 1, 1) := by decide +kernel
theorem dL_law_199 : decode cL_law 199 = .ok (.iadd, 1) := by decide +kernel
theorem dL_law_200 : decode cL_law 200 = .ok (.iaload, 1) := by decide +kernel
theorem dL_law_201 : decode cL_law 201 = .ok (.aload_n 0, 1) := by decide +kernel
theorem dL_law_202 : decode cL_law 202 = .ok (.iload_n 3, 1) := by decide +kernel
theorem dL_law_203 : decode cL_law 203 = .ok (.iconst 2, 1) := by decide +kernel
theorem dL_law_204 : decode cL_law 204 = .ok (.iadd, 1) := by decide +kernel
theorem dL_law_205 : decode cL_law 205 = .ok (.iaload, 1) := by decide +kernel
theorem dL_law_206 : decode cL_law 206 = .ok (.invokevirtual 36, 3) := by decide +kernel
theorem dL_law_209 : decode cL_law 209 = .ok (.aload_n 2, 1) := by decide +kernel
theorem dL_law_210 : decode cL_law 210 = .ok (.aload_n 0, 1) := by decide +kernel
theorem dL_law_211 : decode cL_law 211 = .ok (.iload_n 3, 1) := by decide +kernel
theorem dL_law_212 : decode cL_law 212 = .ok (.iconst 1, 1) := by decide +kernel
theorem dL_law_213 : decode cL_law 213 = .ok (.iadd, 1) := by decide +kernel
theorem dL_law_214 : decode cL_law 214 = .ok (.iaload, 1) := by decide +kernel
theorem dL_law_215 : decode cL_law 215 = .ok (.aload_n 0, 1) := by decide +kernel
theorem dL_law_216 : decode cL_law 216 = .ok (.iload_n 3, 1) := by decide +kernel
theorem dL_law_217 : decode cL_law 217 = .ok (.iconst 2, 1) := by decide +kernel
theorem dL_law_218 : decode cL_law 218 = .ok (.iadd, 1) := by decide +kernel
theorem dL_law_219 : decode cL_law 219 = .ok (.iaload, 1) := by decide +kernel
theorem dL_law_220 : decode cL_law 220 = .ok (.invokevirtual 39, 3) := by decide +kernel
theorem dL_law_223 : decode cL_law 223 = .ok (.if_icmp .eq 187, 3) := by decide +kernel
theorem dL_law_226 : decode cL_law 226 = .ok (.iconst 0, 1) := by decide +kernel
theorem dL_law_227 : decode cL_law 227 = .ok (.ireturn, 1) := by decide +kernel
theorem dL_law_228 : decode cL_law 228 = .ok (.aload_n 1, 1) := by decide +kernel
theorem dL_law_229 : decode cL_law 229 = .ok (.aload_n 0, 1) := by decide +kernel
theorem dL_law_230 : decode cL_law 230 = .ok (.iload_n 3, 1) := by decide +kernel
theorem dL_law_231 : decode cL_law 231 = .ok (.iconst 1, 1) := by decide +kernel
theorem dL_law_232 : decode cL_law 232 = .ok (.iadd, 1) := by decide +kernel
theorem dL_law_233 : decode cL_law 233 = .ok (.iaload, 1) := by decide +kernel
theorem dL_law_234 : decode cL_law 234 = .ok (.aload_n 0, 1) := by decide +kernel
theorem dL_law_235 : decode cL_law 235 = .ok (.iload_n 3, 1) := by decide +kernel
theorem dL_law_236 : decode cL_law 236 = .ok (.iconst 2, 1) := by decide +kernel
theorem dL_law_237 : decode cL_law 237 = .ok (.iadd, 1) := by decide +kernel
theorem dL_law_238 : decode cL_law 238 = .ok (.iaload, 1) := by decide +kernel
theorem dL_law_239 : decode cL_law 239 = .ok (.invokevirtual 40, 3) := by decide +kernel
theorem dL_law_242 : decode cL_law 242 = .ok (.aload_n 2, 1) := by decide +kernel
theorem dL_law_243 : decode cL_law 243 = .ok (.aload_n 0, 1) := by decide +kernel
theorem dL_law_244 : decode cL_law 244 = .ok (.iload_n 3, 1) := by decide +kernel
theorem dL_law_245 : decode cL_law 245 = .ok (.iconst 1, 1) := by decide +kernel
theorem dL_law_246 : decode cL_law 246 = .ok (.iadd, 1) := by decide +kernel
theorem dL_law_247 : decode cL_law 247 = .ok (.iaload, 1) := by decide +kernel
theorem dL_law_248 : decode cL_law 248 = .ok (.aload_n 0, 1) := by decide +kernel
theorem dL_law_249 : decode cL_law 249 = .ok (.iload_n 3, 1) := by decide +kernel
theorem dL_law_250 : decode cL_law 250 = .ok (.iconst 2, 1) := by decide +kernel
theorem dL_law_251 : decode cL_law 251 = .ok (.iadd, 1) := by decide +kernel
theorem dL_law_252 : decode cL_law 252 = .ok (.iaload, 1) := by decide +kernel
theorem dL_law_253 : decode cL_law 253 = .ok (.invokevirtual 43, 3) := by decide +kernel
theorem dL_law_256 : decode cL_law 256 = .ok (.if_icmp .eq 154, 3) := by decide +kernel
theorem dL_law_259 : decode cL_law 259 = .ok (.iconst 0, 1) := by decide +kernel
theorem dL_law_260 : decode cL_law 260 = .ok (.ireturn, 1) := by decide +kernel
theorem dL_law_261 : decode cL_law 261 = .ok (.aload_n 1, 1) := by decide +kernel
theorem dL_law_262 : decode cL_law 262 = .ok (.aload_n 0, 1) := by decide +kernel
theorem dL_law_263 : decode cL_law 263 = .ok (.iload_n 3, 1) := by decide +kernel
theorem dL_law_264 : decode cL_law 264 = .ok (.iconst 1, 1) := by decide +kernel
theorem dL_law_265 : decode cL_law 265 = .ok (.iadd, 1) := by decide +kernel
theorem dL_law_266 : decode cL_law 266 = .ok (.iaload, 1) := by decide +kernel
theorem dL_law_267 : decode cL_law 267 = .ok (.aload_n 0, 1) := by decide +kernel
theorem dL_law_268 : decode cL_law 268 = .ok (.iload_n 3, 1) := by decide +kernel
theorem dL_law_269 : decode cL_law 269 = .ok (.iconst 2, 1) := by decide +kernel
theorem dL_law_270 : decode cL_law 270 = .ok (.iadd, 1) := by decide +kernel
theorem dL_law_271 : decode cL_law 271 = .ok (.iaload, 1) := by decide +kernel
theorem dL_law_272 : decode cL_law 272 = .ok (.invokevirtual 44, 3) := by decide +kernel
theorem dL_law_275 : decode cL_law 275 = .ok (.aload_n 2, 1) := by decide +kernel
theorem dL_law_276 : decode cL_law 276 = .ok (.aload_n 0, 1) := by decide +kernel
theorem dL_law_277 : decode cL_law 277 = .ok (.iload_n 3, 1) := by decide +kernel
theorem dL_law_278 : decode cL_law 278 = .ok (.iconst 1, 1) := by decide +kernel
theorem dL_law_279 : decode cL_law 279 = .ok (.iadd, 1) := by decide +kernel
theorem dL_law_280 : decode cL_law 280 = .ok (.iaload, 1) := by decide +kernel
theorem dL_law_281 : decode cL_law 281 = .ok (.aload_n 0, 1) := by decide +kernel
theorem dL_law_282 : decode cL_law 282 = .ok (.iload_n 3, 1) := by decide +kernel
theorem dL_law_283 : decode cL_law 283 = .ok (.iconst 2, 1) := by decide +kernel
theorem dL_law_284 : decode cL_law 284 = .ok (.iadd, 1) := by decide +kernel
theorem dL_law_285 : decode cL_law 285 = .ok (.iaload, 1) := by decide +kernel
theorem dL_law_286 : decode cL_law 286 = .ok (.invokevirtual 47, 3) := by decide +kernel
theorem dL_law_289 : decode cL_law 289 = .ok (.if_icmp .eq 121, 3) := by decide +kernel
theorem dL_law_292 : decode cL_law 292 = .ok (.iconst 0, 1) := by decide +kernel
theorem dL_law_293 : decode cL_law 293 = .ok (.ireturn, 1) := by decide +kernel
theorem dL_law_294 : decode cL_law 294 = .ok (.aload_n 1, 1) := by decide +kernel
theorem dL_law_295 : decode cL_law 295 = .ok (.aload_n 0, 1) := by decide +kernel
theorem dL_law_296 : decode cL_law 296 = .ok (.iload_n 3, 1) := by decide +kernel
theorem dL_law_297 : decode cL_law 297 = .ok (.iconst 1, 1) := by decide +kernel
theorem dL_law_298 : decode cL_law 298 = .ok (.iadd, 1) := by decide +kernel
theorem dL_law_299 : decode cL_law 299 = .ok (.iaload, 1) := by decide +kernel
theorem dL_law_300 : decode cL_law 300 = .ok (.aload_n 0, 1) := by decide +kernel
theorem dL_law_301 : decode cL_law 301 = .ok (.iload_n 3, 1) := by decide +kernel
theorem dL_law_302 : decode cL_law 302 = .ok (.iconst 2, 1) := by decide +kernel
theorem dL_law_303 : decode cL_law 303 = .ok (.iadd, 1) := by decide +kernel
theorem dL_law_304 : decode cL_law 304 = .ok (.iaload, 1) := by decide +kernel
theorem dL_law_305 : decode cL_law 305 = .ok (.invokevirtual 48, 3) := by decide +kernel
theorem dL_law_308 : decode cL_law 308 = .ok (.aload_n 2, 1) := by decide +kernel
theorem dL_law_309 : decode cL_law 309 = .ok (.aload_n 0, 1) := by decide +kernel
theorem dL_law_310 : decode cL_law 310 = .ok (.iload_n 3, 1) := by decide +kernel
theorem dL_law_311 : decode cL_law 311 = .ok (.iconst 1, 1) := by decide +kernel
theorem dL_law_312 : decode cL_law 312 = .ok (.iadd, 1) := by decide +kernel
theorem dL_law_313 : decode cL_law 313 = .ok (.iaload, 1) := by decide +kernel
theorem dL_law_314 : decode cL_law 314 = .ok (.aload_n 0, 1) := by decide +kernel
theorem dL_law_315 : decode cL_law 315 = .ok (.iload_n 3, 1) := by decide +kernel
theorem dL_law_316 : decode cL_law 316 = .ok (.iconst 2, 1) := by decide +kernel
theorem dL_law_317 : decode cL_law 317 = .ok (.iadd, 1) := by decide +kernel
theorem dL_law_318 : decode cL_law 318 = .ok (.iaload, 1) := by decide +kernel
theorem dL_law_319 : decode cL_law 319 = .ok (.invokevirtual 51, 3) := by decide +kernel
theorem dL_law_322 : decode cL_law 322 = .ok (.if_icmp .eq 88, 3) := by decide +kernel
theorem dL_law_325 : decode cL_law 325 = .ok (.iconst 0, 1) := by decide +kernel
theorem dL_law_326 : decode cL_law 326 = .ok (.ireturn, 1) := by decide +kernel
theorem dL_law_327 : decode cL_law 327 = .ok (.aload_n 1, 1) := by decide +kernel
theorem dL_law_328 : decode cL_law 328 = .ok (.aload_n 0, 1) := by decide +kernel
theorem dL_law_329 : decode cL_law 329 = .ok (.iload_n 3, 1) := by decide +kernel
theorem dL_law_330 : decode cL_law 330 = .ok (.iconst 1, 1) := by decide +kernel
theorem dL_law_331 : decode cL_law 331 = .ok (.iadd, 1) := by decide +kernel
theorem dL_law_332 : decode cL_law 332 = .ok (.iaload, 1) := by decide +kernel
theorem dL_law_333 : decode cL_law 333 = .ok (.invokevirtual 52, 3) := by decide +kernel
theorem dL_law_336 : decode cL_law 336 = .ok (.aload_n 2, 1) := by decide +kernel
theorem dL_law_337 : decode cL_law 337 = .ok (.aload_n 0, 1) := by decide +kernel
theorem dL_law_338 : decode cL_law 338 = .ok (.iload_n 3, 1) := by decide +kernel
theorem dL_law_339 : decode cL_law 339 = .ok (.iconst 1, 1) := by decide +kernel
theorem dL_law_340 : decode cL_law 340 = .ok (.iadd, 1) := by decide +kernel
theorem dL_law_341 : decode cL_law 341 = .ok (.iaload, 1) := by decide +kernel
theorem dL_law_342 : decode cL_law 342 = .ok (.invokevirtual 55, 3) := by decide +kernel
theorem dL_law_345 : decode cL_law 345 = .ok (.if_icmp .eq 65, 3) := by decide +kernel
theorem dL_law_348 : decode cL_law 348 = .ok (.iconst 0, 1) := by decide +kernel
theorem dL_law_349 : decode cL_law 349 = .ok (.ireturn, 1) := by decide +kernel
theorem dL_law_350 : decode cL_law 350 = .ok (.aload_n 1, 1) := by decide +kernel
theorem dL_law_351 : decode cL_law 351 = .ok (.aload_n 0, 1) := by decide +kernel
theorem dL_law_352 : decode cL_law 352 = .ok (.iload_n 3, 1) := by decide +kernel
theorem dL_law_353 : decode cL_law 353 = .ok (.iconst 1, 1) := by decide +kernel
theorem dL_law_354 : decode cL_law 354 = .ok (.iadd, 1) := by decide +kernel
theorem dL_law_355 : decode cL_law 355 = .ok (.iaload, 1) := by decide +kernel
theorem dL_law_356 : decode cL_law 356 = .ok (.invokevirtual 56, 3) := by decide +kernel
theorem dL_law_359 : decode cL_law 359 = .ok (.aload_n 2, 1) := by decide +kernel
theorem dL_law_360 : decode cL_law 360 = .ok (.aload_n 0, 1) := by decide +kernel
theorem dL_law_361 : decode cL_law 361 = .ok (.iload_n 3, 1) := by decide +kernel
theorem dL_law_362 : decode cL_law 362 = .ok (.iconst 1, 1) := by decide +kernel
theorem dL_law_363 : decode cL_law 363 = .ok (.iadd, 1) := by decide +kernel
theorem dL_law_364 : decode cL_law 364 = .ok (.iaload, 1) := by decide +kernel
theorem dL_law_365 : decode cL_law 365 = .ok (.invokevirtual 59, 3) := by decide +kernel
theorem dL_law_368 : decode cL_law 368 = .ok (.if_icmp .eq 42, 3) := by decide +kernel
theorem dL_law_371 : decode cL_law 371 = .ok (.iconst 0, 1) := by decide +kernel
theorem dL_law_372 : decode cL_law 372 = .ok (.ireturn, 1) := by decide +kernel
theorem dL_law_373 : decode cL_law 373 = .ok (.aload_n 1, 1) := by decide +kernel
theorem dL_law_374 : decode cL_law 374 = .ok (.aload_n 0, 1) := by decide +kernel
theorem dL_law_375 : decode cL_law 375 = .ok (.iload_n 3, 1) := by decide +kernel
theorem dL_law_376 : decode cL_law 376 = .ok (.iconst 1, 1) := by decide +kernel
theorem dL_law_377 : decode cL_law 377 = .ok (.iadd, 1) := by decide +kernel
theorem dL_law_378 : decode cL_law 378 = .ok (.iaload, 1) := by decide +kernel
theorem dL_law_379 : decode cL_law 379 = .ok (.invokevirtual 60, 3) := by decide +kernel
theorem dL_law_382 : decode cL_law 382 = .ok (.aload_n 2, 1) := by decide +kernel
theorem dL_law_383 : decode cL_law 383 = .ok (.aload_n 0, 1) := by decide +kernel
theorem dL_law_384 : decode cL_law 384 = .ok (.iload_n 3, 1) := by decide +kernel
theorem dL_law_385 : decode cL_law 385 = .ok (.iconst 1, 1) := by decide +kernel
theorem dL_law_386 : decode cL_law 386 = .ok (.iadd, 1) := by decide +kernel
theorem dL_law_387 : decode cL_law 387 = .ok (.iaload, 1) := by decide +kernel
theorem dL_law_388 : decode cL_law 388 = .ok (.invokevirtual 63, 3) := by decide +kernel
theorem dL_law_391 : decode cL_law 391 = .ok (.if_icmp .eq 19, 3) := by decide +kernel
theorem dL_law_394 : decode cL_law 394 = .ok (.iconst 0, 1) := by decide +kernel
theorem dL_law_395 : decode cL_law 395 = .ok (.ireturn, 1) := by decide +kernel
theorem dL_law_396 : decode cL_law 396 = .ok (.aload_n 1, 1) := by decide +kernel
theorem dL_law_397 : decode cL_law 397 = .ok (.invokevirtual 64, 3) := by decide +kernel
theorem dL_law_400 : decode cL_law 400 = .ok (.aload_n 2, 1) := by decide +kernel
theorem dL_law_401 : decode cL_law 401 = .ok (.invokevirtual 68, 3) := by decide +kernel
theorem dL_law_404 : decode cL_law 404 = .ok (.lcmp, 1) := by decide +kernel
theorem dL_law_405 : decode cL_law 405 = .ok (.ifCond .eq 5, 3) := by decide +kernel
theorem dL_law_408 : decode cL_law 408 = .ok (.iconst 0, 1) := by decide +kernel
theorem dL_law_409 : decode cL_law 409 = .ok (.ireturn, 1) := by decide +kernel
theorem dL_law_410 : decode cL_law 410 = .ok (.iinc 3 3, 3) := by decide +kernel
theorem dL_law_413 : decode cL_law 413 = .ok (.goto (-395), 3) := by decide +kernel
theorem dL_law_416 : decode cL_law 416 = .ok (.iconst 1, 1) := by decide +kernel
theorem dL_law_417 : decode cL_law 417 = .ok (.ireturn, 1) := by decide +kernel
abbrev vwCl : List vw_C := [(RX0, TX0, 4), (RX1, TX1, 2), (RX2, TX2, 16), (RX3, TX3, 4), (RX4, TX4, 6), (RX5, TX5, 7), (RX6, TX6, 34)]
end
section
theorem ms_r {big : List Cond} (ws : List Cond) (ps : List Nat) (hp : ws = ps.filterMap (fun i => big[i]?)) : ∀ w ∈ ws, w ∈ big := by
  intro w hw
  rw [hp] at hw
  obtain ⟨i, -, hi⟩ := List.mem_filterMap.mp hw
  exact List.mem_of_getElem? hi
theorem ms_a {big a b : List Cond} (ha : ∀ w ∈ a, w ∈ big) (hb : ∀ w ∈ b, w ∈ big) : ∀ w ∈ a ++ b, w ∈ big := fun w h => (List.mem_append.mp h).elim (ha w) (hb w)
set_option maxRecDepth 20000 in
theorem wsL_law_r1_in : ∀ w ∈ wsL_law_r1, w ∈ lw_tbl := fun w h => ms_r wsL_law_r1 [71, 72, 63, 587, 588, 70, 73, 74, 75, 76, 77, 78, 79, 80, 64, 226, 93, 94, 65, 227, 132, 100, 66, 228] (by decide +kernel) w h
set_option maxRecDepth 20000 in
theorem wsL_law_r2_in : ∀ w ∈ wsL_law_r2, w ∈ lw_tbl := fun w h => ms_r wsL_law_r2 [92, 229, 134, 135, 67, 230, 82, 83, 84, 85, 96, 97, 98, 99, 118, 102, 103, 104, 105, 106, 136, 137, 138, 139] (by decide +kernel) w h
set_option maxRecDepth 20000 in
theorem wsL_law_r3_in : ∀ w ∈ wsL_law_r3, w ∈ lw_tbl := fun w h => ms_r wsL_law_r3 [140, 141, 68, 170, 172, 225, 174, 175, 176, 177, 178, 179, 188, 190, 168, 169, 142, 143, 144, 145, 152, 153, 146, 147] (by decide +kernel) w h
set_option maxRecDepth 20000 in
theorem wsL_law_r4_in : ∀ w ∈ wsL_law_r4, w ∈ lw_tbl := fun w h => ms_r wsL_law_r4 [69, 148, 149, 150, 151, 589, 590, 591, 592, 594, 596, 597, 600, 602, 603, 607, 609, 610, 612, 613, 614, 615, 616, 617] (by decide +kernel) w h
set_option maxRecDepth 20000 in
theorem wsL_law_r5_in : ∀ w ∈ wsL_law_r5, w ∈ lw_tbl := fun w h => ms_r wsL_law_r5 [618, 619, 623, 625, 248, 249, 250, 251, 252, 253, 254, 255, 86, 256, 257, 258, 259, 696, 697, 698, 699, 593, 700, 701] (by decide +kernel) w h
set_option maxRecDepth 20000 in
theorem wsL_law_r6_in : ∀ w ∈ wsL_law_r6, w ∈ lw_tbl := fun w h => ms_r wsL_law_r6 [702, 260, 261, 262, 263, 264, 265, 266, 267, 703, 704, 705, 706, 268, 269, 270, 271, 272, 273, 274, 275, 120, 121, 122] (by decide +kernel) w h
set_option maxRecDepth 20000 in
theorem wsL_law_r7_in : ∀ w ∈ wsL_law_r7, w ∈ lw_tbl := fun w h => ms_r wsL_law_r7 [276, 277, 278, 279, 107, 108, 280, 281, 282, 283, 284, 285, 287, 0, 288, 289, 290, 291, 292, 293, 294, 295, 296, 297] (by decide +kernel) w h
set_option maxRecDepth 20000 in
theorem wsL_law_r8_in : ∀ w ∈ wsL_law_r8, w ∈ lw_tbl := fun w h => ms_r wsL_law_r8 [298, 299, 300, 302, 1, 303, 304, 306, 2, 307, 707, 708, 709, 710, 711, 713, 28, 714, 601, 604, 605, 606, 715, 717] (by decide +kernel) w h
set_option maxRecDepth 20000 in
theorem wsL_law_r9_in : ∀ w ∈ wsL_law_r9, w ∈ lw_tbl := fun w h => ms_r wsL_law_r9 [29, 718, 719, 721, 30, 722, 723, 724, 725, 726, 728, 31, 729, 730, 732, 32, 733, 734, 736, 33, 737, 308, 309, 310] (by decide +kernel) w h
set_option maxRecDepth 20000 in
theorem wsL_law_r10_in : ∀ w ∈ wsL_law_r10, w ∈ lw_tbl := fun w h => ms_r wsL_law_r10 [311, 231, 312, 313, 314, 315, 316, 317, 318, 319, 320, 321, 322, 323, 324, 325, 326, 327, 328, 329, 330, 331, 332, 333] (by decide +kernel) w h
set_option maxRecDepth 20000 in
theorem wsL_law_r11_in : ∀ w ∈ wsL_law_r11, w ∈ lw_tbl := fun w h => ms_r wsL_law_r11 [334, 335, 336, 337, 338, 182, 339, 341, 3, 342, 180, 184, 186, 343, 344, 345, 346, 154, 347, 348, 350, 4, 351, 352] (by decide +kernel) w h
set_option maxRecDepth 20000 in
theorem wsL_law_r12_in : ∀ w ∈ wsL_law_r12, w ∈ lw_tbl := fun w h => ms_r wsL_law_r12 [353, 355, 5, 356, 357, 358, 359, 360, 361, 363, 364, 365, 367, 6, 368, 369, 371, 7, 372, 373, 374, 375, 376, 377] (by decide +kernel) w h
set_option maxRecDepth 20000 in
theorem wsL_law_r13_in : ∀ w ∈ wsL_law_r13, w ∈ lw_tbl := fun w h => ms_r wsL_law_r13 [378, 379, 380, 381, 382, 383, 384, 386, 8, 387, 388, 389, 390, 391, 392, 394, 9, 395, 396, 397, 398, 399, 400, 401] (by decide +kernel) w h
set_option maxRecDepth 20000 in
theorem wsL_law_r14_in : ∀ w ∈ wsL_law_r14, w ∈ lw_tbl := fun w h => ms_r wsL_law_r14 [402, 403, 404, 405, 406, 407, 408, 409, 410, 411, 412, 414, 10, 415, 416, 418, 11, 419, 420, 422, 12, 423, 424, 426] (by decide +kernel) w h
set_option maxRecDepth 20000 in
theorem wsL_law_r15_in : ∀ w ∈ wsL_law_r15, w ∈ lw_tbl := fun w h => ms_r wsL_law_r15 [13, 427, 429, 430, 431, 433, 14, 434, 435, 437, 15, 438, 439, 441, 16, 442, 443, 445, 17, 446, 447, 449, 18, 450] (by decide +kernel) w h
set_option maxRecDepth 20000 in
theorem wsL_law_r16_in : ∀ w ∈ wsL_law_r16, w ∈ lw_tbl := fun w h => ms_r wsL_law_r16 [451, 452, 453, 454, 455, 457, 19, 458, 459, 461, 20, 462, 463, 465, 21, 466, 467, 468, 469, 470, 471, 472, 473, 474] (by decide +kernel) w h
set_option maxRecDepth 20000 in
theorem wsL_law_r17_in : ∀ w ∈ wsL_law_r17, w ∈ lw_tbl := fun w h => ms_r wsL_law_r17 [475, 477, 22, 478, 479, 481, 23, 482, 483, 485, 24, 486, 487, 488, 489, 490, 491, 738, 739, 740, 741, 595, 598, 742] (by decide +kernel) w h
set_option maxRecDepth 20000 in
theorem wsL_law_r18_in : ∀ w ∈ wsL_law_r18, w ∈ lw_tbl := fun w h => ms_r wsL_law_r18 [744, 34, 745, 608, 611, 622, 624, 746, 748, 35, 749, 621, 620, 750, 752, 36, 753, 754, 755, 756, 757, 759, 37, 760] (by decide +kernel) w h
set_option maxRecDepth 20000 in
theorem wsL_law_r19_in : ∀ w ∈ wsL_law_r19, w ∈ lw_tbl := fun w h => ms_r wsL_law_r19 [761, 763, 38, 764, 765, 767, 39, 768, 769, 771, 40, 772, 773, 775, 41, 776, 777, 779, 42, 780, 781, 783, 43, 784] (by decide +kernel) w h
set_option maxRecDepth 20000 in
theorem wsL_law_r20_in : ∀ w ∈ wsL_law_r20, w ∈ lw_tbl := fun w h => ms_r wsL_law_r20 [785, 786, 787, 788, 790, 44, 791, 792, 793, 795, 45, 796, 797, 799, 46, 800, 801, 803, 47, 804, 805, 807, 48, 808] (by decide +kernel) w h
set_option maxRecDepth 20000 in
theorem wsL_law_r21_in : ∀ w ∈ wsL_law_r21, w ∈ lw_tbl := fun w h => ms_r wsL_law_r21 [809, 811, 49, 812, 813, 815, 50, 816, 492, 493, 494, 495, 496, 498, 232, 817, 818, 819, 820, 599, 500, 501, 502, 503] (by decide +kernel) w h
set_option maxRecDepth 20000 in
theorem wsL_law_r22_in : ∀ w ∈ wsL_law_r22, w ∈ lw_tbl := fun w h => ms_r wsL_law_r22 [504, 505, 506, 507, 508, 509, 510, 821, 822, 823, 824, 825, 827, 51, 828, 511, 512, 513, 514, 515, 516, 517, 518, 519] (by decide +kernel) w h
set_option maxRecDepth 20000 in
theorem wsL_law_r23_in : ∀ w ∈ wsL_law_r23, w ∈ lw_tbl := fun w h => ms_r wsL_law_r23 [520, 521, 829, 830, 831, 832, 833, 835, 52, 836, 522, 523, 524, 525, 526, 527, 528, 529, 530, 531, 532, 533, 837, 838] (by decide +kernel) w h
set_option maxRecDepth 20000 in
theorem wsL_law_r24_in : ∀ w ∈ wsL_law_r24, w ∈ lw_tbl := fun w h => ms_r wsL_law_r24 [839, 840, 841, 843, 53, 844, 534, 535, 536, 537, 538, 539, 540, 541, 845, 846, 847, 848, 849, 851, 54, 852, 853, 855] (by decide +kernel) w h
set_option maxRecDepth 20000 in
theorem wsL_law_r25_in : ∀ w ∈ wsL_law_r25, w ∈ lw_tbl := fun w h => ms_r wsL_law_r25 [55, 856, 542, 543, 544, 545, 546, 547, 548, 549, 857, 858, 859, 860, 861, 863, 56, 864, 550, 551, 552, 553, 554, 865] (by decide +kernel) w h
set_option maxRecDepth 20000 in
theorem wsL_law_r26_in : ∀ w ∈ wsL_law_r26, w ∈ lw_tbl := fun w h => ms_r wsL_law_r26 [866, 867, 868, 869, 871, 57, 872, 873, 875, 58, 876, 555, 556, 557, 558, 559, 560, 561, 562, 877, 878, 879, 880, 881] (by decide +kernel) w h
set_option maxRecDepth 20000 in
theorem wsL_law_r27_in : ∀ w ∈ wsL_law_r27, w ∈ lw_tbl := fun w h => ms_r wsL_law_r27 [883, 59, 884, 885, 887, 60, 888, 563, 564, 565, 566, 567, 572, 568, 570, 25, 571, 573, 574, 576, 26, 577, 578, 579] (by decide +kernel) w h
set_option maxRecDepth 20000 in
theorem wsL_law_r28_in : ∀ w ∈ wsL_law_r28, w ∈ lw_tbl := fun w h => ms_r wsL_law_r28 [581, 27, 582, 583, 584, 585, 586, 889, 890, 891, 892, 893, 626, 894, 896, 61, 897, 898] (by decide +kernel) w h
set_option maxRecDepth 20000 in
theorem layX5_in : ∀ w ∈ wsX50, w ∈ lw_tbl := fun w h => ms_r wsX50 [233, 235, 237, 239, 241, 243, 245] (by decide +kernel) w h
set_option maxRecDepth 20000 in
theorem layX6_in : ∀ w ∈ wsX60, w ∈ lw_tbl := fun w h => ms_r wsX60 [627, 629, 631, 633, 635, 637, 639, 641, 643, 645, 647, 649, 651, 653, 655, 657, 659, 661, 663, 665, 667, 669, 671, 673, 675, 677, 679, 681, 683, 685, 687, 689, 691, 693] (by decide +kernel) w h
set_option maxRecDepth 20000 in
theorem layX1_in : ∀ w ∈ wsX10, w ∈ lw_tbl := fun w h => ms_r wsX10 [87, 89] (by decide +kernel) w h
set_option maxRecDepth 20000 in
theorem layX3_in : ∀ w ∈ wsX30, w ∈ lw_tbl := fun w h => ms_r wsX30 [123, 125, 127, 129] (by decide +kernel) w h
set_option maxRecDepth 20000 in
theorem layX0_in : ∀ w ∈ wsX00, w ∈ lw_tbl := fun w h => ms_r wsX00 [109, 111, 113, 115] (by decide +kernel) w h
set_option maxRecDepth 20000 in
theorem layX2_in : ∀ w ∈ wsX20, w ∈ lw_tbl := fun w h => ms_r wsX20 [192, 194, 196, 198, 200, 202, 204, 206, 208, 210, 212, 214, 216, 218, 220, 222] (by decide +kernel) w h
set_option maxRecDepth 20000 in
theorem layX4_in : ∀ w ∈ wsX40, w ∈ lw_tbl := fun w h => ms_r wsX40 [155, 157, 159, 161, 163, 165] (by decide +kernel) w h
theorem wsL_law_in : ∀ w ∈ wsL_law, w ∈ lw_tbl := ms_a (ms_a (ms_a (ms_a (ms_a (ms_a (ms_a (ms_a (ms_a wsL_law_r1_in (ms_a wsL_law_r2_in (ms_a wsL_law_r3_in (ms_a wsL_law_r4_in (ms_a wsL_law_r5_in (ms_a wsL_law_r6_in (ms_a wsL_law_r7_in (ms_a wsL_law_r8_in (ms_a wsL_law_r9_in (ms_a wsL_law_r10_in (ms_a wsL_law_r11_in (ms_a wsL_law_r12_in (ms_a wsL_law_r13_in (ms_a wsL_law_r14_in (ms_a wsL_law_r15_in (ms_a wsL_law_r16_in (ms_a wsL_law_r17_in (ms_a wsL_law_r18_in (ms_a wsL_law_r19_in (ms_a wsL_law_r20_in (ms_a wsL_law_r21_in (ms_a wsL_law_r22_in (ms_a wsL_law_r23_in (ms_a wsL_law_r24_in (ms_a wsL_law_r25_in (ms_a wsL_law_r26_in (ms_a wsL_law_r27_in (wsL_law_r28_in)))))))))))))))))))))))))))) layX5_in) layX6_in) layX1_in) layX3_in) layX0_in) layX2_in) layX4_in) (fun _ h => absurd h List.not_mem_nil)
theorem inlX0 : ∀ w ∈ wsX00, w ∈ wsL_law := fun _ h => List.mem_append_left _ (List.mem_append_left _ (List.mem_append_left _ (List.mem_append_right _ h)))
theorem inX0 : ∀ w ∈ wsX00, w ∈ lw_tbl := fun w h => wsL_law_in w (inlX0 w h)
theorem inlX1 : ∀ w ∈ wsX10, w ∈ wsL_law := fun _ h => List.mem_append_left _ (List.mem_append_left _ (List.mem_append_left _ (List.mem_append_left _ (List.mem_append_left _ (List.mem_append_right _ h)))))
theorem inX1 : ∀ w ∈ wsX10, w ∈ lw_tbl := fun w h => wsL_law_in w (inlX1 w h)
theorem inlX2 : ∀ w ∈ wsX20, w ∈ wsL_law := fun _ h => List.mem_append_left _ (List.mem_append_left _ (List.mem_append_right _ h))
theorem inX2 : ∀ w ∈ wsX20, w ∈ lw_tbl := fun w h => wsL_law_in w (inlX2 w h)
theorem inlX3 : ∀ w ∈ wsX30, w ∈ wsL_law := fun _ h => List.mem_append_left _ (List.mem_append_left _ (List.mem_append_left _ (List.mem_append_left _ (List.mem_append_right _ h))))
theorem inX3 : ∀ w ∈ wsX30, w ∈ lw_tbl := fun w h => wsL_law_in w (inlX3 w h)
theorem inlX4 : ∀ w ∈ wsX40, w ∈ wsL_law := fun _ h => List.mem_append_left _ (List.mem_append_right _ h)
theorem inX4 : ∀ w ∈ wsX40, w ∈ lw_tbl := fun w h => wsL_law_in w (inlX4 w h)
theorem inlX5 : ∀ w ∈ wsX50, w ∈ wsL_law := fun _ h => List.mem_append_left _ (List.mem_append_left _ (List.mem_append_left _ (List.mem_append_left _ (List.mem_append_left _ (List.mem_append_left _ (List.mem_append_left _ (List.mem_append_right _ h)))))))
theorem inX5 : ∀ w ∈ wsX50, w ∈ lw_tbl := fun w h => wsL_law_in w (inlX5 w h)
theorem inlX6 : ∀ w ∈ wsX60, w ∈ wsL_law := fun _ h => List.mem_append_left _ (List.mem_append_left _ (List.mem_append_left _ (List.mem_append_left _ (List.mem_append_left _ (List.mem_append_left _ (List.mem_append_right _ h))))))
theorem inX6 : ∀ w ∈ wsX60, w ∈ lw_tbl := fun w h => wsL_law_in w (inlX6 w h)
theorem inJ9 : ∀ w ∈ wsJ90, w ∈ lw_tbl := by decide +kernel
end
section
theorem zz_ok : True := trivial
end
