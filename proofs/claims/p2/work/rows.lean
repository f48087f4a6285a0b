section
-- ===== PART A: goes FIRST, ahead of the names: the tables' words, and 'selects' of the private methods out of them =====
/-- a private method of a class that the tables say can be made, by its rows of tables_1 -/
def lw_okq (q : MethodName × Nat) : Prop := (q.1.cls ≠ "java/lang/invoke/MethodHandle" ∧ q.1.cls ≠ "java/lang/invoke/VarHandle") ∧ Cond.instantiable q.1.cls q.2 ∈ tables_1 ∧ Cond.privateMethod q.1 ∈ tables_1 ∧ Cond.instanceMethod q.1 ∈ tables_1
theorem lw_p0 : lw_okq (⟨"Transversary", "partsOf", "(I)LTransversary$Sets;"⟩, 15) := ⟨⟨by decide +kernel, by decide +kernel⟩, List.mem_of_getElem? (i := 40) (by decide +kernel), List.mem_of_getElem? (i := 343) (by decide +kernel), List.mem_of_getElem? (i := 344) (by decide +kernel)⟩
theorem lw_p1 : lw_okq (⟨"Transversary", "familyOf", "(I)LTransversary$Sets;"⟩, 15) := ⟨⟨by decide +kernel, by decide +kernel⟩, List.mem_of_getElem? (i := 40) (by decide +kernel), List.mem_of_getElem? (i := 347) (by decide +kernel), List.mem_of_getElem? (i := 348) (by decide +kernel)⟩
theorem lw_p2 : lw_okq (⟨"java/lang/Throwable", "fillInStackTrace", "(I)Ljava/lang/Throwable;"⟩, 6) := ⟨⟨by decide +kernel, by decide +kernel⟩, List.mem_of_getElem? (i := 389) (by decide +kernel), List.mem_of_getElem? (i := 387) (by decide +kernel), List.mem_of_getElem? (i := 388) (by decide +kernel)⟩
theorem lw_p3 : lw_okq (⟨"Transversary", "isSoundFamily", "(LTransversary$Sets;)Z"⟩, 15) := ⟨⟨by decide +kernel, by decide +kernel⟩, List.mem_of_getElem? (i := 40) (by decide +kernel), List.mem_of_getElem? (i := 443) (by decide +kernel), List.mem_of_getElem? (i := 444) (by decide +kernel)⟩
theorem lw_p4 : lw_okq (⟨"Transversary$Covers", "hasSmallerCover", "(I)Z"⟩, 5) := ⟨⟨by decide +kernel, by decide +kernel⟩, List.mem_of_getElem? (i := 83) (by decide +kernel), List.mem_of_getElem? (i := 473) (by decide +kernel), List.mem_of_getElem? (i := 474) (by decide +kernel)⟩
theorem lw_p5 : lw_okq (⟨"Transversary$Price", "lay", "(LTransversary$Sets;LTransversary$Points;)V"⟩, 5) := ⟨⟨by decide +kernel, by decide +kernel⟩, List.mem_of_getElem? (i := 107) (by decide +kernel), List.mem_of_getElem? (i := 536) (by decide +kernel), List.mem_of_getElem? (i := 537) (by decide +kernel)⟩
theorem lw_p6 : lw_okq (⟨"Transversary$Price", "climb", "()V"⟩, 5) := ⟨⟨by decide +kernel, by decide +kernel⟩, List.mem_of_getElem? (i := 107) (by decide +kernel), List.mem_of_getElem? (i := 550) (by decide +kernel), List.mem_of_getElem? (i := 551) (by decide +kernel)⟩
theorem lw_p7 : lw_okq (⟨"Transversary$Price", "entering", "()I"⟩, 5) := ⟨⟨by decide +kernel, by decide +kernel⟩, List.mem_of_getElem? (i := 107) (by decide +kernel), List.mem_of_getElem? (i := 555) (by decide +kernel), List.mem_of_getElem? (i := 556) (by decide +kernel)⟩
theorem lw_p8 : lw_okq (⟨"Transversary$Price", "leaving", "(I)I"⟩, 5) := ⟨⟨by decide +kernel, by decide +kernel⟩, List.mem_of_getElem? (i := 107) (by decide +kernel), List.mem_of_getElem? (i := 559) (by decide +kernel), List.mem_of_getElem? (i := 560) (by decide +kernel)⟩
theorem lw_p9 : lw_okq (⟨"Transversary$Price", "isTighter", "(III)Z"⟩, 5) := ⟨⟨by decide +kernel, by decide +kernel⟩, List.mem_of_getElem? (i := 107) (by decide +kernel), List.mem_of_getElem? (i := 563) (by decide +kernel), List.mem_of_getElem? (i := 564) (by decide +kernel)⟩
theorem lw_p10 : lw_okq (⟨"Transversary$Price", "pivot", "(II)V"⟩, 5) := ⟨⟨by decide +kernel, by decide +kernel⟩, List.mem_of_getElem? (i := 107) (by decide +kernel), List.mem_of_getElem? (i := 567) (by decide +kernel), List.mem_of_getElem? (i := 568) (by decide +kernel)⟩
theorem lw_p11 : lw_okq (⟨"Transversary$Covers", "packOne", "(LTransversary$Sets;I)I"⟩, 5) := ⟨⟨by decide +kernel, by decide +kernel⟩, List.mem_of_getElem? (i := 83) (by decide +kernel), List.mem_of_getElem? (i := 586) (by decide +kernel), List.mem_of_getElem? (i := 587) (by decide +kernel)⟩
theorem lw_p12 : lw_okq (⟨"Transversary", "digestOfCovers", "(JILTransversary$Sets;)J"⟩, 15) := ⟨⟨by decide +kernel, by decide +kernel⟩, List.mem_of_getElem? (i := 40) (by decide +kernel), List.mem_of_getElem? (i := 630) (by decide +kernel), List.mem_of_getElem? (i := 631) (by decide +kernel)⟩
theorem lw_p13 : lw_okq (⟨"Transversary", "tellOfFamily", "(ILTransversary$Sets;I)I"⟩, 15) := ⟨⟨by decide +kernel, by decide +kernel⟩, List.mem_of_getElem? (i := 40) (by decide +kernel), List.mem_of_getElem? (i := 634) (by decide +kernel), List.mem_of_getElem? (i := 635) (by decide +kernel)⟩
theorem lw_p14 : lw_okq (⟨"Transversary", "tellCover", "(LTransversary$Sets;I)I"⟩, 15) := ⟨⟨by decide +kernel, by decide +kernel⟩, List.mem_of_getElem? (i := 40) (by decide +kernel), List.mem_of_getElem? (i := 676) (by decide +kernel), List.mem_of_getElem? (i := 677) (by decide +kernel)⟩
theorem lw_p15 : lw_okq (⟨"Transversary$Rings", "findNeighbours", "(LTransversary$Sets;I)V"⟩, 5) := ⟨⟨by decide +kernel, by decide +kernel⟩, List.mem_of_getElem? (i := 132) (by decide +kernel), List.mem_of_getElem? (i := 702) (by decide +kernel), List.mem_of_getElem? (i := 703) (by decide +kernel)⟩
def lw_privs_1 : List (MethodName × Nat) := [(⟨"Transversary", "partsOf", "(I)LTransversary$Sets;"⟩, 15), (⟨"Transversary", "familyOf", "(I)LTransversary$Sets;"⟩, 15), (⟨"java/lang/Throwable", "fillInStackTrace", "(I)Ljava/lang/Throwable;"⟩, 6), (⟨"Transversary", "isSoundFamily", "(LTransversary$Sets;)Z"⟩, 15), (⟨"Transversary$Covers", "hasSmallerCover", "(I)Z"⟩, 5), (⟨"Transversary$Price", "lay", "(LTransversary$Sets;LTransversary$Points;)V"⟩, 5), (⟨"Transversary$Price", "climb", "()V"⟩, 5), (⟨"Transversary$Price", "entering", "()I"⟩, 5), (⟨"Transversary$Price", "leaving", "(I)I"⟩, 5), (⟨"Transversary$Price", "isTighter", "(III)Z"⟩, 5), (⟨"Transversary$Price", "pivot", "(II)V"⟩, 5), (⟨"Transversary$Covers", "packOne", "(LTransversary$Sets;I)I"⟩, 5), (⟨"Transversary", "digestOfCovers", "(JILTransversary$Sets;)J"⟩, 15), (⟨"Transversary", "tellOfFamily", "(ILTransversary$Sets;I)I"⟩, 15), (⟨"Transversary", "tellCover", "(LTransversary$Sets;I)I"⟩, 15), (⟨"Transversary$Rings", "findNeighbours", "(LTransversary$Sets;I)V"⟩, 5)]
theorem lw_r1 : ∀ q ∈ lw_privs_1, lw_okq q := List.forall_mem_cons.mpr ⟨lw_p0, List.forall_mem_cons.mpr ⟨lw_p1, List.forall_mem_cons.mpr ⟨lw_p2, List.forall_mem_cons.mpr ⟨lw_p3, List.forall_mem_cons.mpr ⟨lw_p4, List.forall_mem_cons.mpr ⟨lw_p5, List.forall_mem_cons.mpr ⟨lw_p6, List.forall_mem_cons.mpr ⟨lw_p7, List.forall_mem_cons.mpr ⟨lw_p8, List.forall_mem_cons.mpr ⟨lw_p9, List.forall_mem_cons.mpr ⟨lw_p10, List.forall_mem_cons.mpr ⟨lw_p11, List.forall_mem_cons.mpr ⟨lw_p12, List.forall_mem_cons.mpr ⟨lw_p13, List.forall_mem_cons.mpr ⟨lw_p14, List.forall_mem_cons.mpr ⟨lw_p15, fun _ h => absurd h List.not_mem_nil⟩⟩⟩⟩⟩⟩⟩⟩⟩⟩⟩⟩⟩⟩⟩⟩
theorem lw_p16 : lw_okq (⟨"Transversary$Rings", "hasRoundTrip", "(I)Z"⟩, 5) := ⟨⟨by decide +kernel, by decide +kernel⟩, List.mem_of_getElem? (i := 132) (by decide +kernel), List.mem_of_getElem? (i := 708) (by decide +kernel), List.mem_of_getElem? (i := 709) (by decide +kernel)⟩
theorem lw_p17 : lw_okq (⟨"Transversary$Rings", "endsOf", "(II)I"⟩, 5) := ⟨⟨by decide +kernel, by decide +kernel⟩, List.mem_of_getElem? (i := 132) (by decide +kernel), List.mem_of_getElem? (i := 713) (by decide +kernel), List.mem_of_getElem? (i := 714) (by decide +kernel)⟩
theorem lw_p18 : lw_okq (⟨"Transversary$Rings", "neighboursOf", "(I)I"⟩, 5) := ⟨⟨by decide +kernel, by decide +kernel⟩, List.mem_of_getElem? (i := 132) (by decide +kernel), List.mem_of_getElem? (i := 717) (by decide +kernel), List.mem_of_getElem? (i := 718) (by decide +kernel)⟩
theorem lw_p19 : lw_okq (⟨"Transversary", "digestOfColours", "(JLTransversary$Sets;)J"⟩, 15) := ⟨⟨by decide +kernel, by decide +kernel⟩, List.mem_of_getElem? (i := 40) (by decide +kernel), List.mem_of_getElem? (i := 725) (by decide +kernel), List.mem_of_getElem? (i := 726) (by decide +kernel)⟩
theorem lw_p20 : lw_okq (⟨"Transversary$Samples", "petalsAbove", "(ILTransversary$Sets;II)I"⟩, 5) := ⟨⟨by decide +kernel, by decide +kernel⟩, List.mem_of_getElem? (i := 154) (by decide +kernel), List.mem_of_getElem? (i := 734) (by decide +kernel), List.mem_of_getElem? (i := 735) (by decide +kernel)⟩
theorem lw_p21 : lw_okq (⟨"Transversary$Samples", "isShattered", "(LTransversary$Sets;I)Z"⟩, 5) := ⟨⟨by decide +kernel, by decide +kernel⟩, List.mem_of_getElem? (i := 154) (by decide +kernel), List.mem_of_getElem? (i := 759) (by decide +kernel), List.mem_of_getElem? (i := 760) (by decide +kernel)⟩
theorem lw_p22 : lw_okq (⟨"Transversary$Signs", "fewestOf", "(I)I"⟩, 3) := ⟨⟨by decide +kernel, by decide +kernel⟩, List.mem_of_getElem? (i := 193) (by decide +kernel), List.mem_of_getElem? (i := 802) (by decide +kernel), List.mem_of_getElem? (i := 803) (by decide +kernel)⟩
theorem lw_p23 : lw_okq (⟨"Transversary", "digestOfChains", "(JLTransversary$Sets;)J"⟩, 15) := ⟨⟨by decide +kernel, by decide +kernel⟩, List.mem_of_getElem? (i := 40) (by decide +kernel), List.mem_of_getElem? (i := 815) (by decide +kernel), List.mem_of_getElem? (i := 816) (by decide +kernel)⟩
theorem lw_p24 : lw_okq (⟨"Transversary", "tellJoins", "(LTransversary$Sets;I)I"⟩, 15) := ⟨⟨by decide +kernel, by decide +kernel⟩, List.mem_of_getElem? (i := 40) (by decide +kernel), List.mem_of_getElem? (i := 819) (by decide +kernel), List.mem_of_getElem? (i := 820) (by decide +kernel)⟩
theorem lw_p25 : lw_okq (⟨"Transversary$Trees", "findNeighbours", "(LTransversary$Sets;)V"⟩, 4) := ⟨⟨by decide +kernel, by decide +kernel⟩, List.mem_of_getElem? (i := 209) (by decide +kernel), List.mem_of_getElem? (i := 827) (by decide +kernel), List.mem_of_getElem? (i := 828) (by decide +kernel)⟩
theorem lw_p26 : lw_okq (⟨"Transversary$Trees", "widthOf", "(I)I"⟩, 4) := ⟨⟨by decide +kernel, by decide +kernel⟩, List.mem_of_getElem? (i := 209) (by decide +kernel), List.mem_of_getElem? (i := 834) (by decide +kernel), List.mem_of_getElem? (i := 835) (by decide +kernel)⟩
theorem lw_p27 : lw_okq (⟨"Transversary$Trees", "countNeighbours", "(II)I"⟩, 4) := ⟨⟨by decide +kernel, by decide +kernel⟩, List.mem_of_getElem? (i := 209) (by decide +kernel), List.mem_of_getElem? (i := 838) (by decide +kernel), List.mem_of_getElem? (i := 839) (by decide +kernel)⟩
theorem lw_p28 : lw_okq (⟨"Transversary$Trees", "takeLonePoint", "()Z"⟩, 4) := ⟨⟨by decide +kernel, by decide +kernel⟩, List.mem_of_getElem? (i := 209) (by decide +kernel), List.mem_of_getElem? (i := 856) (by decide +kernel), List.mem_of_getElem? (i := 857) (by decide +kernel)⟩
theorem lw_p29 : lw_okq (⟨"Transversary$Trees", "takeOutOfOne", "(I)V"⟩, 4) := ⟨⟨by decide +kernel, by decide +kernel⟩, List.mem_of_getElem? (i := 209) (by decide +kernel), List.mem_of_getElem? (i := 861) (by decide +kernel), List.mem_of_getElem? (i := 862) (by decide +kernel)⟩
theorem lw_p30 : lw_okq (⟨"Transversary$Trees", "takeLowSet", "()Z"⟩, 4) := ⟨⟨by decide +kernel, by decide +kernel⟩, List.mem_of_getElem? (i := 209) (by decide +kernel), List.mem_of_getElem? (i := 870) (by decide +kernel), List.mem_of_getElem? (i := 871) (by decide +kernel)⟩
theorem lw_p31 : lw_okq (⟨"Transversary", "tellChains", "(LTransversary$Sets;I)I"⟩, 15) := ⟨⟨by decide +kernel, by decide +kernel⟩, List.mem_of_getElem? (i := 40) (by decide +kernel), List.mem_of_getElem? (i := 886) (by decide +kernel), List.mem_of_getElem? (i := 887) (by decide +kernel)⟩
def lw_privs_2 : List (MethodName × Nat) := [(⟨"Transversary$Rings", "hasRoundTrip", "(I)Z"⟩, 5), (⟨"Transversary$Rings", "endsOf", "(II)I"⟩, 5), (⟨"Transversary$Rings", "neighboursOf", "(I)I"⟩, 5), (⟨"Transversary", "digestOfColours", "(JLTransversary$Sets;)J"⟩, 15), (⟨"Transversary$Samples", "petalsAbove", "(ILTransversary$Sets;II)I"⟩, 5), (⟨"Transversary$Samples", "isShattered", "(LTransversary$Sets;I)Z"⟩, 5), (⟨"Transversary$Signs", "fewestOf", "(I)I"⟩, 3), (⟨"Transversary", "digestOfChains", "(JLTransversary$Sets;)J"⟩, 15), (⟨"Transversary", "tellJoins", "(LTransversary$Sets;I)I"⟩, 15), (⟨"Transversary$Trees", "findNeighbours", "(LTransversary$Sets;)V"⟩, 4), (⟨"Transversary$Trees", "widthOf", "(I)I"⟩, 4), (⟨"Transversary$Trees", "countNeighbours", "(II)I"⟩, 4), (⟨"Transversary$Trees", "takeLonePoint", "()Z"⟩, 4), (⟨"Transversary$Trees", "takeOutOfOne", "(I)V"⟩, 4), (⟨"Transversary$Trees", "takeLowSet", "()Z"⟩, 4), (⟨"Transversary", "tellChains", "(LTransversary$Sets;I)I"⟩, 15)]
theorem lw_r2 : ∀ q ∈ lw_privs_2, lw_okq q := List.forall_mem_cons.mpr ⟨lw_p16, List.forall_mem_cons.mpr ⟨lw_p17, List.forall_mem_cons.mpr ⟨lw_p18, List.forall_mem_cons.mpr ⟨lw_p19, List.forall_mem_cons.mpr ⟨lw_p20, List.forall_mem_cons.mpr ⟨lw_p21, List.forall_mem_cons.mpr ⟨lw_p22, List.forall_mem_cons.mpr ⟨lw_p23, List.forall_mem_cons.mpr ⟨lw_p24, List.forall_mem_cons.mpr ⟨lw_p25, List.forall_mem_cons.mpr ⟨lw_p26, List.forall_mem_cons.mpr ⟨lw_p27, List.forall_mem_cons.mpr ⟨lw_p28, List.forall_mem_cons.mpr ⟨lw_p29, List.forall_mem_cons.mpr ⟨lw_p30, List.forall_mem_cons.mpr ⟨lw_p31, fun _ h => absurd h List.not_mem_nil⟩⟩⟩⟩⟩⟩⟩⟩⟩⟩⟩⟩⟩⟩⟩⟩
theorem lw_p32 : lw_okq (⟨"Transversary$Orders", "freeUpperFrom", "(LTransversary$Sets;I)I"⟩, 7) := ⟨⟨by decide +kernel, by decide +kernel⟩, List.mem_of_getElem? (i := 230) (by decide +kernel), List.mem_of_getElem? (i := 900) (by decide +kernel), List.mem_of_getElem? (i := 901) (by decide +kernel)⟩
theorem lw_p33 : lw_okq (⟨"Transversary$Orders", "tie", "(I)V"⟩, 7) := ⟨⟨by decide +kernel, by decide +kernel⟩, List.mem_of_getElem? (i := 230) (by decide +kernel), List.mem_of_getElem? (i := 904) (by decide +kernel), List.mem_of_getElem? (i := 905) (by decide +kernel)⟩
theorem lw_p34 : lw_okq (⟨"Transversary$Tables", "rankOfBorders", "(I)I"⟩, 6) := ⟨⟨by decide +kernel, by decide +kernel⟩, List.mem_of_getElem? (i := 258) (by decide +kernel), List.mem_of_getElem? (i := 923) (by decide +kernel), List.mem_of_getElem? (i := 924) (by decide +kernel)⟩
theorem lw_p35 : lw_okq (⟨"Transversary$Tables", "numberFaces", "(I)V"⟩, 6) := ⟨⟨by decide +kernel, by decide +kernel⟩, List.mem_of_getElem? (i := 258) (by decide +kernel), List.mem_of_getElem? (i := 927) (by decide +kernel), List.mem_of_getElem? (i := 928) (by decide +kernel)⟩
theorem lw_p36 : lw_okq (⟨"Transversary$Tables", "borderOf", "(I)J"⟩, 6) := ⟨⟨by decide +kernel, by decide +kernel⟩, List.mem_of_getElem? (i := 258) (by decide +kernel), List.mem_of_getElem? (i := 931) (by decide +kernel), List.mem_of_getElem? (i := 932) (by decide +kernel)⟩
theorem lw_p37 : lw_okq (⟨"Transversary$Tables", "isNewRow", "(J)Z"⟩, 6) := ⟨⟨by decide +kernel, by decide +kernel⟩, List.mem_of_getElem? (i := 258) (by decide +kernel), List.mem_of_getElem? (i := 935) (by decide +kernel), List.mem_of_getElem? (i := 936) (by decide +kernel)⟩
theorem lw_p38 : lw_okq (⟨"Transversary", "tellCollapse", "(LTransversary$Sets;I)I"⟩, 15) := ⟨⟨by decide +kernel, by decide +kernel⟩, List.mem_of_getElem? (i := 40) (by decide +kernel), List.mem_of_getElem? (i := 939) (by decide +kernel), List.mem_of_getElem? (i := 940) (by decide +kernel)⟩
theorem lw_p39 : lw_okq (⟨"Transversary$Tables", "takeFirstFreePair", "()Z"⟩, 6) := ⟨⟨by decide +kernel, by decide +kernel⟩, List.mem_of_getElem? (i := 258) (by decide +kernel), List.mem_of_getElem? (i := 947) (by decide +kernel), List.mem_of_getElem? (i := 948) (by decide +kernel)⟩
theorem lw_p40 : lw_okq (⟨"Transversary$Tables", "onlyFaceAbove", "(I)I"⟩, 6) := ⟨⟨by decide +kernel, by decide +kernel⟩, List.mem_of_getElem? (i := 258) (by decide +kernel), List.mem_of_getElem? (i := 951) (by decide +kernel), List.mem_of_getElem? (i := 952) (by decide +kernel)⟩
theorem lw_p41 : lw_okq (⟨"Transversary$Tables", "isNewLine", "(I)Z"⟩, 6) := ⟨⟨by decide +kernel, by decide +kernel⟩, List.mem_of_getElem? (i := 258) (by decide +kernel), List.mem_of_getElem? (i := 969) (by decide +kernel), List.mem_of_getElem? (i := 970) (by decide +kernel)⟩
theorem lw_p42 : lw_okq (⟨"Transversary$Tables", "reduceLine", "(II)V"⟩, 6) := ⟨⟨by decide +kernel, by decide +kernel⟩, List.mem_of_getElem? (i := 258) (by decide +kernel), List.mem_of_getElem? (i := 973) (by decide +kernel), List.mem_of_getElem? (i := 974) (by decide +kernel)⟩
theorem lw_p43 : lw_okq (⟨"Transversary", "tellTests", "(LTransversary$Sets;I)I"⟩, 15) := ⟨⟨by decide +kernel, by decide +kernel⟩, List.mem_of_getElem? (i := 40) (by decide +kernel), List.mem_of_getElem? (i := 980) (by decide +kernel), List.mem_of_getElem? (i := 981) (by decide +kernel)⟩
theorem lw_p44 : lw_okq (⟨"Transversary$Samples", "isToldAhead", "(II)Z"⟩, 5) := ⟨⟨by decide +kernel, by decide +kernel⟩, List.mem_of_getElem? (i := 154) (by decide +kernel), List.mem_of_getElem? (i := 1001) (by decide +kernel), List.mem_of_getElem? (i := 1002) (by decide +kernel)⟩
theorem lw_p45 : lw_okq (⟨"Transversary", "checkRange", "(III)V"⟩, 15) := ⟨⟨by decide +kernel, by decide +kernel⟩, List.mem_of_getElem? (i := 40) (by decide +kernel), List.mem_of_getElem? (i := 1027) (by decide +kernel), List.mem_of_getElem? (i := 1028) (by decide +kernel)⟩
theorem lw_p46 : lw_okq (⟨"Transversary", "checkPoint", "(I)V"⟩, 15) := ⟨⟨by decide +kernel, by decide +kernel⟩, List.mem_of_getElem? (i := 40) (by decide +kernel), List.mem_of_getElem? (i := 1056) (by decide +kernel), List.mem_of_getElem? (i := 1057) (by decide +kernel)⟩
theorem lw_p47 : lw_okq (⟨"Transversary", "checkRoom", "()V"⟩, 15) := ⟨⟨by decide +kernel, by decide +kernel⟩, List.mem_of_getElem? (i := 40) (by decide +kernel), List.mem_of_getElem? (i := 1085) (by decide +kernel), List.mem_of_getElem? (i := 1086) (by decide +kernel)⟩
def lw_privs_3 : List (MethodName × Nat) := [(⟨"Transversary$Orders", "freeUpperFrom", "(LTransversary$Sets;I)I"⟩, 7), (⟨"Transversary$Orders", "tie", "(I)V"⟩, 7), (⟨"Transversary$Tables", "rankOfBorders", "(I)I"⟩, 6), (⟨"Transversary$Tables", "numberFaces", "(I)V"⟩, 6), (⟨"Transversary$Tables", "borderOf", "(I)J"⟩, 6), (⟨"Transversary$Tables", "isNewRow", "(J)Z"⟩, 6), (⟨"Transversary", "tellCollapse", "(LTransversary$Sets;I)I"⟩, 15), (⟨"Transversary$Tables", "takeFirstFreePair", "()Z"⟩, 6), (⟨"Transversary$Tables", "onlyFaceAbove", "(I)I"⟩, 6), (⟨"Transversary$Tables", "isNewLine", "(I)Z"⟩, 6), (⟨"Transversary$Tables", "reduceLine", "(II)V"⟩, 6), (⟨"Transversary", "tellTests", "(LTransversary$Sets;I)I"⟩, 15), (⟨"Transversary$Samples", "isToldAhead", "(II)Z"⟩, 5), (⟨"Transversary", "checkRange", "(III)V"⟩, 15), (⟨"Transversary", "checkPoint", "(I)V"⟩, 15), (⟨"Transversary", "checkRoom", "()V"⟩, 15)]
theorem lw_r3 : ∀ q ∈ lw_privs_3, lw_okq q := List.forall_mem_cons.mpr ⟨lw_p32, List.forall_mem_cons.mpr ⟨lw_p33, List.forall_mem_cons.mpr ⟨lw_p34, List.forall_mem_cons.mpr ⟨lw_p35, List.forall_mem_cons.mpr ⟨lw_p36, List.forall_mem_cons.mpr ⟨lw_p37, List.forall_mem_cons.mpr ⟨lw_p38, List.forall_mem_cons.mpr ⟨lw_p39, List.forall_mem_cons.mpr ⟨lw_p40, List.forall_mem_cons.mpr ⟨lw_p41, List.forall_mem_cons.mpr ⟨lw_p42, List.forall_mem_cons.mpr ⟨lw_p43, List.forall_mem_cons.mpr ⟨lw_p44, List.forall_mem_cons.mpr ⟨lw_p45, List.forall_mem_cons.mpr ⟨lw_p46, List.forall_mem_cons.mpr ⟨lw_p47, fun _ h => absurd h List.not_mem_nil⟩⟩⟩⟩⟩⟩⟩⟩⟩⟩⟩⟩⟩⟩⟩⟩
theorem lw_p48 : lw_okq (⟨"Transversary", "keep", "(LTransversary$Sets;)I"⟩, 15) := ⟨⟨by decide +kernel, by decide +kernel⟩, List.mem_of_getElem? (i := 40) (by decide +kernel), List.mem_of_getElem? (i := 1106) (by decide +kernel), List.mem_of_getElem? (i := 1107) (by decide +kernel)⟩
theorem lw_p49 : lw_okq (⟨"Transversary", "checkSet", "(I)V"⟩, 15) := ⟨⟨by decide +kernel, by decide +kernel⟩, List.mem_of_getElem? (i := 40) (by decide +kernel), List.mem_of_getElem? (i := 1118) (by decide +kernel), List.mem_of_getElem? (i := 1119) (by decide +kernel)⟩
theorem lw_p50 : lw_okq (⟨"Transversary", "otherPartsOf", "(I)LTransversary$Sets;"⟩, 15) := ⟨⟨by decide +kernel, by decide +kernel⟩, List.mem_of_getElem? (i := 40) (by decide +kernel), List.mem_of_getElem? (i := 1181) (by decide +kernel), List.mem_of_getElem? (i := 1182) (by decide +kernel)⟩
theorem lw_p51 : lw_okq (⟨"Transversary$Makers", "settleOnce", "(LTransversary$Sets;LTransversary$Points;)Z"⟩, 2) := ⟨⟨by decide +kernel, by decide +kernel⟩, List.mem_of_getElem? (i := 178) (by decide +kernel), List.mem_of_getElem? (i := 1229) (by decide +kernel), List.mem_of_getElem? (i := 1230) (by decide +kernel)⟩
theorem lw_p52 : lw_okq (⟨"Transversary$Rings", "greatestFreeWithin", "(I)I"⟩, 5) := ⟨⟨by decide +kernel, by decide +kernel⟩, List.mem_of_getElem? (i := 132) (by decide +kernel), List.mem_of_getElem? (i := 1316) (by decide +kernel), List.mem_of_getElem? (i := 1317) (by decide +kernel)⟩
theorem lw_p53 : lw_okq (⟨"Transversary$Rings", "playBackwards", "(LTransversary$Sets;I)V"⟩, 5) := ⟨⟨by decide +kernel, by decide +kernel⟩, List.mem_of_getElem? (i := 132) (by decide +kernel), List.mem_of_getElem? (i := 1332) (by decide +kernel), List.mem_of_getElem? (i := 1333) (by decide +kernel)⟩
theorem lw_p54 : lw_okq (⟨"Transversary$Rings", "canWin", "(IIIZ)Z"⟩, 5) := ⟨⟨by decide +kernel, by decide +kernel⟩, List.mem_of_getElem? (i := 132) (by decide +kernel), List.mem_of_getElem? (i := 1337) (by decide +kernel), List.mem_of_getElem? (i := 1338) (by decide +kernel)⟩
theorem lw_p55 : lw_okq (⟨"Transversary$Rings", "isWin", "(II)Z"⟩, 5) := ⟨⟨by decide +kernel, by decide +kernel⟩, List.mem_of_getElem? (i := 132) (by decide +kernel), List.mem_of_getElem? (i := 1341) (by decide +kernel), List.mem_of_getElem? (i := 1342) (by decide +kernel)⟩
theorem lw_p56 : lw_okq (⟨"Transversary$Signs", "drawAgain", "(II)I"⟩, 3) := ⟨⟨by decide +kernel, by decide +kernel⟩, List.mem_of_getElem? (i := 193) (by decide +kernel), List.mem_of_getElem? (i := 1724) (by decide +kernel), List.mem_of_getElem? (i := 1725) (by decide +kernel)⟩
theorem lw_p57 : lw_okq (⟨"TransversaryModel", "refuse", "(I)I"⟩, 9) := ⟨⟨by decide +kernel, by decide +kernel⟩, List.mem_of_getElem? (i := 1799) (by decide +kernel), List.mem_of_getElem? (i := 1872) (by decide +kernel), List.mem_of_getElem? (i := 1873) (by decide +kernel)⟩
theorem lw_p58 : lw_okq (⟨"TransversaryModel", "all", "()I"⟩, 9) := ⟨⟨by decide +kernel, by decide +kernel⟩, List.mem_of_getElem? (i := 1799) (by decide +kernel), List.mem_of_getElem? (i := 1880) (by decide +kernel), List.mem_of_getElem? (i := 1881) (by decide +kernel)⟩
theorem lw_p59 : lw_okq (⟨"TransversaryModel", "isPoint", "(I)Z"⟩, 9) := ⟨⟨by decide +kernel, by decide +kernel⟩, List.mem_of_getElem? (i := 1799) (by decide +kernel), List.mem_of_getElem? (i := 1888) (by decide +kernel), List.mem_of_getElem? (i := 1889) (by decide +kernel)⟩
theorem lw_p60 : lw_okq (⟨"TransversaryModel", "aliveMany", "()I"⟩, 9) := ⟨⟨by decide +kernel, by decide +kernel⟩, List.mem_of_getElem? (i := 1799) (by decide +kernel), List.mem_of_getElem? (i := 1896) (by decide +kernel), List.mem_of_getElem? (i := 1897) (by decide +kernel)⟩
theorem lw_p61 : lw_okq (⟨"TransversaryModel", "alive", "()I"⟩, 9) := ⟨⟨by decide +kernel, by decide +kernel⟩, List.mem_of_getElem? (i := 1799) (by decide +kernel), List.mem_of_getElem? (i := 1900) (by decide +kernel), List.mem_of_getElem? (i := 1901) (by decide +kernel)⟩
theorem lw_p62 : lw_okq (⟨"TransversaryModel", "empty", "()[Z"⟩, 9) := ⟨⟨by decide +kernel, by decide +kernel⟩, List.mem_of_getElem? (i := 1799) (by decide +kernel), List.mem_of_getElem? (i := 1913) (by decide +kernel), List.mem_of_getElem? (i := 1914) (by decide +kernel)⟩
theorem lw_p63 : lw_okq (⟨"java/util/ArrayList", "add", "(Ljava/lang/Object;[Ljava/lang/Object;I)V"⟩, 3) := ⟨⟨by decide +kernel, by decide +kernel⟩, List.mem_of_getElem? (i := 1805) (by decide +kernel), List.mem_of_getElem? (i := 1921) (by decide +kernel), List.mem_of_getElem? (i := 1922) (by decide +kernel)⟩
def lw_privs_4 : List (MethodName × Nat) := [(⟨"Transversary", "keep", "(LTransversary$Sets;)I"⟩, 15), (⟨"Transversary", "checkSet", "(I)V"⟩, 15), (⟨"Transversary", "otherPartsOf", "(I)LTransversary$Sets;"⟩, 15), (⟨"Transversary$Makers", "settleOnce", "(LTransversary$Sets;LTransversary$Points;)Z"⟩, 2), (⟨"Transversary$Rings", "greatestFreeWithin", "(I)I"⟩, 5), (⟨"Transversary$Rings", "playBackwards", "(LTransversary$Sets;I)V"⟩, 5), (⟨"Transversary$Rings", "canWin", "(IIIZ)Z"⟩, 5), (⟨"Transversary$Rings", "isWin", "(II)Z"⟩, 5), (⟨"Transversary$Signs", "drawAgain", "(II)I"⟩, 3), (⟨"TransversaryModel", "refuse", "(I)I"⟩, 9), (⟨"TransversaryModel", "all", "()I"⟩, 9), (⟨"TransversaryModel", "isPoint", "(I)Z"⟩, 9), (⟨"TransversaryModel", "aliveMany", "()I"⟩, 9), (⟨"TransversaryModel", "alive", "()I"⟩, 9), (⟨"TransversaryModel", "empty", "()[Z"⟩, 9), (⟨"java/util/ArrayList", "add", "(Ljava/lang/Object;[Ljava/lang/Object;I)V"⟩, 3)]
theorem lw_r4 : ∀ q ∈ lw_privs_4, lw_okq q := List.forall_mem_cons.mpr ⟨lw_p48, List.forall_mem_cons.mpr ⟨lw_p49, List.forall_mem_cons.mpr ⟨lw_p50, List.forall_mem_cons.mpr ⟨lw_p51, List.forall_mem_cons.mpr ⟨lw_p52, List.forall_mem_cons.mpr ⟨lw_p53, List.forall_mem_cons.mpr ⟨lw_p54, List.forall_mem_cons.mpr ⟨lw_p55, List.forall_mem_cons.mpr ⟨lw_p56, List.forall_mem_cons.mpr ⟨lw_p57, List.forall_mem_cons.mpr ⟨lw_p58, List.forall_mem_cons.mpr ⟨lw_p59, List.forall_mem_cons.mpr ⟨lw_p60, List.forall_mem_cons.mpr ⟨lw_p61, List.forall_mem_cons.mpr ⟨lw_p62, List.forall_mem_cons.mpr ⟨lw_p63, fun _ h => absurd h List.not_mem_nil⟩⟩⟩⟩⟩⟩⟩⟩⟩⟩⟩⟩⟩⟩⟩⟩
theorem lw_p64 : lw_okq (⟨"java/util/ArrayList", "grow", "()[Ljava/lang/Object;"⟩, 3) := ⟨⟨by decide +kernel, by decide +kernel⟩, List.mem_of_getElem? (i := 1805) (by decide +kernel), List.mem_of_getElem? (i := 1925) (by decide +kernel), List.mem_of_getElem? (i := 1926) (by decide +kernel)⟩
theorem lw_p65 : lw_okq (⟨"java/util/ArrayList", "grow", "(I)[Ljava/lang/Object;"⟩, 3) := ⟨⟨by decide +kernel, by decide +kernel⟩, List.mem_of_getElem? (i := 1805) (by decide +kernel), List.mem_of_getElem? (i := 1929) (by decide +kernel), List.mem_of_getElem? (i := 1930) (by decide +kernel)⟩
theorem lw_p66 : lw_okq (⟨"TransversaryModel", "put", "(IIZ)I"⟩, 9) := ⟨⟨by decide +kernel, by decide +kernel⟩, List.mem_of_getElem? (i := 1799) (by decide +kernel), List.mem_of_getElem? (i := 1974) (by decide +kernel), List.mem_of_getElem? (i := 1975) (by decide +kernel)⟩
theorem lw_p67 : lw_okq (⟨"TransversaryModel", "isFamily", "(I)Z"⟩, 9) := ⟨⟨by decide +kernel, by decide +kernel⟩, List.mem_of_getElem? (i := 1799) (by decide +kernel), List.mem_of_getElem? (i := 1978) (by decide +kernel), List.mem_of_getElem? (i := 1979) (by decide +kernel)⟩
theorem lw_p68 : lw_okq (⟨"TransversaryModel", "isSet", "(I)Z"⟩, 9) := ⟨⟨by decide +kernel, by decide +kernel⟩, List.mem_of_getElem? (i := 1799) (by decide +kernel), List.mem_of_getElem? (i := 1982) (by decide +kernel), List.mem_of_getElem? (i := 1983) (by decide +kernel)⟩
theorem lw_p69 : lw_okq (⟨"TransversaryModel", "parts", "(I)[Z"⟩, 9) := ⟨⟨by decide +kernel, by decide +kernel⟩, List.mem_of_getElem? (i := 1799) (by decide +kernel), List.mem_of_getElem? (i := 2002) (by decide +kernel), List.mem_of_getElem? (i := 2003) (by decide +kernel)⟩
theorem lw_p70 : lw_okq (⟨"TransversaryModel", "blockers", "([Z)[Z"⟩, 9) := ⟨⟨by decide +kernel, by decide +kernel⟩, List.mem_of_getElem? (i := 1799) (by decide +kernel), List.mem_of_getElem? (i := 2006) (by decide +kernel), List.mem_of_getElem? (i := 2007) (by decide +kernel)⟩
theorem lw_p71 : lw_okq (⟨"TransversaryModel", "isCover", "([ZI)Z"⟩, 9) := ⟨⟨by decide +kernel, by decide +kernel⟩, List.mem_of_getElem? (i := 1799) (by decide +kernel), List.mem_of_getElem? (i := 2013) (by decide +kernel), List.mem_of_getElem? (i := 2014) (by decide +kernel)⟩
theorem lw_p72 : lw_okq (⟨"TransversaryModel", "leastOf", "([Z)[Z"⟩, 9) := ⟨⟨by decide +kernel, by decide +kernel⟩, List.mem_of_getElem? (i := 1799) (by decide +kernel), List.mem_of_getElem? (i := 2029) (by decide +kernel), List.mem_of_getElem? (i := 2030) (by decide +kernel)⟩
theorem lw_p73 : lw_okq (⟨"TransversaryModel", "hasBelow", "([ZI)Z"⟩, 9) := ⟨⟨by decide +kernel, by decide +kernel⟩, List.mem_of_getElem? (i := 1799) (by decide +kernel), List.mem_of_getElem? (i := 2033) (by decide +kernel), List.mem_of_getElem? (i := 2034) (by decide +kernel)⟩
theorem lw_p74 : lw_okq (⟨"TransversaryModel", "make", "([Z)I"⟩, 9) := ⟨⟨by decide +kernel, by decide +kernel⟩, List.mem_of_getElem? (i := 1799) (by decide +kernel), List.mem_of_getElem? (i := 2040) (by decide +kernel), List.mem_of_getElem? (i := 2041) (by decide +kernel)⟩
theorem lw_p75 : lw_okq (⟨"TransversaryModel", "pressed", "([ZII)[Z"⟩, 9) := ⟨⟨by decide +kernel, by decide +kernel⟩, List.mem_of_getElem? (i := 1799) (by decide +kernel), List.mem_of_getElem? (i := 2064) (by decide +kernel), List.mem_of_getElem? (i := 2065) (by decide +kernel)⟩
theorem lw_p76 : lw_okq (⟨"TransversaryModel", "heart", "([ZI)I"⟩, 9) := ⟨⟨by decide +kernel, by decide +kernel⟩, List.mem_of_getElem? (i := 1799) (by decide +kernel), List.mem_of_getElem? (i := 2079) (by decide +kernel), List.mem_of_getElem? (i := 2080) (by decide +kernel)⟩
theorem lw_p77 : lw_okq (⟨"TransversaryModel", "petals", "([ZI)I"⟩, 9) := ⟨⟨by decide +kernel, by decide +kernel⟩, List.mem_of_getElem? (i := 1799) (by decide +kernel), List.mem_of_getElem? (i := 2083) (by decide +kernel), List.mem_of_getElem? (i := 2084) (by decide +kernel)⟩
theorem lw_p78 : lw_okq (⟨"TransversaryModel", "cleared", "()[Z"⟩, 9) := ⟨⟨by decide +kernel, by decide +kernel⟩, List.mem_of_getElem? (i := 1799) (by decide +kernel), List.mem_of_getElem? (i := 2087) (by decide +kernel), List.mem_of_getElem? (i := 2088) (by decide +kernel)⟩
theorem lw_p79 : lw_okq (⟨"TransversaryModel", "packing", "([Z)I"⟩, 9) := ⟨⟨by decide +kernel, by decide +kernel⟩, List.mem_of_getElem? (i := 1799) (by decide +kernel), List.mem_of_getElem? (i := 2091) (by decide +kernel), List.mem_of_getElem? (i := 2092) (by decide +kernel)⟩
def lw_privs_5 : List (MethodName × Nat) := [(⟨"java/util/ArrayList", "grow", "()[Ljava/lang/Object;"⟩, 3), (⟨"java/util/ArrayList", "grow", "(I)[Ljava/lang/Object;"⟩, 3), (⟨"TransversaryModel", "put", "(IIZ)I"⟩, 9), (⟨"TransversaryModel", "isFamily", "(I)Z"⟩, 9), (⟨"TransversaryModel", "isSet", "(I)Z"⟩, 9), (⟨"TransversaryModel", "parts", "(I)[Z"⟩, 9), (⟨"TransversaryModel", "blockers", "([Z)[Z"⟩, 9), (⟨"TransversaryModel", "isCover", "([ZI)Z"⟩, 9), (⟨"TransversaryModel", "leastOf", "([Z)[Z"⟩, 9), (⟨"TransversaryModel", "hasBelow", "([ZI)Z"⟩, 9), (⟨"TransversaryModel", "make", "([Z)I"⟩, 9), (⟨"TransversaryModel", "pressed", "([ZII)[Z"⟩, 9), (⟨"TransversaryModel", "heart", "([ZI)I"⟩, 9), (⟨"TransversaryModel", "petals", "([ZI)I"⟩, 9), (⟨"TransversaryModel", "cleared", "()[Z"⟩, 9), (⟨"TransversaryModel", "packing", "([Z)I"⟩, 9)]
theorem lw_r5 : ∀ q ∈ lw_privs_5, lw_okq q := List.forall_mem_cons.mpr ⟨lw_p64, List.forall_mem_cons.mpr ⟨lw_p65, List.forall_mem_cons.mpr ⟨lw_p66, List.forall_mem_cons.mpr ⟨lw_p67, List.forall_mem_cons.mpr ⟨lw_p68, List.forall_mem_cons.mpr ⟨lw_p69, List.forall_mem_cons.mpr ⟨lw_p70, List.forall_mem_cons.mpr ⟨lw_p71, List.forall_mem_cons.mpr ⟨lw_p72, List.forall_mem_cons.mpr ⟨lw_p73, List.forall_mem_cons.mpr ⟨lw_p74, List.forall_mem_cons.mpr ⟨lw_p75, List.forall_mem_cons.mpr ⟨lw_p76, List.forall_mem_cons.mpr ⟨lw_p77, List.forall_mem_cons.mpr ⟨lw_p78, List.forall_mem_cons.mpr ⟨lw_p79, fun _ h => absurd h List.not_mem_nil⟩⟩⟩⟩⟩⟩⟩⟩⟩⟩⟩⟩⟩⟩⟩⟩
theorem lw_p80 : lw_okq (⟨"TransversaryModel", "apart", "([ZII)I"⟩, 9) := ⟨⟨by decide +kernel, by decide +kernel⟩, List.mem_of_getElem? (i := 1799) (by decide +kernel), List.mem_of_getElem? (i := 2095) (by decide +kernel), List.mem_of_getElem? (i := 2096) (by decide +kernel)⟩
theorem lw_p81 : lw_okq (⟨"TransversaryModel", "ofFamilyNow", "(II)I"⟩, 9) := ⟨⟨by decide +kernel, by decide +kernel⟩, List.mem_of_getElem? (i := 1799) (by decide +kernel), List.mem_of_getElem? (i := 2108) (by decide +kernel), List.mem_of_getElem? (i := 2109) (by decide +kernel)⟩
theorem lw_p82 : lw_okq (⟨"TransversaryModel", "coverNow", "(II)I"⟩, 9) := ⟨⟨by decide +kernel, by decide +kernel⟩, List.mem_of_getElem? (i := 1799) (by decide +kernel), List.mem_of_getElem? (i := 2121) (by decide +kernel), List.mem_of_getElem? (i := 2122) (by decide +kernel)⟩
theorem lw_p83 : lw_okq (⟨"TransversaryModel", "greedy", "([Z)I"⟩, 9) := ⟨⟨by decide +kernel, by decide +kernel⟩, List.mem_of_getElem? (i := 1799) (by decide +kernel), List.mem_of_getElem? (i := 2125) (by decide +kernel), List.mem_of_getElem? (i := 2126) (by decide +kernel)⟩
theorem lw_p84 : lw_okq (⟨"TransversaryModel", "lightest", "([Z)I"⟩, 9) := ⟨⟨by decide +kernel, by decide +kernel⟩, List.mem_of_getElem? (i := 1799) (by decide +kernel), List.mem_of_getElem? (i := 2129) (by decide +kernel), List.mem_of_getElem? (i := 2130) (by decide +kernel)⟩
theorem lw_p85 : lw_okq (⟨"TransversaryModel", "weight", "(I)I"⟩, 9) := ⟨⟨by decide +kernel, by decide +kernel⟩, List.mem_of_getElem? (i := 1799) (by decide +kernel), List.mem_of_getElem? (i := 2133) (by decide +kernel), List.mem_of_getElem? (i := 2134) (by decide +kernel)⟩
theorem lw_p86 : lw_okq (⟨"TransversaryModel", "priceNow", "(IZ)I"⟩, 9) := ⟨⟨by decide +kernel, by decide +kernel⟩, List.mem_of_getElem? (i := 1799) (by decide +kernel), List.mem_of_getElem? (i := 2141) (by decide +kernel), List.mem_of_getElem? (i := 2142) (by decide +kernel)⟩
theorem lw_p87 : lw_okq (⟨"TransversaryModel$Market", "step", "()Z"⟩, 4) := ⟨⟨by decide +kernel, by decide +kernel⟩, List.mem_of_getElem? (i := 2145) (by decide +kernel), List.mem_of_getElem? (i := 2154) (by decide +kernel), List.mem_of_getElem? (i := 2155) (by decide +kernel)⟩
theorem lw_p88 : lw_okq (⟨"TransversaryModel$Market", "at", "(II)J"⟩, 4) := ⟨⟨by decide +kernel, by decide +kernel⟩, List.mem_of_getElem? (i := 2145) (by decide +kernel), List.mem_of_getElem? (i := 2158) (by decide +kernel), List.mem_of_getElem? (i := 2159) (by decide +kernel)⟩
theorem lw_p89 : lw_okq (⟨"TransversaryModel$Market", "basic", "(I)I"⟩, 4) := ⟨⟨by decide +kernel, by decide +kernel⟩, List.mem_of_getElem? (i := 2145) (by decide +kernel), List.mem_of_getElem? (i := 2162) (by decide +kernel), List.mem_of_getElem? (i := 2163) (by decide +kernel)⟩
theorem lw_p90 : lw_okq (⟨"TransversaryModel$Market", "turn", "(II)V"⟩, 4) := ⟨⟨by decide +kernel, by decide +kernel⟩, List.mem_of_getElem? (i := 2145) (by decide +kernel), List.mem_of_getElem? (i := 2166) (by decide +kernel), List.mem_of_getElem? (i := 2167) (by decide +kernel)⟩
theorem lw_p91 : lw_okq (⟨"TransversaryModel", "ringNow", "(IZ)I"⟩, 9) := ⟨⟨by decide +kernel, by decide +kernel⟩, List.mem_of_getElem? (i := 1799) (by decide +kernel), List.mem_of_getElem? (i := 2202) (by decide +kernel), List.mem_of_getElem? (i := 2203) (by decide +kernel)⟩
theorem lw_p92 : lw_okq (⟨"TransversaryModel", "isKnot", "([ZI)Z"⟩, 9) := ⟨⟨by decide +kernel, by decide +kernel⟩, List.mem_of_getElem? (i := 1799) (by decide +kernel), List.mem_of_getElem? (i := 2206) (by decide +kernel), List.mem_of_getElem? (i := 2207) (by decide +kernel)⟩
theorem lw_p93 : lw_okq (⟨"TransversaryModel", "isRing", "([ZI)Z"⟩, 9) := ⟨⟨by decide +kernel, by decide +kernel⟩, List.mem_of_getElem? (i := 1799) (by decide +kernel), List.mem_of_getElem? (i := 2210) (by decide +kernel), List.mem_of_getElem? (i := 2211) (by decide +kernel)⟩
theorem lw_p94 : lw_okq (⟨"TransversaryModel", "isRound", "([IIII)Z"⟩, 9) := ⟨⟨by decide +kernel, by decide +kernel⟩, List.mem_of_getElem? (i := 1799) (by decide +kernel), List.mem_of_getElem? (i := 2215) (by decide +kernel), List.mem_of_getElem? (i := 2216) (by decide +kernel)⟩
theorem lw_p95 : lw_okq (⟨"TransversaryModel", "canWin", "([Z[BIIZ)Z"⟩, 9) := ⟨⟨by decide +kernel, by decide +kernel⟩, List.mem_of_getElem? (i := 1799) (by decide +kernel), List.mem_of_getElem? (i := 2223) (by decide +kernel), List.mem_of_getElem? (i := 2224) (by decide +kernel)⟩
def lw_privs_6 : List (MethodName × Nat) := [(⟨"TransversaryModel", "apart", "([ZII)I"⟩, 9), (⟨"TransversaryModel", "ofFamilyNow", "(II)I"⟩, 9), (⟨"TransversaryModel", "coverNow", "(II)I"⟩, 9), (⟨"TransversaryModel", "greedy", "([Z)I"⟩, 9), (⟨"TransversaryModel", "lightest", "([Z)I"⟩, 9), (⟨"TransversaryModel", "weight", "(I)I"⟩, 9), (⟨"TransversaryModel", "priceNow", "(IZ)I"⟩, 9), (⟨"TransversaryModel$Market", "step", "()Z"⟩, 4), (⟨"TransversaryModel$Market", "at", "(II)J"⟩, 4), (⟨"TransversaryModel$Market", "basic", "(I)I"⟩, 4), (⟨"TransversaryModel$Market", "turn", "(II)V"⟩, 4), (⟨"TransversaryModel", "ringNow", "(IZ)I"⟩, 9), (⟨"TransversaryModel", "isKnot", "([ZI)Z"⟩, 9), (⟨"TransversaryModel", "isRing", "([ZI)Z"⟩, 9), (⟨"TransversaryModel", "isRound", "([IIII)Z"⟩, 9), (⟨"TransversaryModel", "canWin", "([Z[BIIZ)Z"⟩, 9)]
theorem lw_r6 : ∀ q ∈ lw_privs_6, lw_okq q := List.forall_mem_cons.mpr ⟨lw_p80, List.forall_mem_cons.mpr ⟨lw_p81, List.forall_mem_cons.mpr ⟨lw_p82, List.forall_mem_cons.mpr ⟨lw_p83, List.forall_mem_cons.mpr ⟨lw_p84, List.forall_mem_cons.mpr ⟨lw_p85, List.forall_mem_cons.mpr ⟨lw_p86, List.forall_mem_cons.mpr ⟨lw_p87, List.forall_mem_cons.mpr ⟨lw_p88, List.forall_mem_cons.mpr ⟨lw_p89, List.forall_mem_cons.mpr ⟨lw_p90, List.forall_mem_cons.mpr ⟨lw_p91, List.forall_mem_cons.mpr ⟨lw_p92, List.forall_mem_cons.mpr ⟨lw_p93, List.forall_mem_cons.mpr ⟨lw_p94, List.forall_mem_cons.mpr ⟨lw_p95, fun _ h => absurd h List.not_mem_nil⟩⟩⟩⟩⟩⟩⟩⟩⟩⟩⟩⟩⟩⟩⟩⟩
theorem lw_p96 : lw_okq (⟨"TransversaryModel", "hasPart", "([ZI)Z"⟩, 9) := ⟨⟨by decide +kernel, by decide +kernel⟩, List.mem_of_getElem? (i := 1799) (by decide +kernel), List.mem_of_getElem? (i := 2227) (by decide +kernel), List.mem_of_getElem? (i := 2228) (by decide +kernel)⟩
theorem lw_p97 : lw_okq (⟨"TransversaryModel", "flowerNow", "(II)I"⟩, 9) := ⟨⟨by decide +kernel, by decide +kernel⟩, List.mem_of_getElem? (i := 1799) (by decide +kernel), List.mem_of_getElem? (i := 2239) (by decide +kernel), List.mem_of_getElem? (i := 2240) (by decide +kernel)⟩
theorem lw_p98 : lw_okq (⟨"TransversaryModel", "richNow", "(II)I"⟩, 9) := ⟨⟨by decide +kernel, by decide +kernel⟩, List.mem_of_getElem? (i := 1799) (by decide +kernel), List.mem_of_getElem? (i := 2247) (by decide +kernel), List.mem_of_getElem? (i := 2248) (by decide +kernel)⟩
theorem lw_p99 : lw_okq (⟨"TransversaryModel", "traces", "([ZI)I"⟩, 9) := ⟨⟨by decide +kernel, by decide +kernel⟩, List.mem_of_getElem? (i := 1799) (by decide +kernel), List.mem_of_getElem? (i := 2251) (by decide +kernel), List.mem_of_getElem? (i := 2252) (by decide +kernel)⟩
theorem lw_p100 : lw_okq (⟨"TransversaryModel", "evenNow", "(II)I"⟩, 9) := ⟨⟨by decide +kernel, by decide +kernel⟩, List.mem_of_getElem? (i := 1799) (by decide +kernel), List.mem_of_getElem? (i := 2295) (by decide +kernel), List.mem_of_getElem? (i := 2296) (by decide +kernel)⟩
theorem lw_p101 : lw_okq (⟨"TransversaryModel", "tilt", "([ZI)I"⟩, 9) := ⟨⟨by decide +kernel, by decide +kernel⟩, List.mem_of_getElem? (i := 1799) (by decide +kernel), List.mem_of_getElem? (i := 2299) (by decide +kernel), List.mem_of_getElem? (i := 2300) (by decide +kernel)⟩
theorem lw_p102 : lw_okq (⟨"TransversaryModel", "coloursNow", "(I)I"⟩, 9) := ⟨⟨by decide +kernel, by decide +kernel⟩, List.mem_of_getElem? (i := 1799) (by decide +kernel), List.mem_of_getElem? (i := 2308) (by decide +kernel), List.mem_of_getElem? (i := 2309) (by decide +kernel)⟩
theorem lw_p103 : lw_okq (⟨"TransversaryModel", "isMixed", "([ZI)Z"⟩, 9) := ⟨⟨by decide +kernel, by decide +kernel⟩, List.mem_of_getElem? (i := 1799) (by decide +kernel), List.mem_of_getElem? (i := 2312) (by decide +kernel), List.mem_of_getElem? (i := 2313) (by decide +kernel)⟩
theorem lw_p104 : lw_okq (⟨"TransversaryModel", "waysNow", "(III)I"⟩, 9) := ⟨⟨by decide +kernel, by decide +kernel⟩, List.mem_of_getElem? (i := 1799) (by decide +kernel), List.mem_of_getElem? (i := 2320) (by decide +kernel), List.mem_of_getElem? (i := 2321) (by decide +kernel)⟩
theorem lw_p105 : lw_okq (⟨"TransversaryModel", "isFree", "([Z[III)Z"⟩, 9) := ⟨⟨by decide +kernel, by decide +kernel⟩, List.mem_of_getElem? (i := 1799) (by decide +kernel), List.mem_of_getElem? (i := 2324) (by decide +kernel), List.mem_of_getElem? (i := 2325) (by decide +kernel)⟩
theorem lw_p106 : lw_okq (⟨"TransversaryModel", "joinsNow", "(II)I"⟩, 9) := ⟨⟨by decide +kernel, by decide +kernel⟩, List.mem_of_getElem? (i := 1799) (by decide +kernel), List.mem_of_getElem? (i := 2336) (by decide +kernel), List.mem_of_getElem? (i := 2337) (by decide +kernel)⟩
theorem lw_p107 : lw_okq (⟨"TransversaryModel", "widthNow", "([Z)I"⟩, 9) := ⟨⟨by decide +kernel, by decide +kernel⟩, List.mem_of_getElem? (i := 1799) (by decide +kernel), List.mem_of_getElem? (i := 2340) (by decide +kernel), List.mem_of_getElem? (i := 2341) (by decide +kernel)⟩
theorem lw_p108 : lw_okq (⟨"TransversaryModel", "reached", "([III)I"⟩, 9) := ⟨⟨by decide +kernel, by decide +kernel⟩, List.mem_of_getElem? (i := 1799) (by decide +kernel), List.mem_of_getElem? (i := 2344) (by decide +kernel), List.mem_of_getElem? (i := 2345) (by decide +kernel)⟩
theorem lw_p109 : lw_okq (⟨"TransversaryModel", "takeEars", "([Z)I"⟩, 9) := ⟨⟨by decide +kernel, by decide +kernel⟩, List.mem_of_getElem? (i := 1799) (by decide +kernel), List.mem_of_getElem? (i := 2348) (by decide +kernel), List.mem_of_getElem? (i := 2349) (by decide +kernel)⟩
theorem lw_p110 : lw_okq (⟨"TransversaryModel", "takePoint", "([Z)Z"⟩, 9) := ⟨⟨by decide +kernel, by decide +kernel⟩, List.mem_of_getElem? (i := 1799) (by decide +kernel), List.mem_of_getElem? (i := 2352) (by decide +kernel), List.mem_of_getElem? (i := 2353) (by decide +kernel)⟩
theorem lw_p111 : lw_okq (⟨"TransversaryModel", "takeSet", "([Z)Z"⟩, 9) := ⟨⟨by decide +kernel, by decide +kernel⟩, List.mem_of_getElem? (i := 1799) (by decide +kernel), List.mem_of_getElem? (i := 2356) (by decide +kernel), List.mem_of_getElem? (i := 2357) (by decide +kernel)⟩
def lw_privs_7 : List (MethodName × Nat) := [(⟨"TransversaryModel", "hasPart", "([ZI)Z"⟩, 9), (⟨"TransversaryModel", "flowerNow", "(II)I"⟩, 9), (⟨"TransversaryModel", "richNow", "(II)I"⟩, 9), (⟨"TransversaryModel", "traces", "([ZI)I"⟩, 9), (⟨"TransversaryModel", "evenNow", "(II)I"⟩, 9), (⟨"TransversaryModel", "tilt", "([ZI)I"⟩, 9), (⟨"TransversaryModel", "coloursNow", "(I)I"⟩, 9), (⟨"TransversaryModel", "isMixed", "([ZI)Z"⟩, 9), (⟨"TransversaryModel", "waysNow", "(III)I"⟩, 9), (⟨"TransversaryModel", "isFree", "([Z[III)Z"⟩, 9), (⟨"TransversaryModel", "joinsNow", "(II)I"⟩, 9), (⟨"TransversaryModel", "widthNow", "([Z)I"⟩, 9), (⟨"TransversaryModel", "reached", "([III)I"⟩, 9), (⟨"TransversaryModel", "takeEars", "([Z)I"⟩, 9), (⟨"TransversaryModel", "takePoint", "([Z)Z"⟩, 9), (⟨"TransversaryModel", "takeSet", "([Z)Z"⟩, 9)]
theorem lw_r7 : ∀ q ∈ lw_privs_7, lw_okq q := List.forall_mem_cons.mpr ⟨lw_p96, List.forall_mem_cons.mpr ⟨lw_p97, List.forall_mem_cons.mpr ⟨lw_p98, List.forall_mem_cons.mpr ⟨lw_p99, List.forall_mem_cons.mpr ⟨lw_p100, List.forall_mem_cons.mpr ⟨lw_p101, List.forall_mem_cons.mpr ⟨lw_p102, List.forall_mem_cons.mpr ⟨lw_p103, List.forall_mem_cons.mpr ⟨lw_p104, List.forall_mem_cons.mpr ⟨lw_p105, List.forall_mem_cons.mpr ⟨lw_p106, List.forall_mem_cons.mpr ⟨lw_p107, List.forall_mem_cons.mpr ⟨lw_p108, List.forall_mem_cons.mpr ⟨lw_p109, List.forall_mem_cons.mpr ⟨lw_p110, List.forall_mem_cons.mpr ⟨lw_p111, fun _ h => absurd h List.not_mem_nil⟩⟩⟩⟩⟩⟩⟩⟩⟩⟩⟩⟩⟩⟩⟩⟩
theorem lw_p112 : lw_okq (⟨"TransversaryModel", "chainsNow", "(II)I"⟩, 9) := ⟨⟨by decide +kernel, by decide +kernel⟩, List.mem_of_getElem? (i := 1799) (by decide +kernel), List.mem_of_getElem? (i := 2364) (by decide +kernel), List.mem_of_getElem? (i := 2365) (by decide +kernel)⟩
theorem lw_p113 : lw_okq (⟨"TransversaryModel", "longest", "([Z)I"⟩, 9) := ⟨⟨by decide +kernel, by decide +kernel⟩, List.mem_of_getElem? (i := 1799) (by decide +kernel), List.mem_of_getElem? (i := 2368) (by decide +kernel), List.mem_of_getElem? (i := 2369) (by decide +kernel)⟩
theorem lw_p114 : lw_okq (⟨"TransversaryModel", "chainsOf", "([Z)I"⟩, 9) := ⟨⟨by decide +kernel, by decide +kernel⟩, List.mem_of_getElem? (i := 1799) (by decide +kernel), List.mem_of_getElem? (i := 2372) (by decide +kernel), List.mem_of_getElem? (i := 2373) (by decide +kernel)⟩
theorem lw_p115 : lw_okq (⟨"TransversaryModel", "isJoined", "([Z[I[ZI)Z"⟩, 9) := ⟨⟨by decide +kernel, by decide +kernel⟩, List.mem_of_getElem? (i := 1799) (by decide +kernel), List.mem_of_getElem? (i := 2376) (by decide +kernel), List.mem_of_getElem? (i := 2377) (by decide +kernel)⟩
theorem lw_p116 : lw_okq (⟨"TransversaryModel", "spreadOver", "([Z)J"⟩, 9) := ⟨⟨by decide +kernel, by decide +kernel⟩, List.mem_of_getElem? (i := 1799) (by decide +kernel), List.mem_of_getElem? (i := 2380) (by decide +kernel), List.mem_of_getElem? (i := 2381) (by decide +kernel)⟩
theorem lw_p117 : lw_okq (⟨"TransversaryModel", "holesNow", "(II)I"⟩, 9) := ⟨⟨by decide +kernel, by decide +kernel⟩, List.mem_of_getElem? (i := 1799) (by decide +kernel), List.mem_of_getElem? (i := 2401) (by decide +kernel), List.mem_of_getElem? (i := 2402) (by decide +kernel)⟩
theorem lw_p118 : lw_okq (⟨"TransversaryModel", "facesOf", "([Z)[Z"⟩, 9) := ⟨⟨by decide +kernel, by decide +kernel⟩, List.mem_of_getElem? (i := 1799) (by decide +kernel), List.mem_of_getElem? (i := 2405) (by decide +kernel), List.mem_of_getElem? (i := 2406) (by decide +kernel)⟩
theorem lw_p119 : lw_okq (⟨"TransversaryModel", "borderRank", "([ZI)I"⟩, 9) := ⟨⟨by decide +kernel, by decide +kernel⟩, List.mem_of_getElem? (i := 1799) (by decide +kernel), List.mem_of_getElem? (i := 2412) (by decide +kernel), List.mem_of_getElem? (i := 2413) (by decide +kernel)⟩
theorem lw_p120 : lw_okq (⟨"TransversaryModel", "collapseNow", "(II)I"⟩, 9) := ⟨⟨by decide +kernel, by decide +kernel⟩, List.mem_of_getElem? (i := 1799) (by decide +kernel), List.mem_of_getElem? (i := 2427) (by decide +kernel), List.mem_of_getElem? (i := 2428) (by decide +kernel)⟩
theorem lw_p121 : lw_okq (⟨"TransversaryModel", "onlyAbove", "([ZI)I"⟩, 9) := ⟨⟨by decide +kernel, by decide +kernel⟩, List.mem_of_getElem? (i := 1799) (by decide +kernel), List.mem_of_getElem? (i := 2431) (by decide +kernel), List.mem_of_getElem? (i := 2432) (by decide +kernel)⟩
theorem lw_p122 : lw_okq (⟨"TransversaryModel", "rankNow", "(II)I"⟩, 9) := ⟨⟨by decide +kernel, by decide +kernel⟩, List.mem_of_getElem? (i := 1799) (by decide +kernel), List.mem_of_getElem? (i := 2439) (by decide +kernel), List.mem_of_getElem? (i := 2440) (by decide +kernel)⟩
theorem lw_p123 : lw_okq (⟨"TransversaryModel", "outcomeOf", "([ZI)J"⟩, 9) := ⟨⟨by decide +kernel, by decide +kernel⟩, List.mem_of_getElem? (i := 1799) (by decide +kernel), List.mem_of_getElem? (i := 2447) (by decide +kernel), List.mem_of_getElem? (i := 2448) (by decide +kernel)⟩
theorem lw_p124 : lw_okq (⟨"TransversaryModel", "tellsNow", "(II)I"⟩, 9) := ⟨⟨by decide +kernel, by decide +kernel⟩, List.mem_of_getElem? (i := 1799) (by decide +kernel), List.mem_of_getElem? (i := 2456) (by decide +kernel), List.mem_of_getElem? (i := 2457) (by decide +kernel)⟩
theorem lw_p125 : lw_okq (⟨"TransversaryModel", "isSoundNow", "()Z"⟩, 9) := ⟨⟨by decide +kernel, by decide +kernel⟩, List.mem_of_getElem? (i := 1799) (by decide +kernel), List.mem_of_getElem? (i := 2464) (by decide +kernel), List.mem_of_getElem? (i := 2465) (by decide +kernel)⟩
theorem lw_p126 : lw_okq (⟨"TransversaryModel", "add", "(J)V"⟩, 9) := ⟨⟨by decide +kernel, by decide +kernel⟩, List.mem_of_getElem? (i := 1799) (by decide +kernel), List.mem_of_getElem? (i := 2473) (by decide +kernel), List.mem_of_getElem? (i := 2474) (by decide +kernel)⟩
theorem lw_p127 : lw_okq (⟨"TransversaryModel", "addFamily", "(I)V"⟩, 9) := ⟨⟨by decide +kernel, by decide +kernel⟩, List.mem_of_getElem? (i := 1799) (by decide +kernel), List.mem_of_getElem? (i := 2478) (by decide +kernel), List.mem_of_getElem? (i := 2479) (by decide +kernel)⟩
def lw_privs_8 : List (MethodName × Nat) := [(⟨"TransversaryModel", "chainsNow", "(II)I"⟩, 9), (⟨"TransversaryModel", "longest", "([Z)I"⟩, 9), (⟨"TransversaryModel", "chainsOf", "([Z)I"⟩, 9), (⟨"TransversaryModel", "isJoined", "([Z[I[ZI)Z"⟩, 9), (⟨"TransversaryModel", "spreadOver", "([Z)J"⟩, 9), (⟨"TransversaryModel", "holesNow", "(II)I"⟩, 9), (⟨"TransversaryModel", "facesOf", "([Z)[Z"⟩, 9), (⟨"TransversaryModel", "borderRank", "([ZI)I"⟩, 9), (⟨"TransversaryModel", "collapseNow", "(II)I"⟩, 9), (⟨"TransversaryModel", "onlyAbove", "([ZI)I"⟩, 9), (⟨"TransversaryModel", "rankNow", "(II)I"⟩, 9), (⟨"TransversaryModel", "outcomeOf", "([ZI)J"⟩, 9), (⟨"TransversaryModel", "tellsNow", "(II)I"⟩, 9), (⟨"TransversaryModel", "isSoundNow", "()Z"⟩, 9), (⟨"TransversaryModel", "add", "(J)V"⟩, 9), (⟨"TransversaryModel", "addFamily", "(I)V"⟩, 9)]
theorem lw_r8 : ∀ q ∈ lw_privs_8, lw_okq q := List.forall_mem_cons.mpr ⟨lw_p112, List.forall_mem_cons.mpr ⟨lw_p113, List.forall_mem_cons.mpr ⟨lw_p114, List.forall_mem_cons.mpr ⟨lw_p115, List.forall_mem_cons.mpr ⟨lw_p116, List.forall_mem_cons.mpr ⟨lw_p117, List.forall_mem_cons.mpr ⟨lw_p118, List.forall_mem_cons.mpr ⟨lw_p119, List.forall_mem_cons.mpr ⟨lw_p120, List.forall_mem_cons.mpr ⟨lw_p121, List.forall_mem_cons.mpr ⟨lw_p122, List.forall_mem_cons.mpr ⟨lw_p123, List.forall_mem_cons.mpr ⟨lw_p124, List.forall_mem_cons.mpr ⟨lw_p125, List.forall_mem_cons.mpr ⟨lw_p126, List.forall_mem_cons.mpr ⟨lw_p127, fun _ h => absurd h List.not_mem_nil⟩⟩⟩⟩⟩⟩⟩⟩⟩⟩⟩⟩⟩⟩⟩⟩
def lw_privs : List (MethodName × Nat) := lw_privs_1 ++ (lw_privs_2 ++ (lw_privs_3 ++ (lw_privs_4 ++ (lw_privs_5 ++ (lw_privs_6 ++ (lw_privs_7 ++ (lw_privs_8)))))))
def lw_tbl : List Cond := k2_sels lw_privs ++ tables_1
theorem lw_privs_ok : ∀ q ∈ lw_privs, lw_okq q := by
  show ∀ q ∈ lw_privs_1 ++ (lw_privs_2 ++ (lw_privs_3 ++ (lw_privs_4 ++ (lw_privs_5 ++ (lw_privs_6 ++ (lw_privs_7 ++ (lw_privs_8))))))), lw_okq q
  exact List.forall_mem_append.mpr ⟨lw_r1, List.forall_mem_append.mpr ⟨lw_r2, List.forall_mem_append.mpr ⟨lw_r3, List.forall_mem_append.mpr ⟨lw_r4, List.forall_mem_append.mpr ⟨lw_r5, List.forall_mem_append.mpr ⟨lw_r6, List.forall_mem_append.mpr ⟨lw_r7, lw_r8⟩⟩⟩⟩⟩⟩⟩
end
section
/-! the words of arrays of arrays, which the printed names use and the kit has not: as va_AO, said of an array type -/
def va_AOA (ty : FieldType) (U : State) : Prop := (Cond.arrayOver (.array ty)).before #[] U = true
theorem va_AOA.use {ty : FieldType} {A : Array Value} {U : State} (h : va_AOA ty U) : (Cond.arrayOver (.array ty)).before A U = true := h
theorem va_AOA.of {ty : FieldType} {A : Array Value} {U : State} (h : (Cond.arrayOver (.array ty)).before A U = true) : va_AOA ty U := h
theorem va_AOA.moved {ty : FieldType} {u U : State} (hvm : u.vm.Alike U.vm) (h : va_AOA ty u) : va_AOA ty U := by
  have h1 : (Cond.arrayOver (.array ty)).before #[] (u.setVm U.vm) = true := by rw [Cond.arrayOver_setVmC hvm]; exact h
  exact h1
end
section
/-! ===== BEGIN words of one list among another's, by their places ===== -/
theorem goodIn_r {big : List Cond} (ws : List Cond) (ps : List Nat) (hp : ws = ps.filterMap (fun i => big[i]?)) (h : ws.all goodWord = true) : GoodIn big ws := by
  intro w hw
  have h1 := List.all_eq_true.mp h w hw
  rw [hp] at hw
  obtain ⟨i, -, hi⟩ := List.mem_filterMap.mp hw
  have hm : w ∈ big := by first | exact List.mem_of_getElem? hi | exact List.getElem?_mem hi
  exact ⟨hm, good_of_word h1⟩
theorem goodIn_app {big a b : List Cond} (ha : GoodIn big a) (hb : GoodIn big b) : GoodIn big (a ++ b) := fun w h => (List.mem_append.mp h).elim (ha w) (hb w)
theorem goodIn_ca {big a b : List Cond} {c : Cond} (ha : GoodIn big (c :: a)) (hb : GoodIn big b) : GoodIn big (c :: (a ++ b)) := fun w h => (List.mem_cons.mp h).elim (fun e => ha w (List.mem_cons.mpr (Or.inl e))) (fun h => (List.mem_append.mp h).elim (fun h => ha w (List.mem_cons.mpr (Or.inr h))) (hb w))
theorem goodIn_sub {big ws : List Cond} (hm : ∀ w ∈ ws, w ∈ big) (h : ws.all goodWord = true) : GoodIn big ws := fun w hw => ⟨hm w hw, good_of_word (List.all_eq_true.mp h w hw)⟩
/-! ===== END ===== -/

/-! ===== BEGIN new T[n][m]: the outer array a place, the inner ones among the pooled ===== -/
/-- f, but v at every address of l -/
def vr_up {α : Type} (f : Nat → α) (l : List Nat) (v : α) : Nat → α := fun a => if a ∈ l then v else f a
theorem vr_up_in {α : Type} {f : Nat → α} {l : List Nat} {v : α} {a : Nat} (h : a ∈ l) : vr_up f l v a = v := if_pos h
theorem vr_up_ne {α : Type} {f : Nat → α} {l : List Nat} {v : α} {a : Nat} (h : a ∉ l) : vr_up f l v a = f a := if_neg h
theorem vr_rows {L l : List Nat} {f : Nat → va_E} {e : va_E} (h : ∀ a, a ∈ l → a ∉ L) : va_pl L f ++ l.map (fun a => (a, e)) = va_pl (L ++ l) (vr_up f l e) := by
  unfold va_pl
  rw [List.map_append]
  congr 1
  · apply List.map_congr_left
    intro a ha
    rw [vr_up_ne (fun q => h a q ha)]
  · apply List.map_congr_left
    intro a ha
    rw [vr_up_in ha]
theorem vr_lay {X rows : va_W} {x : Nat × va_E} {pl : va_W} {D : va_G} {cl : List vw_C} {H : Heap} (hP : va_P D cl (((X ++ pl) ++ [x]) ++ rows) H) : va_P D cl ((X ++ [x]) ++ (pl ++ rows)) H := by
  rw [List.append_assoc (X ++ pl)] at hP
  have h := va_P.swap hP
  rw [← List.append_assoc X] at h
  have h2 := va_P.swap h
  rw [List.append_assoc (X ++ [x])] at h2
  exact h2
theorem vr_layD {X rows : va_W} {x : Nat × va_E} {pl : va_W} {A : Nat → Prop} (hD : va_D A (((X ++ pl) ++ [x]) ++ rows)) : va_D A ((X ++ [x]) ++ (pl ++ rows)) := by
  rw [List.append_assoc (X ++ pl)] at hD
  have h := va_D.swap hD
  rw [← List.append_assoc X] at h
  have h2 := va_D.swap h
  rw [List.append_assoc (X ++ [x])] at h2
  exact h2
theorem vr_outer (c : ClassId) (N h0 : Nat) : ∀ i : Nat, Jvm.Free.Multi.outerC c N h0 i = arrV c N (fun j => va_rf (if j < i then some (h0 + 1 + j) else none))
  | 0 => by
    show ({ cls := c, slots := Array.replicate N .null, vm := .none } : Cell) = _
    rw [arrV_new]
    refine congrArg (arrV c N) (funext fun j => ?_)
    simp [va_rf]
  | i + 1 => by
    show (Jvm.Free.Multi.outerC c N h0 i).setSlot i (.ref (h0 + 1 + i)) = _
    rw [vr_outer c N h0 i, arrV_store]
    refine congrArg (arrV c N) (funext fun j => ?_)
    by_cases e : j = i
    · subst e
      simp [updV, va_rf]
    · by_cases h : j < i
      · simp [updV, e, h, Nat.lt_succ_of_lt h]
      · simp [updV, e, h, show ¬ j < i + 1 by omega]
section VGM
variable {p : Program} {l : Launch} {e : Env} {R : Room} {s : State} {m : MethodId} {args : Array Value} {below : List Frame} {meth : Method} {c : Code} {H : Heap} {locs : List Loc} {cells slots : Nat} {Q : State → Prop}
variable {cc : ByteArray} {pc : Nat} {ls : Array Slot} {rest : List Value} {D : va_G} {cl : List vw_C} {A : Nat → Prop} {a : Nat} {tys : List (ClassId × FieldType)} {ws : va_W} {H0 : Heap}
theorem va_mna {X : va_W} {L : List Nat} {f : Nat → va_E} {cc : ByteArray} (hexec : p.tables.exec = Jvm.exec) (hb : c.code = cc) {own : String} {index : Nat} {ty : FieldType} {cy : ClassId} (hown : s.vm.findClass own = some m.cls) (hclink : (Cond.classLink own index ("[" ++ (FieldType.array ty).toString)).before args s = true) (hover : va_AOA ty s) (harr : (Cond.arrayClass ty).before args s = true) (hcy : s.vm.findClass (FieldType.array ty).toString = some cy)
    (hK : va_K D cl tys s) (hP : va_P D cl (X ++ va_pl L f) H) (hD : va_D A (X ++ va_pl L f)) (hS : va_S A H0 H locs) (hA : ∀ q, H0.size ≤ q → A q) {n k : Int32} {N' K' : Nat} {z : vp_A} (hn : ¬ n < 0) (hk : ¬ k < 0) (hN : n.toNatClampNeg = N') (hM : k.toNatClampNeg = K')
    (hb1 : N' * 4 ≤ 536870912) (hb2 : K' * componentBytes ty ≤ 536870912) (hb3 : K' ≤ 536870912) (hdf : fits ty (defaultValue ty) = true) (hdd : (defaultValue ty).isDefault = true) (hcells : cells + (1 + N') ≤ R.cells) (hslots : slots + (N' + N' * K') ≤ R.slots) (hz : ∀ c : ClassId, Jvm.Free.Multi.innerC c K' (defaultValue ty) = vp_cell c z) (hdg : decode cc pc = .ok (.multianewarray index 2, 4))
    (kk : ∀ (q : Nat) (r : Nat → Nat) (cA : ClassId) (H1 : Heap), (∀ i j : Nat, i < N' → j < N' → r i = r j → i = j) → (∀ i : Nat, i < N' → r i ∉ L) → va_K D cl (tys ++ [(cA, .array ty)]) s →
      va_P D cl ((X ++ [(q, .inl (cA, N', .inr (.inr (.inr (.inr (fun i => if i < N' then some (r i) else none))))))]) ++ va_pl (L ++ (List.range N').map r) (vr_up f ((List.range N').map r) (.inl (cy, z)))) H1 → va_D A ((X ++ [(q, .inl (cA, N', .inr (.inr (.inr (.inr (fun i => if i < N' then some (r i) else none))))))]) ++ va_pl (L ++ (List.range N').map r) (vr_up f ((List.range N').map r) (.inl (cy, z)))) → va_S A H0 H1 locs →
      W p l e R s m args below meth c H1 locs (cells + 1 + N') (slots + N' + N' * K') Q (F0 m (pc + 4) ls (.ref q :: rest))) : W p l e R s m args below meth c H locs cells slots Q (F0 m pc ls (.int k :: .int n :: rest)) := by
  subst hN
  subst hM
  intro T hT Xs
  obtain ⟨vm₁, cA, comp, -, fA, fC, hO, -, X', step⟩ := Xs.multianewarray2F hexec hown hclink (va_AOA.use hover) harr (g := F0 m pc ls (.int k :: .int n :: rest)) rfl (by rw [hb]; exact hdg) rfl hn hk hb1 hb2 hb3 hdf hdd hcells hslots
  have ec : some cy = some comp := hcy.symm.trans fC
  cases ec
  generalize hF : Jvm.Free.Multi.fill (T.setVm vm₁) cA cy n.toNatClampNeg k.toNatClampNeg (defaultValue ty) n.toNatClampNeg = F at X' step
  have hTh : (T.setVm vm₁).heap = H := hT
  obtain ⟨f1, f2, -, -⟩ := Jvm.Free.Multi.fill_facts (T.setVm vm₁) cA cy n.toNatClampNeg k.toNatClampNeg (defaultValue ty) n.toNatClampNeg
  rw [hF, hTh] at f1 f2
  have hold : ∀ x : Nat, x < H.size → F.heap[x]? = H[x]? := fun x hx => by
    have := Jvm.Free.Multi.fill_old (T.setVm vm₁) cA cy n.toNatClampNeg k.toNatClampNeg (defaultValue ty) (a := x) (by rw [hTh]; exact hx) n.toNatClampNeg
    rw [hF, hTh] at this
    exact this
  have hrow : ∀ j : Nat, j < n.toNatClampNeg → F.heap[H.size + 1 + j]? = some (vp_cell cy z) := fun j hj => by
    have := Jvm.Free.Multi.fill_inner (T.setVm vm₁) cA cy n.toNatClampNeg k.toNatClampNeg (defaultValue ty) n.toNatClampNeg j hj
    rw [hF, hTh, hz] at this
    exact this
  have hout : Jvm.Free.Multi.outerC cA n.toNatClampNeg H.size n.toNatClampNeg = vp_cell cA (n.toNatClampNeg, .inr (.inr (.inr (.inr (fun i => if i < n.toNatClampNeg then some (H.size + 1 + i) else none))))) := by
    rw [vp_cell_q]
    exact vr_outer cA n.toNatClampNeg H.size n.toNatClampNeg
  rw [hout] at f2
  have hlt : ∀ a, a ∈ L → a < H.size := fun a ha => by
    obtain ⟨k9, hk9⟩ := va_pl_get (X := X) (f := f) ha
    exact (hP k9 _ hk9).lt
  have hnl : ∀ i : Nat, i < n.toNatClampNeg → H.size + 1 + i ∉ L := fun i _ h => by
    have := hlt _ h
    omega
  have hnm : ∀ a, a ∈ (List.range n.toNatClampNeg).map (fun i => H.size + 1 + i) → a ∉ L := fun a ha h => by
    obtain ⟨i, -, rfl⟩ := List.mem_map.mp ha
    have := hlt _ h
    omega
  have hP0 : va_P D cl (X ++ va_pl L f) F.heap := hP.kept (fun k9 x hx => hold x.1 ((hP k9 x hx).lt))
  have hP1 : va_P D cl ((X ++ va_pl L f) ++ [(H.size, .inl (cA, n.toNatClampNeg, .inr (.inr (.inr (.inr (fun i => if i < n.toNatClampNeg then some (H.size + 1 + i) else none))))))]) F.heap := hP0.app (fun k9 x hx => by
    have h0 : k9 < 1 := (List.getElem?_eq_some_iff.mp hx).1
    rw [show k9 = 0 by omega] at hx
    cases hx
    exact f2)
  have hP2 : va_P D cl (((X ++ va_pl L f) ++ [(H.size, .inl (cA, n.toNatClampNeg, .inr (.inr (.inr (.inr (fun i => if i < n.toNatClampNeg then some (H.size + 1 + i) else none))))))]) ++ ((List.range n.toNatClampNeg).map (fun i => H.size + 1 + i)).map (fun a => (a, .inl (cy, z)))) F.heap := hP1.app (fun k9 x hx => by
    obtain ⟨a, ha, rfl⟩ := List.mem_map.mp (List.mem_of_getElem? hx)
    obtain ⟨i, hi, rfl⟩ := List.mem_map.mp ha
    exact hrow i (List.mem_range.mp hi))
  have hD2 : va_D A (((X ++ va_pl L f) ++ [(H.size, .inl (cA, n.toNatClampNeg, .inr (.inr (.inr (.inr (fun i => if i < n.toNatClampNeg then some (H.size + 1 + i) else none))))))]) ++ ((List.range n.toNatClampNeg).map (fun i => H.size + 1 + i)).map (fun a => (a, .inl (cy, z)))) := by
    have hD1 := hD.push (e := .inl (cA, n.toNatClampNeg, .inr (.inr (.inr (.inr (fun i => if i < n.toNatClampNeg then some (H.size + 1 + i) else none)))))) hP rfl (hA _ hS.1)
    generalize hW1 : (X ++ va_pl L f) ++ [(H.size, .inl (cA, n.toNatClampNeg, .inr (.inr (.inr (.inr (fun i => if i < n.toNatClampNeg then some (H.size + 1 + i) else none))))))] = W1 at hD1 hP1 ⊢
    have hle : ∀ (k9 : Nat) (x : Nat × va_E), W1[k9]? = some x → x.1 ≤ H.size := fun k9 x hx => by
      rw [← hW1] at hx
      by_cases hl : k9 < (X ++ va_pl L f).length
      · rw [List.getElem?_append_left hl] at hx
        exact Nat.le_of_lt ((hP k9 x hx).lt)
      · rw [List.getElem?_append_right (by omega)] at hx
        have h0 : k9 - (X ++ va_pl L f).length < 1 := (List.getElem?_eq_some_iff.mp hx).1
        rw [show k9 - (X ++ va_pl L f).length = 0 by omega] at hx
        cases hx
        exact Nat.le_refl _
    have hr : ∀ (k9 : Nat) (x : Nat × va_E), (((List.range n.toNatClampNeg).map (fun i => H.size + 1 + i)).map (fun a => ((a, .inl (cy, z)) : Nat × va_E)))[k9]? = some x → x.1 = H.size + 1 + k9 := fun k9 x hx => by
      rw [List.getElem?_map, List.getElem?_map] at hx
      by_cases h9 : k9 < n.toNatClampNeg
      · rw [List.getElem?_range h9] at hx
        cases hx
        rfl
      · have hn0 : (List.range n.toNatClampNeg)[k9]? = none := List.getElem?_eq_none (by rw [List.length_range]; omega)
        rw [hn0] at hx
        cases hx
    refine ⟨fun i j x y hi hj hxy => ?_, fun k9 x hx => ?_⟩
    · by_cases h1 : i < W1.length <;> by_cases h2 : j < W1.length
      · rw [List.getElem?_append_left h1] at hi
        rw [List.getElem?_append_left h2] at hj
        exact hD1.1 i j x y hi hj hxy
      · rw [List.getElem?_append_left h1] at hi
        rw [List.getElem?_append_right (by omega)] at hj
        have := hle _ _ hi
        have := hr _ _ hj
        omega
      · rw [List.getElem?_append_right (by omega)] at hi
        rw [List.getElem?_append_left h2] at hj
        have := hle _ _ hj
        have := hr _ _ hi
        omega
      · rw [List.getElem?_append_right (by omega)] at hi hj
        have := hr _ _ hi
        have := hr _ _ hj
        omega
    · by_cases h1 : k9 < W1.length
      · rw [List.getElem?_append_left h1] at hx
        exact hD1.2 k9 x hx
      · rw [List.getElem?_append_right (by omega)] at hx
        have := hr _ _ hx
        exact hA _ (by have := hS.1; omega)
  have hAr : ArrOfT s cA (.array ty) := fun N9 z9 => by
    obtain ⟨-, k9, hk9, cm9, hkk9⟩ := (hO 0 0 0).1
    exact ⟨(fun q hq => by cases hq), k9, hk9, cm9, hkk9⟩
  have hK2 : va_K D cl (tys ++ [(cA, .array ty)]) s := ⟨hK.1, fun k9 x hx => by
    by_cases hl : k9 < tys.length
    · rw [List.getElem?_append_left hl] at hx
      exact hK.2 k9 x hx
    · rw [List.getElem?_append_right (by omega)] at hx
      have h0 : k9 - tys.length < 1 := (List.getElem?_eq_some_iff.mp hx).1
      rw [show k9 - tys.length = 0 by omega] at hx
      cases hx
      exact ⟨hAr, fA⟩⟩
  obtain ⟨t, a1, b1⟩ := kk H.size (fun i => H.size + 1 + i) cA F.heap (fun i j _ _ h => by have h9 : H.size + 1 + i = H.size + 1 + j := h; omega) hnl hK2 (by rw [← vr_rows hnm]; exact vr_lay hP2) (by rw [← vr_rows hnm]; exact vr_layD hD2) ⟨by rw [f1]; have := hS.1; omega, fun x h1 h2 => (hold x (Nat.lt_of_lt_of_le h1 hS.1)).trans (hS.2.1 x h1 h2), hS.2.2⟩ F rfl X'
  refine ⟨t, step t ?_, b1⟩
  have e : T.heap.size = H.size := by rw [hT]
  rw [e]
  exact a1
end VGM
/-! ===== END ===== -/

/-! ===== BEGIN exceptions that leave a method, and their catching by the caller (launches without stack traces) ===== -/
section VXA
/-! The laws vx_back, vx_callV, vx_callS, vx_callSW, vx_throw0, vx_throwS follow proofs of the library, with one case more: JvmDerived/Free/Laws.lean (Back.of_free), Shelf42/LK1.lean (callV, callS), Shelf/KitTraced.lean (throwNew0V, throwNewS). -/
/-- where a method has thrown q: the class by its name, the cell, what was written, the world -/
def vx_T (XC : String → State → State → Prop) (st : State) (q : Addr) (t : State) (mc ms : Nat) (free : Addr → Prop) : Prop :=
  ∃ (E : String) (ce : Cell) (L : List Loc), XC E st t ∧ t.heap[q]? = some ce ∧ ce.vm = .none ∧ st.vm.findClass E = some ce.cls ∧ st.WarmedH t.vm ∧ st.sameButNew ({ t with vm := st.vm } : State) L mc ms ∧ ∀ z ∈ L, free z.base
def vx_Q (Qc : Array Value → State → Outcome → State → Prop) (XC : String → State → State → Prop) (mc ms : Nat) (free : Addr → Prop) : Array Value → State → Outcome → State → Prop := fun a st o t =>
  (Qc a st o t ∧ ∃ L, FrameEnd st o t L mc ms ∧ ∀ q ∈ L, free q.base) ∨ ∃ q, o = .threw q ∧ vx_T XC st q t mc ms free
/-- a callee that returns or throws -/
def vx_Met (l : Launch) (y : MethodName) (ws : List Cond) (rm : Room) (Pc : Array Value → State → Prop) (Qc : Array Value → State → Outcome → State → Prop) (XC : String → State → State → Prop) (mc ms : Nat) (free : Addr → Prop) : Prop :=
  MetFree l y (headSpec ws rm) Pc (fun _ _ _ _ _ => True) (vx_Q Qc XC mc ms free)
def vx_Post (XC : String → State → State → Prop) (mc ms : Nat) (free : Addr → Prop) : Pt → Array Value → Addr → Pt → Prop := fun A a q B =>
  ∃ (g : JFrame) (mk : MethodId) (t : State) (L : List Loc) (E : String) (ce : Cell), B.U.heap = t.heap ∧ B.U.vm = t.vm ∧ XC E (A.U.calling g mk a) t ∧ t.heap[q]? = some ce ∧ ce.vm = .none ∧ A.U.vm.findClass E = some ce.cls ∧ B.locs = A.locs ++ L ∧ (∀ z ∈ L, free z.base) ∧ B.cells = A.cells + mc ∧ B.slots = A.slots + ms
def vx_Back (l : Launch) (R : Room) (p : Program) (e : Env) (below : List Frame) (s : State) (sargs : Array Value) (y : MethodName) (len W9 : Nat)
    (Pre : Pt → Array Value → Prop) (Post : Pt → Array Value → Option Value → Pt → Prop) (PostX : Pt → Array Value → Addr → Pt → Prop) : Prop :=
  ∀ (m : MethodId) (meth : Method) (c : Code) (A : Pt) (g : JFrame) (ig : Instr) (mk : MethodId) (a : Array Value),
    Stand p l e R s m sargs below meth c A.U A.locs A.cells A.slots → g.method = m → g.locals.size = c.maxLocals → decode c.code g.pc = .ok (ig, len) →
    2 * g.monitorRoom + (g.stack.map fun v => v.category).sum ≤ W9 → A.U.methodNamed? y = some mk → Pre A a →
    (∃ (v : Option Value) (B : Pt), Stand p l e R s m sargs below meth c B.U B.locs B.cells B.slots ∧ Post A a v B ∧
      Steps p.tables e below (doInvoke e (A.U.setTop g) [] mk a).1 (B.U.setTop { g with pc := g.pc + len, stack := v.toList ++ g.stack })) ∨
    (∃ (q : Addr) (B : Pt), Stand p l e R s m sargs below meth c B.U B.locs B.cells B.slots ∧ PostX A a q B ∧
      Steps p.tables e below (doInvoke e (A.U.setTop g) [] mk a).1 ((B.U.setTop g).pushFrame (.throwing q)))
section Payer
variable {l : Launch} {R : Room} {p : Program} {e : Env} {below : List Frame} {s : State} {sargs : Array Value} {y : MethodName} {len W9 : Nat}
theorem vx_back {ws : List Cond} {rm : Room} {Pc : Array Value → State → Prop} {Qc : Array Value → State → Outcome → State → Prop} {XC : String → State → State → Prop} {mc ms : Nat} {free : Addr → Prop} {bytes : ByteArray} {maxL : Nat} {ret : Option FieldType}
    (hM : vx_Met l y ws rm Pc Qc XC mc ms free) (hblind : FrameBlind Pc) (hrc : rm.cells = mc) (hrs : rm.slots = ms)
    (hframes : rm.frames + 1 ≤ R.frames) (hlocals : W9 + (maxL + 11) + rm.locals ≤ R.locals)
    (hws : ∀ w ∈ ws, ∀ a' U, s.WarmedH U.vm → w.before a' U = true) (hcode : Cond.code y bytes maxL ret ∈ ws) (hinit : ∀ a' U, s.WarmedH U.vm → (Cond.initialized y.cls).before a' U = true) :
    vx_Back l R p e below s sargs y len W9 (PreOf R mc ms Pc) (PostOf Qc mc ms free) (vx_Post XC mc ms free) := by
  intro m meth c A g ig mk a X hg hsize hdg hW hn hp
  have h1 : (headSpec ws rm).pre.before a A.U = true := atoms_intro fun w hw => hws w hw _ _ X.warmed
  have h2 : (Cond.code y bytes maxL ret).before a A.U = true := hws _ hcode _ _ X.warmed
  have h3 : (Cond.initialized y.cls).before a A.U = true := hinit _ _ X.warmed
  have h4 : A.cells + (headSpec ws rm).room.cells ≤ R.cells := by rw [show (headSpec ws rm).room.cells = mc from hrc]; exact hp.1
  have h5 : A.slots + (headSpec ws rm).room.slots ≤ R.slots := by rw [show (headSpec ws rm).room.slots = ms from hrs]; exact hp.2.1
  have hPc : Pc a (A.U.calling g mk a) := hblind _ _ _ _ hp.2.2
  obtain ⟨U, Ls, c0, s0⟩ := A
  dsimp only [Pt.U, Pt.locs, Pt.cells, Pt.slots] at h1 h2 h3 h4 h5 X hn hPc ⊢
  obtain ⟨methY, cY, hmY, hcY, -, hlY, -, -, -, -⟩ := Cond.code_spec hn h2
  obtain ⟨kY, hkY, -⟩ := className_of_methodNamed hn
  have hinitY : kY.init = .initialized := Cond.initialized_spec (findClass_of_methodNamed hn) hkY h3
  have h : At U g.method c below := by rw [hg]; exact X.here
  have hlocals9 : W9 + (maxL + 11) + (headSpec ws rm).room.locals ≤ R.locals := hlocals
  have happ : (headSpec ws rm).appliesLoose y e.platform (U.calling g mk a) = true :=
    Spec.appliesLoose_calling (g := g) h hdg hn hkY hinitY
      (X.room_calling (g := g) (R' := (headSpec ws rm).room) hsize hmY hcY hframes (by rw [hlY]; omega) h4 h5) h1
  obtain ⟨mid, hmid⟩ := h.above
  have hfr : (U.setTop g).frames = (.java g :: mid) ++ below := by rw [State.frames_setTop' g h.top, hmid]; rfl
  obtain ⟨o, s₂, hsteps, -, hend, hq⟩ := Steps.callFree hM p X.admits X.cas X.clock (acts := []) hfr happ hPc trivial
  have hq' : vx_Q Qc XC mc ms free a (U.calling g mk a) o s₂ := hq
  rw [State.frames_setTop' g h.top] at hend
  obtain ⟨g₀, hg0⟩ := Option.isSome_iff_exists.mp h.top
  obtain ⟨r, hr⟩ := State.topJava?_eq_some.mp hg0
  have hr' : (({ U with heap := s₂.heap, slotsUsed := s₂.slotsUsed } : State).setVm s₂.vm).frames = .java g₀ :: r := hr
  rcases hq' with ⟨hqc, L, hfe, hL⟩ | ⟨q, rfl, E, ce, L, hx, hce, hcv, hcl, hW₂, hsm, hL⟩
  · obtain ⟨⟨v, rfl⟩, hW₂, e2, q2, q3, q4, q5, q6⟩ := id hfe
    have e3 : s₂ = ({ (U.calling g mk a).setFrames s₂.frames with heap := s₂.heap, slotsUsed := s₂.slotsUsed } : State).setVm s₂.vm := by
      have : s₂ = ({ s₂ with vm := (U.calling g mk a).vm } : State).setVm s₂.vm := rfl
      rw [e2] at this
      exact this
    obtain ⟨c₂, i₂, len₂, hc₂, hd₂, hf₂⟩ := hend
    have hW' : U.WarmedH s₂.vm := hW₂
    have hcc : c₂ = c := by
      have h1 : s₂.code? g.method = U.code? g.method := by
        rw [State.code?_eq, State.code?_eq, hW'.alike.method?]
      exact Option.some.inj (hc₂.symm.trans (h1.trans h.code))
    subst hcc
    have hlen : len₂ = len := by rw [hdg] at hd₂; cases hd₂; rfl
    subst hlen
    have hs₂ : s₂ = (({ U with heap := s₂.heap, slotsUsed := s₂.slotsUsed } : State).setVm s₂.vm).setTop { g with pc := g.pc + len₂, stack := v.toList ++ g.stack } := by
      refine e3.trans ?_
      rw [hf₂, State.calling_eq h.top, State.setFrames_setFrames, State.setTop_of_frames _ hr', hr]
      rfl
    have hsame : U.sameButNew ({ U with heap := s₂.heap, slotsUsed := s₂.slotsUsed } : State) L mc ms := by
      refine ⟨?_, q2, q3, q4, q5, q6⟩
      obtain ⟨t, ht, -⟩ := State.frames_cons hr
      show ({ U with heap := s₂.heap, slotsUsed := s₂.slotsUsed } : State) = { U.setFrames U.frames with heap := s₂.heap, slotsUsed := s₂.slotsUsed }
      rw [State.setFrames_self ht]
    subst hg
    refine Or.inl ⟨v, ⟨(({ U with heap := s₂.heap, slotsUsed := s₂.slotsUsed } : State).setVm s₂.vm), Ls ++ L, c0 + mc, s0 + ms⟩,
      ⟨X.admits, X.cas, X.clock, X.frames, X.room, X.hears, X.method, X.code, (X.here.setHeapUsed s₂.heap s₂.slotsUsed).setVm hW'.alike, X.tail, State.WarmedH.trans X.warmed hW', X.limits, X.bytes, X.same.trans (hsame.setVm s.vm)⟩,
      ⟨g, mk, s₂, L, rfl, rfl, hqc, rfl, hL, rfl, rfl⟩, ?_⟩
    show Steps p.tables e below _ ((({ U with heap := s₂.heap, slotsUsed := s₂.slotsUsed } : State).setVm s₂.vm).setTop { g with pc := g.pc + len₂, stack := v.toList ++ g.stack })
    rw [← hs₂]
    exact hsteps
  · obtain ⟨e2, q2, q3, q4, q5, q6⟩ := id hsm
    have e3 : s₂ = ({ (U.calling g mk a).setFrames s₂.frames with heap := s₂.heap, slotsUsed := s₂.slotsUsed } : State).setVm s₂.vm := by
      have : s₂ = ({ s₂ with vm := (U.calling g mk a).vm } : State).setVm s₂.vm := rfl
      rw [e2] at this
      exact this
    have hf₂ : s₂.frames = .throwing q :: .java g :: U.frames.tail := hend
    have hW' : U.WarmedH s₂.vm := hW₂
    have hs₂ : s₂ = ((({ U with heap := s₂.heap, slotsUsed := s₂.slotsUsed } : State).setVm s₂.vm).setTop g).pushFrame (.throwing q) := by
      refine e3.trans ?_
      rw [hf₂, State.calling_eq h.top, State.setFrames_setFrames, State.pushFrame, State.frames_setTop _ hr', State.setTop_of_frames _ hr', State.setFrames_setFrames, hr]
      rfl
    have hsame : U.sameButNew ({ U with heap := s₂.heap, slotsUsed := s₂.slotsUsed } : State) L mc ms := by
      refine ⟨?_, q2, q3, q4, q5, q6⟩
      obtain ⟨t, ht, -⟩ := State.frames_cons hr
      show ({ U with heap := s₂.heap, slotsUsed := s₂.slotsUsed } : State) = { U.setFrames U.frames with heap := s₂.heap, slotsUsed := s₂.slotsUsed }
      rw [State.setFrames_self ht]
    subst hg
    refine Or.inr ⟨q, ⟨(({ U with heap := s₂.heap, slotsUsed := s₂.slotsUsed } : State).setVm s₂.vm), Ls ++ L, c0 + mc, s0 + ms⟩,
      ⟨X.admits, X.cas, X.clock, X.frames, X.room, X.hears, X.method, X.code, (X.here.setHeapUsed s₂.heap s₂.slotsUsed).setVm hW'.alike, X.tail, State.WarmedH.trans X.warmed hW', X.limits, X.bytes, X.same.trans (hsame.setVm s.vm)⟩,
      ⟨g, mk, s₂, L, E, ce, rfl, rfl, hx, hce, hcv, hcl, rfl, hL, rfl, rfl⟩, ?_⟩
    show Steps p.tables e below _ (((({ U with heap := s₂.heap, slotsUsed := s₂.slotsUsed } : State).setVm s₂.vm).setTop g).pushFrame (.throwing q))
    rw [← hs₂]
    exact hsteps
end Payer
section Calls
variable {p : Program} {l : Launch} {e : Env} {R : Room} {s : State} {m : MethodId} {args : Array Value} {below : List Frame} {meth : Method} {c : Code} {T : State} {locs : List Loc} {cells slots : Nat}
theorem vx_callV (X : Stand p l e R s m args below meth c T locs cells slots) (hexec : p.tables.exec = Jvm.exec) {own C : String} {index : Nat} {y : MethodName} {bytes : ByteArray} {maxL : Nat} {ret : Option FieldType}
    (hown : s.vm.findClass own = some m.cls) (hlink : (Cond.methodLink own index y).before args s = true) (hinst : (Cond.instanceMethod y).before args s = true) (hsel : (Cond.selects C y y).before args s = true)
    (hcode : (Cond.code y bytes maxL ret).before args s = true) (hy : y.cls ≠ "java/lang/invoke/MethodHandle" ∧ y.cls ≠ "java/lang/invoke/VarHandle")
    {W9 : Nat} {Pre : Pt → Array Value → Prop} {Post : Pt → Array Value → Option Value → Pt → Prop} {PostX : Pt → Array Value → Addr → Pt → Prop} (hK : vx_Back l R p e below s args y 3 W9 Pre Post PostX)
    {b : Addr} {cellB : Cell} (hcell : T.heap[b]? = some cellB) (hobj : cellB.vm.isStatics = false) (hcls : s.vm.findClass C = some cellB.cls)
    {g : JFrame} (hg : g.method = m) (hsize : g.locals.size = c.maxLocals) {argsL rest : List Value} (hlen : ∀ sig, parseMethodDescriptor y.desc = some sig → argsL.length = sig.parameters.length)
    (hstack : g.stack = argsL.reverse ++ .ref b :: rest) (hW : 2 * g.monitorRoom + (rest.map fun v => v.category).sum ≤ W9) (hdg : decode c.code g.pc = .ok (.invokevirtual index, 3))
    (hpre : ∀ vm₁, s.WarmedH vm₁ → Pre ⟨T.setVm vm₁, locs, cells, slots⟩ (Value.ref b :: argsL).toArray) :
    (∃ (v : Option Value) (vm₁ : Vm) (B : Pt), s.WarmedH vm₁ ∧ Stand p l e R s m args below meth c B.U B.locs B.cells B.slots ∧ Post ⟨T.setVm vm₁, locs, cells, slots⟩ (Value.ref b :: argsL).toArray v B ∧
      ∀ target, Steps p.tables e below (B.U.setTop { g with pc := g.pc + 3, stack := v.toList ++ rest }) target → Steps p.tables e below (T.setTop g) target) ∨
    (∃ (q : Addr) (vm₁ : Vm) (B : Pt), s.WarmedH vm₁ ∧ Stand p l e R s m args below meth c B.U B.locs B.cells B.slots ∧ PostX ⟨T.setVm vm₁, locs, cells, slots⟩ (Value.ref b :: argsL).toArray q B ∧
      Steps p.tables e below (T.setTop g) ((B.U.setTop { g with stack := rest }).pushFrame (.throwing q))) := by
  obtain ⟨mk, methM, hnamed, hmethM, hstM, habM⟩ := Cond.instanceMethod_spec hinst
  obtain ⟨methM', cM, hmethM', -, -, -, -, -, -, hsigM⟩ := Cond.code_spec hnamed hcode
  cases hmethM.symm.trans hmethM'
  obtain ⟨c2, r2, m2, q1, q2, q3, q4, kP, hkP, hkPi⟩ := Cond.selects_spec hsel
  cases hcls.symm.trans q1
  cases (State.methodFound?_of_named hnamed hy).symm.trans q2
  cases hnamed.symm.trans q3
  have hselP : selectMethod e.platform s.vm cellB.cls mk = .method mk := by rw [Launch.admits_selectMethod X.admits]; exact q4
  obtain ⟨vm₁, X₁, hstep₁⟩ := X.invokevirtual hexec hown hlink hnamed hmethM hstM hkP hkPi hy (a := b) (cell := cellB) hcell
    (fun z h => by rw [h] at hobj; cases hobj) hselP hmethM habM hkP hkPi (g := g) hg (argsL := argsL) (rest := rest) (hlen _ hsigM) hstack hdg
  rcases hK m meth c ⟨T.setVm vm₁, locs, cells, slots⟩ { g with stack := rest } (.invokevirtual index) mk (Value.ref b :: argsL).toArray X₁ hg hsize hdg hW (X₁.named hnamed) (hpre vm₁ X₁.warmed) with ⟨v, B, X', hpost, hsteps⟩ | ⟨q, B, X', hpost, hsteps⟩
  · exact Or.inl ⟨v, vm₁, B, X₁.warmed, X', hpost, fun target h => hstep₁ _ fun acts => by rw [doInvoke_state]; exact hsteps.trans h⟩
  · exact Or.inr ⟨q, vm₁, B, X₁.warmed, X', hpost, hstep₁ _ fun acts => by rw [doInvoke_state]; exact hsteps⟩
theorem vx_callS (X : Stand p l e R s m args below meth c T locs cells slots) (hexec : p.tables.exec = Jvm.exec) {own : String} {index : Nat} {y : MethodName} {bytes : ByteArray} {maxL : Nat} {ret : Option FieldType}
    (hown : s.vm.findClass own = some m.cls) (hlink : (Cond.methodLink own index y).before args s = true) (hstat : (Cond.static y).before args s = true) (hinit : (Cond.initialized y.cls).before args s = true)
    (hcode : (Cond.code y bytes maxL ret).before args s = true) (hy : y.cls ≠ "java/lang/invoke/MethodHandle" ∧ y.cls ≠ "java/lang/invoke/VarHandle")
    {W9 : Nat} {Pre : Pt → Array Value → Prop} {Post : Pt → Array Value → Option Value → Pt → Prop} {PostX : Pt → Array Value → Addr → Pt → Prop} (hK : vx_Back l R p e below s args y 3 W9 Pre Post PostX)
    {g : JFrame} (hg : g.method = m) (hsize : g.locals.size = c.maxLocals) {argsL rest : List Value} (hlen : ∀ sig, parseMethodDescriptor y.desc = some sig → argsL.length = sig.parameters.length)
    (hstack : g.stack = argsL.reverse ++ rest) (hW : 2 * g.monitorRoom + (rest.map fun v => v.category).sum ≤ W9) (hdg : decode c.code g.pc = .ok (.invokestatic index, 3))
    (hpre : ∀ vm₁, s.WarmedH vm₁ → Pre ⟨T.setVm vm₁, locs, cells, slots⟩ argsL.toArray) :
    (∃ (v : Option Value) (vm₁ : Vm) (B : Pt), s.WarmedH vm₁ ∧ Stand p l e R s m args below meth c B.U B.locs B.cells B.slots ∧ Post ⟨T.setVm vm₁, locs, cells, slots⟩ argsL.toArray v B ∧
      ∀ target, Steps p.tables e below (B.U.setTop { g with pc := g.pc + 3, stack := v.toList ++ rest }) target → Steps p.tables e below (T.setTop g) target) ∨
    (∃ (q : Addr) (vm₁ : Vm) (B : Pt), s.WarmedH vm₁ ∧ Stand p l e R s m args below meth c B.U B.locs B.cells B.slots ∧ PostX ⟨T.setVm vm₁, locs, cells, slots⟩ argsL.toArray q B ∧
      Steps p.tables e below (T.setTop g) ((B.U.setTop { g with stack := rest }).pushFrame (.throwing q))) := by
  obtain ⟨mk, hnamed⟩ := Cond.code_named hcode
  obtain ⟨methM, cM, hmethM, -, -, -, -, -, -, hsigM⟩ := Cond.code_spec hnamed hcode
  have hstatic : methM.isStatic = true := Cond.static_spec hnamed hmethM hstat
  obtain ⟨kP, hkP, -⟩ := className_of_methodNamed hnamed
  have hinitP : kP.init = .initialized := Cond.initialized_spec (findClass_of_methodNamed hnamed) hkP hinit
  obtain ⟨vm₁, X₁, hstep₁⟩ := X.invokestatic hexec hown hlink hnamed hmethM hstatic hkP hinitP hy (g := g) hg (argsL := argsL) (rest := rest) (hlen _ hsigM) hstack hdg
  rcases hK m meth c ⟨T.setVm vm₁, locs, cells, slots⟩ { g with stack := rest } (.invokestatic index) mk argsL.toArray X₁ hg hsize hdg hW (X₁.named hnamed) (hpre vm₁ X₁.warmed) with ⟨v, B, X', hpost, hsteps⟩ | ⟨q, B, X', hpost, hsteps⟩
  · exact Or.inl ⟨v, vm₁, B, X₁.warmed, X', hpost, fun target h => hstep₁ _ fun acts => by rw [doInvoke_state]; exact hsteps.trans h⟩
  · exact Or.inr ⟨q, vm₁, B, X₁.warmed, X', hpost, hstep₁ _ fun acts => by rw [doInvoke_state]; exact hsteps⟩
end Calls
theorem vx_cls {s : State} {T : State} {vm₁ : Vm} {E : String} {k : ClassId} (hW : s.WarmedH vm₁) (h : (T.setVm vm₁).vm.findClass E = some k) : s.vm.findClass E = some k := by
  have h1 : vm₁.findClass E = some k := h
  rw [hW.alike.findClass] at h1
  exact h1
/-- the method's frame g, with q thrown over it -/
def vx_W (p : Program) (l : Launch) (e : Env) (R : Room) (s : State) (m : MethodId) (args : Array Value) (below : List Frame) (meth : Method) (c : Code) (H : Heap) (locs : List Loc) (cells slots : Nat) (Q : State → Prop) (g : JFrame) (q : Addr) : Prop :=
  ∀ T : State, T.heap = H → Stand p l e R s m args below meth c T locs cells slots → ∃ t, Steps p.tables e below ((T.setTop g).pushFrame (.throwing q)) t ∧ Q t
def vx_Run (p : Program) (l : Launch) (e : Env) (R : Room) (s : State) (m : MethodId) (args : Array Value) (below : List Frame) (meth : Method) (c : Code) (H : Heap) (locs : List Loc) (cells slots mc ms : Nat) (g : JFrame) (rest : List Value) (Qa : State → Outcome → State → Prop) (XC : String → State → State → Prop) (free : Addr → Prop) : Prop :=
  ∀ T : State, T.heap = H → Stand p l e R s m args below meth c T locs cells slots →
    (∃ (v : Option Value) (st₀ t T' : State) (L : List Loc), st₀.heap = H ∧ Stand p l e R s m args below meth c T' (locs ++ L) (cells + mc) (slots + ms) ∧ (∀ q ∈ L, free q.base) ∧ T'.heap = t.heap ∧ T'.vm = t.vm ∧ Qa st₀ (.returned v) t ∧
      Goes p e below T g T' { g with pc := g.pc + 3, stack := v.toList ++ rest }) ∨
    (∃ (q : Addr) (st₀ t T' : State) (L : List Loc) (E : String) (ce : Cell), st₀.heap = H ∧ Stand p l e R s m args below meth c T' (locs ++ L) (cells + mc) (slots + ms) ∧ (∀ z ∈ L, free z.base) ∧ T'.heap = t.heap ∧ T'.vm = t.vm ∧ XC E st₀ t ∧ t.heap[q]? = some ce ∧ ce.vm = .none ∧ s.vm.findClass E = some ce.cls ∧
      Steps p.tables e below (T.setTop g) ((T'.setTop { g with stack := rest }).pushFrame (.throwing q)))
def vx_X {S : Type} (px : S → Prop) (B : String → S → State → Prop) (A : Nat → Prop) : String → State → State → Prop := fun E st t => ∃ u : S, px u ∧ B E u t ∧ va_F A st t
section Runs
variable {p : Program} {l : Launch} {e : Env} {R : Room} {s : State} {m : MethodId} {args : Array Value} {below : List Frame} {meth : Method} {c : Code} {H : Heap} {locs : List Loc} {cells slots : Nat}
variable {y : MethodName} {bytes cc : ByteArray} {maxL nL mc ms n index : Nat} {ret : Option FieldType} {ws : List Cond} {rm : Room} {Pc : Array Value → State → Prop} {Qc : Array Value → State → Outcome → State → Prop} {XC : String → State → State → Prop} {free : Addr → Prop} {Ts : List Cond} {own C : String} {b : Addr} {As rest : List Value} {g : JFrame}
theorem vx_callBack (cb : CallB R s args own index y bytes maxL ret ws rm mc ms n) (hM : vx_Met l y ws rm Pc Qc XC mc ms free) (hbl : FrameBlind Pc) : vx_Back l R p e below s args y 3 8 (PreOf R mc ms Pc) (PostOf Qc mc ms free) (vx_Post XC mc ms free) := by
  obtain ⟨hrc, hrs, hfr, hlo, hws, hcw, -, hini, -⟩ := cb
  exact vx_back (bytes := bytes) (maxL := maxL) (ret := ret) hM hbl hrc hrs hfr hlo hws hcw (fun a' U hW => word_at hW (Or.inl (by first | rfl | simp [Cond.onTables, Cond.keeps, Cond.steady])) hini)
theorem vx_runV (S : CallFix p m c cc nL s args Ts own) (hM : vx_Met l y ws rm Pc Qc XC mc ms free) (cw : CallW R s args own C index y bytes maxL ret ws rm mc ms n) (hp : PreV s H C b Pc As)
    (hg : g.method = m) (hn : As.length = n) (hsize : g.locals.size = nL) (hstack : g.stack = As.reverse ++ .ref b :: rest) (hW : 2 * g.monitorRoom + (rest.map fun v => v.category).sum ≤ 8) (hdg : decode cc g.pc = .ok (.invokevirtual index, 3)) (hf : cells + mc ≤ R.cells ∧ slots + ms ≤ R.slots) :
    vx_Run p l e R s m args below meth c H locs cells slots mc ms g rest (Qc (Value.ref b :: As).toArray) XC free := by
  have hK : vx_Back l R p e below s args y 3 8 (PreOf R mc ms Pc) (PostOf Qc mc ms free) (vx_Post XC mc ms free) := vx_callBack cw.1 hM hp.1
  obtain ⟨⟨-, -, -, -, -, -, hcode, -, hy, hlen, hl⟩, hin, hse⟩ := cw
  obtain ⟨hx, hb, hml, ho, -⟩ := S
  obtain ⟨-, ⟨cellB, hcB, hoB, hclB⟩, hPc⟩ := hp
  intro T hT X
  rcases vx_callV X hx (C := C) (bytes := bytes) (maxL := maxL) (ret := ret) ho hl hin hse hcode hy hK (by rw [hT]; exact hcB) hoB hclB hg (hsize.trans hml.symm) (argsL := As) (rest := rest) (fun sig h => hn.trans (hlen sig h)) hstack hW (by rw [hb]; exact hdg)
    (fun vm₁ hW₁ => ⟨hf.1, hf.2, hPc (T.setVm vm₁) hT hW₁⟩) with ⟨v, vm₁, ⟨U', l2, c2, s2⟩, hW₁, X', ⟨g', mk, t, L, e1, e2, hq, h1, hL, h2, h3⟩, st⟩ | ⟨q, vm₁, ⟨U', l2, c2, s2⟩, hW₁, X', ⟨g', mk, t, L, E, ce, e1, e2, hq, hce, hcv, hcl, h1, hL, h2, h3⟩, st⟩
  · dsimp only [Pt.U, Pt.locs, Pt.cells, Pt.slots] at X' e1 e2 h1 h2 h3 st
    subst h1; subst h2; subst h3
    exact Or.inl ⟨v, (T.setVm vm₁).calling g' mk (Value.ref b :: As).toArray, t, U', L, hT, X', hL, e1, e2, hq, st⟩
  · dsimp only [Pt.U, Pt.locs, Pt.cells, Pt.slots] at X' e1 e2 h1 h2 h3 st hcl
    subst h1; subst h2; subst h3
    exact Or.inr ⟨q, (T.setVm vm₁).calling g' mk (Value.ref b :: As).toArray, t, U', L, E, ce, hT, X', hL, e1, e2, hq, hce, hcv, vx_cls hW₁ hcl, st⟩
theorem vx_runS (S : CallFix p m c cc nL s args Ts own) (hM : vx_Met l y ws rm Pc Qc XC mc ms free) (cw : CallB R s args own index y bytes maxL ret ws rm mc ms n ∧ (Cond.static y).before args s = true) (hp : PreS s H Pc As)
    (hg : g.method = m) (hn : As.length = n) (hsize : g.locals.size = nL) (hstack : g.stack = As.reverse ++ rest) (hW : 2 * g.monitorRoom + (rest.map fun v => v.category).sum ≤ 8) (hdg : decode cc g.pc = .ok (.invokestatic index, 3)) (hf : cells + mc ≤ R.cells ∧ slots + ms ≤ R.slots) :
    vx_Run p l e R s m args below meth c H locs cells slots mc ms g rest (Qc As.toArray) XC free := by
  have hK : vx_Back l R p e below s args y 3 8 (PreOf R mc ms Pc) (PostOf Qc mc ms free) (vx_Post XC mc ms free) := vx_callBack cw.1 hM hp.1
  obtain ⟨⟨-, -, -, -, -, -, hcode, hini, hy, hlen, hl⟩, hstt⟩ := cw
  obtain ⟨hx, hb, hml, ho, -⟩ := S
  intro T hT X
  rcases vx_callS X hx (bytes := bytes) (maxL := maxL) (ret := ret) ho hl hstt hini hcode hy hK hg (hsize.trans hml.symm) (argsL := As) (rest := rest) (fun sig h => hn.trans (hlen sig h)) hstack hW (by rw [hb]; exact hdg)
    (fun vm₁ hW₁ => ⟨hf.1, hf.2, hp.2 (T.setVm vm₁) hT hW₁⟩) with ⟨v, vm₁, ⟨U', l2, c2, s2⟩, hW₁, X', ⟨g', mk, t, L, e1, e2, hq, h1, hL, h2, h3⟩, st⟩ | ⟨q, vm₁, ⟨U', l2, c2, s2⟩, hW₁, X', ⟨g', mk, t, L, E, ce, e1, e2, hq, hce, hcv, hcl, h1, hL, h2, h3⟩, st⟩
  · dsimp only [Pt.U, Pt.locs, Pt.cells, Pt.slots] at X' e1 e2 h1 h2 h3 st
    subst h1; subst h2; subst h3
    exact Or.inl ⟨v, (T.setVm vm₁).calling g' mk As.toArray, t, U', L, hT, X', hL, e1, e2, hq, st⟩
  · dsimp only [Pt.U, Pt.locs, Pt.cells, Pt.slots] at X' e1 e2 h1 h2 h3 st hcl
    subst h1; subst h2; subst h3
    exact Or.inr ⟨q, (T.setVm vm₁).calling g' mk As.toArray, t, U', L, E, ce, hT, X', hL, e1, e2, hq, hce, hcv, vx_cls hW₁ hcl, st⟩
end Runs
section Rows
variable {p : Program} {l : Launch} {e : Env} {R : Room} {s : State} {m : MethodId} {args : Array Value} {below : List Frame} {meth : Method} {c : Code} {H : Heap} {locs : List Loc} {cells slots : Nat} {Q : State → Prop}
variable {mc ms : Nat} {free : Addr → Prop} {A0 A1 : Nat → Prop} {H0 : Heap} {a : Array Value} {pc : Nat} {ls : Array Slot} {st0 rest : List Value}
theorem vx_keep {st₀ t T' : State} {L : List Loc} (h0 : st₀.heap = H) (e1 : T'.heap = t.heap) (hS : va_S A0 H0 H locs) (hA : ∀ q, q < H.size → A1 q → A0 q) (hf : ∀ q, free q → A0 q) (hL : ∀ q ∈ L, free q.base) (hF : va_F A1 st₀ t) :
    H.size ≤ T'.heap.size ∧ (∀ q : Nat, q < H.size → ¬ A1 q → T'.heap[q]? = H[q]?) ∧ va_S A0 H0 T'.heap (locs ++ L) := by
  obtain ⟨hz, hk⟩ := hF
  rw [h0] at hz hk
  exact ⟨by rw [e1]; exact hz, fun q h1 h2 => by rw [e1]; exact hk q h1 h2,
    ⟨Nat.le_trans hS.1 (by rw [e1]; exact hz), fun q h1 h2 => by rw [e1, hk q (Nat.lt_of_lt_of_le h1 hS.1) (fun z => h2 (hA q (Nat.lt_of_lt_of_le h1 hS.1) z))]; exact hS.2.1 q h1 h2, fun q hq => by
      rcases List.mem_append.mp hq with h | h
      · exact hS.2.2 q h
      · exact hf _ (hL q h)⟩⟩
theorem vx_calli {S SX : Type} {post : Int32 → S → Prop} {px : SX → Prop} {B : S → State → Prop} {BX : String → SX → State → Prop} {AX : Nat → Prop} (hr : vx_Run p l e R s m args below meth c H locs cells slots mc ms (F0 m pc ls st0) rest (va_Qi post B A1 a) (vx_X px BX AX) free) (hS : va_S A0 H0 H locs) (hA : ∀ q, q < H.size → A1 q → A0 q) (hf : ∀ q, free q → A0 q) (hAX : ∀ q, q < H.size → AX q → A0 q)
    (kx : ∀ (E : String) (ce : Cell) (q9 : Addr) (u : SX) (t : State) (H1 : Heap) (locs1 : List Loc), t.heap = H1 → s.vm.Alike t.vm → px u → BX E u t → H.size ≤ H1.size → (∀ q : Nat, q < H.size → ¬ AX q → H1[q]? = H[q]?) → va_S A0 H0 H1 locs1 → H1[q9]? = some ce → ce.vm = .none → s.vm.findClass E = some ce.cls → vx_W p l e R s m args below meth c H1 locs1 (cells + mc) (slots + ms) Q (F0 m pc ls rest) q9)
    (kk : ∀ (r : Int32) (u : S) (t : State) (H1 : Heap) (locs1 : List Loc), t.heap = H1 → s.vm.Alike t.vm → post r u → B u t → H.size ≤ H1.size → (∀ q : Nat, q < H.size → ¬ A1 q → H1[q]? = H[q]?) → va_S A0 H0 H1 locs1 → W p l e R s m args below meth c H1 locs1 (cells + mc) (slots + ms) Q (F0 m (pc + 3) ls (.int r :: rest))) : W p l e R s m args below meth c H locs cells slots Q (F0 m pc ls st0) := by
  intro T hT X
  rcases hr T hT X with ⟨v, st₀, t, T', L, h0, X', hL, e1, e2, ⟨⟨r, u, hv, hp, hb⟩, hF⟩, st⟩ | ⟨q, st₀, t, T', L, E, ce, h0, X', hL, e1, e2, ⟨u, hp, hb, hF⟩, hce, hcv, hcl, st⟩
  · cases hv
    obtain ⟨k1, k2, k3⟩ := vx_keep h0 e1 hS hA hf hL hF
    obtain ⟨t2, a1, b1⟩ := kk r u t T'.heap (locs ++ L) e1.symm (by rw [← e2]; exact X'.warmed.alike) hp hb k1 k2 k3 T' rfl X'
    exact ⟨t2, st t2 a1, b1⟩
  · obtain ⟨k1, k2, k3⟩ := vx_keep h0 e1 hS hAX hf hL hF
    obtain ⟨t2, a1, b1⟩ := kx E ce q u t T'.heap (locs ++ L) e1.symm (by rw [← e2]; exact X'.warmed.alike) hp hb k1 k2 k3 (by rw [e1]; exact hce) hcv hcl T' rfl X'
    exact ⟨t2, st.trans a1, b1⟩
theorem vx_calll {S SX : Type} {post : Int64 → S → Prop} {px : SX → Prop} {B : S → State → Prop} {BX : String → SX → State → Prop} {AX : Nat → Prop} (hr : vx_Run p l e R s m args below meth c H locs cells slots mc ms (F0 m pc ls st0) rest (va_Ql post B A1 a) (vx_X px BX AX) free) (hS : va_S A0 H0 H locs) (hA : ∀ q, q < H.size → A1 q → A0 q) (hf : ∀ q, free q → A0 q) (hAX : ∀ q, q < H.size → AX q → A0 q)
    (kx : ∀ (E : String) (ce : Cell) (q9 : Addr) (u : SX) (t : State) (H1 : Heap) (locs1 : List Loc), t.heap = H1 → s.vm.Alike t.vm → px u → BX E u t → H.size ≤ H1.size → (∀ q : Nat, q < H.size → ¬ AX q → H1[q]? = H[q]?) → va_S A0 H0 H1 locs1 → H1[q9]? = some ce → ce.vm = .none → s.vm.findClass E = some ce.cls → vx_W p l e R s m args below meth c H1 locs1 (cells + mc) (slots + ms) Q (F0 m pc ls rest) q9)
    (kk : ∀ (r : Int64) (u : S) (t : State) (H1 : Heap) (locs1 : List Loc), t.heap = H1 → s.vm.Alike t.vm → post r u → B u t → H.size ≤ H1.size → (∀ q : Nat, q < H.size → ¬ A1 q → H1[q]? = H[q]?) → va_S A0 H0 H1 locs1 → W p l e R s m args below meth c H1 locs1 (cells + mc) (slots + ms) Q (F0 m (pc + 3) ls (.long r :: rest))) : W p l e R s m args below meth c H locs cells slots Q (F0 m pc ls st0) := by
  intro T hT X
  rcases hr T hT X with ⟨v, st₀, t, T', L, h0, X', hL, e1, e2, ⟨⟨r, u, hv, hp, hb⟩, hF⟩, st⟩ | ⟨q, st₀, t, T', L, E, ce, h0, X', hL, e1, e2, ⟨u, hp, hb, hF⟩, hce, hcv, hcl, st⟩
  · cases hv
    obtain ⟨k1, k2, k3⟩ := vx_keep h0 e1 hS hA hf hL hF
    obtain ⟨t2, a1, b1⟩ := kk r u t T'.heap (locs ++ L) e1.symm (by rw [← e2]; exact X'.warmed.alike) hp hb k1 k2 k3 T' rfl X'
    exact ⟨t2, st t2 a1, b1⟩
  · obtain ⟨k1, k2, k3⟩ := vx_keep h0 e1 hS hAX hf hL hF
    obtain ⟨t2, a1, b1⟩ := kx E ce q u t T'.heap (locs ++ L) e1.symm (by rw [← e2]; exact X'.warmed.alike) hp hb k1 k2 k3 (by rw [e1]; exact hce) hcv hcl T' rfl X'
    exact ⟨t2, st.trans a1, b1⟩
theorem vx_callf {S SX : Type} {post : UInt32 → S → Prop} {px : SX → Prop} {B : S → State → Prop} {BX : String → SX → State → Prop} {AX : Nat → Prop} (hr : vx_Run p l e R s m args below meth c H locs cells slots mc ms (F0 m pc ls st0) rest (va_Qf post B A1 a) (vx_X px BX AX) free) (hS : va_S A0 H0 H locs) (hA : ∀ q, q < H.size → A1 q → A0 q) (hf : ∀ q, free q → A0 q) (hAX : ∀ q, q < H.size → AX q → A0 q)
    (kx : ∀ (E : String) (ce : Cell) (q9 : Addr) (u : SX) (t : State) (H1 : Heap) (locs1 : List Loc), t.heap = H1 → s.vm.Alike t.vm → px u → BX E u t → H.size ≤ H1.size → (∀ q : Nat, q < H.size → ¬ AX q → H1[q]? = H[q]?) → va_S A0 H0 H1 locs1 → H1[q9]? = some ce → ce.vm = .none → s.vm.findClass E = some ce.cls → vx_W p l e R s m args below meth c H1 locs1 (cells + mc) (slots + ms) Q (F0 m pc ls rest) q9)
    (kk : ∀ (r : UInt32) (u : S) (t : State) (H1 : Heap) (locs1 : List Loc), t.heap = H1 → s.vm.Alike t.vm → post r u → B u t → H.size ≤ H1.size → (∀ q : Nat, q < H.size → ¬ A1 q → H1[q]? = H[q]?) → va_S A0 H0 H1 locs1 → W p l e R s m args below meth c H1 locs1 (cells + mc) (slots + ms) Q (F0 m (pc + 3) ls (.float r :: rest))) : W p l e R s m args below meth c H locs cells slots Q (F0 m pc ls st0) := by
  intro T hT X
  rcases hr T hT X with ⟨v, st₀, t, T', L, h0, X', hL, e1, e2, ⟨⟨r, u, hv, hp, hb⟩, hF⟩, st⟩ | ⟨q, st₀, t, T', L, E, ce, h0, X', hL, e1, e2, ⟨u, hp, hb, hF⟩, hce, hcv, hcl, st⟩
  · cases hv
    obtain ⟨k1, k2, k3⟩ := vx_keep h0 e1 hS hA hf hL hF
    obtain ⟨t2, a1, b1⟩ := kk r u t T'.heap (locs ++ L) e1.symm (by rw [← e2]; exact X'.warmed.alike) hp hb k1 k2 k3 T' rfl X'
    exact ⟨t2, st t2 a1, b1⟩
  · obtain ⟨k1, k2, k3⟩ := vx_keep h0 e1 hS hAX hf hL hF
    obtain ⟨t2, a1, b1⟩ := kx E ce q u t T'.heap (locs ++ L) e1.symm (by rw [← e2]; exact X'.warmed.alike) hp hb k1 k2 k3 (by rw [e1]; exact hce) hcv hcl T' rfl X'
    exact ⟨t2, st.trans a1, b1⟩
theorem vx_calld {S SX : Type} {post : UInt64 → S → Prop} {px : SX → Prop} {B : S → State → Prop} {BX : String → SX → State → Prop} {AX : Nat → Prop} (hr : vx_Run p l e R s m args below meth c H locs cells slots mc ms (F0 m pc ls st0) rest (va_Qd post B A1 a) (vx_X px BX AX) free) (hS : va_S A0 H0 H locs) (hA : ∀ q, q < H.size → A1 q → A0 q) (hf : ∀ q, free q → A0 q) (hAX : ∀ q, q < H.size → AX q → A0 q)
    (kx : ∀ (E : String) (ce : Cell) (q9 : Addr) (u : SX) (t : State) (H1 : Heap) (locs1 : List Loc), t.heap = H1 → s.vm.Alike t.vm → px u → BX E u t → H.size ≤ H1.size → (∀ q : Nat, q < H.size → ¬ AX q → H1[q]? = H[q]?) → va_S A0 H0 H1 locs1 → H1[q9]? = some ce → ce.vm = .none → s.vm.findClass E = some ce.cls → vx_W p l e R s m args below meth c H1 locs1 (cells + mc) (slots + ms) Q (F0 m pc ls rest) q9)
    (kk : ∀ (r : UInt64) (u : S) (t : State) (H1 : Heap) (locs1 : List Loc), t.heap = H1 → s.vm.Alike t.vm → post r u → B u t → H.size ≤ H1.size → (∀ q : Nat, q < H.size → ¬ A1 q → H1[q]? = H[q]?) → va_S A0 H0 H1 locs1 → W p l e R s m args below meth c H1 locs1 (cells + mc) (slots + ms) Q (F0 m (pc + 3) ls (.double r :: rest))) : W p l e R s m args below meth c H locs cells slots Q (F0 m pc ls st0) := by
  intro T hT X
  rcases hr T hT X with ⟨v, st₀, t, T', L, h0, X', hL, e1, e2, ⟨⟨r, u, hv, hp, hb⟩, hF⟩, st⟩ | ⟨q, st₀, t, T', L, E, ce, h0, X', hL, e1, e2, ⟨u, hp, hb, hF⟩, hce, hcv, hcl, st⟩
  · cases hv
    obtain ⟨k1, k2, k3⟩ := vx_keep h0 e1 hS hA hf hL hF
    obtain ⟨t2, a1, b1⟩ := kk r u t T'.heap (locs ++ L) e1.symm (by rw [← e2]; exact X'.warmed.alike) hp hb k1 k2 k3 T' rfl X'
    exact ⟨t2, st t2 a1, b1⟩
  · obtain ⟨k1, k2, k3⟩ := vx_keep h0 e1 hS hAX hf hL hF
    obtain ⟨t2, a1, b1⟩ := kx E ce q u t T'.heap (locs ++ L) e1.symm (by rw [← e2]; exact X'.warmed.alike) hp hb k1 k2 k3 (by rw [e1]; exact hce) hcv hcl T' rfl X'
    exact ⟨t2, st.trans a1, b1⟩
theorem vx_callv {S SX : Type} {post : S → Prop} {px : SX → Prop} {B : S → State → Prop} {BX : String → SX → State → Prop} {AX : Nat → Prop} (hr : vx_Run p l e R s m args below meth c H locs cells slots mc ms (F0 m pc ls st0) rest (va_Qv post B A1 a) (vx_X px BX AX) free) (hS : va_S A0 H0 H locs) (hA : ∀ q, q < H.size → A1 q → A0 q) (hf : ∀ q, free q → A0 q) (hAX : ∀ q, q < H.size → AX q → A0 q)
    (kx : ∀ (E : String) (ce : Cell) (q9 : Addr) (u : SX) (t : State) (H1 : Heap) (locs1 : List Loc), t.heap = H1 → s.vm.Alike t.vm → px u → BX E u t → H.size ≤ H1.size → (∀ q : Nat, q < H.size → ¬ AX q → H1[q]? = H[q]?) → va_S A0 H0 H1 locs1 → H1[q9]? = some ce → ce.vm = .none → s.vm.findClass E = some ce.cls → vx_W p l e R s m args below meth c H1 locs1 (cells + mc) (slots + ms) Q (F0 m pc ls rest) q9)
    (kk : ∀ (u : S) (t : State) (H1 : Heap) (locs1 : List Loc), t.heap = H1 → s.vm.Alike t.vm → post u → B u t → H.size ≤ H1.size → (∀ q : Nat, q < H.size → ¬ A1 q → H1[q]? = H[q]?) → va_S A0 H0 H1 locs1 → W p l e R s m args below meth c H1 locs1 (cells + mc) (slots + ms) Q (F0 m (pc + 3) ls (rest))) : W p l e R s m args below meth c H locs cells slots Q (F0 m pc ls st0) := by
  intro T hT X
  rcases hr T hT X with ⟨v, st₀, t, T', L, h0, X', hL, e1, e2, ⟨⟨u, hv, hp, hb⟩, hF⟩, st⟩ | ⟨q, st₀, t, T', L, E, ce, h0, X', hL, e1, e2, ⟨u, hp, hb, hF⟩, hce, hcv, hcl, st⟩
  · cases hv
    obtain ⟨k1, k2, k3⟩ := vx_keep h0 e1 hS hA hf hL hF
    obtain ⟨t2, a1, b1⟩ := kk u t T'.heap (locs ++ L) e1.symm (by rw [← e2]; exact X'.warmed.alike) hp hb k1 k2 k3 T' rfl X'
    exact ⟨t2, st t2 a1, b1⟩
  · obtain ⟨k1, k2, k3⟩ := vx_keep h0 e1 hS hAX hf hL hF
    obtain ⟨t2, a1, b1⟩ := kx E ce q u t T'.heap (locs ++ L) e1.symm (by rw [← e2]; exact X'.warmed.alike) hp hb k1 k2 k3 (by rw [e1]; exact hce) hcv hcl T' rfl X'
    exact ⟨t2, st.trans a1, b1⟩
/-- caught by the row x of this method's table; the rows ahead don't take it -/
theorem vx_catch {own name : String} {E : String} {ce : Cell} {q : Addr} (hown : s.vm.findClass own = some m.cls) (pre : List ExceptionTableEntry) (x : ExceptionTableEntry) (suf : List ExceptionTableEntry) (hsplit : c.exceptionTable.toList = pre ++ x :: suf)
    (hpass : ∀ z ∈ pre, covers z pc = false ∨ (z.catchType ≠ 0 ∧ ∃ nm : String, (Cond.classLink own z.catchType nm).before args s = true ∧ va_Nc E nm s)) (hx : covers x pc = true) (h0 : x.catchType ≠ 0)
    (hlink : (Cond.classLink own x.catchType name).before args s = true) (hcast : (Cond.castable E name).before args s = true) (hcell : H[q]? = some ce) (hv : ce.vm = .none) (hcl : s.vm.findClass E = some ce.cls)
    (kk : W p l e R s m args below meth c H locs cells slots Q (F0 m x.handlerPc ls [.ref q])) : vx_W p l e R s m args below meth c H locs cells slots Q (F0 m pc ls rest) q := by
  intro T hT X
  have hpl : e.platform.magicAccessors = ({} : Platform).magicAccessors := by rw [X.admits.platform]
  obtain ⟨c3, c4, hc3, hc4, hasg⟩ := Cond.castable_spec hcast
  cases Option.some.inj (hc3.symm.trans hcl)
  obtain ⟨c5, hc5, hcl5⟩ := Cond.classLink_spec hown hlink e.platform hpl
  cases Option.some.inj (hc4.symm.trans hc5)
  obtain ⟨vm', X', st⟩ := X.thenCaughtThrough q (g := F0 m pc ls rest) rfl (Steps.refl _) (by rw [hT]; exact hcell) (by rw [hv]; rfl) (by obtain ⟨k9, h9, -⟩ := Vm.findClass_spec hcl; exact ⟨k9, h9⟩) pre x suf hsplit
    (fun z hz => by
      rcases hpass z hz with h | ⟨hz0, nm, hl1, hn1⟩
      · exact Or.inl h
      · obtain ⟨c6, hc6, hcl6⟩ := Cond.classLink_spec hown hl1 e.platform hpl
        obtain ⟨a8, b8, h1, h2, h3⟩ := hn1
        cases Option.some.inj (h1.symm.trans hcl)
        cases Option.some.inj (h2.symm.trans hc6)
        exact Or.inr ⟨hz0, _, hcl6, h3⟩) hx (Or.inr ⟨h0, c4, hcl5, hasg⟩)
  obtain ⟨t, a1, b1⟩ := kk (T.setVm vm') hT X'
  exact ⟨t, st.trans a1, b1⟩
end Rows
section Ends
variable {p : Program} {l : Launch} {e : Env} {R : Room} {s : State} {m : MethodId} {args : Array Value} {below : List Frame} {meth : Method} {c : Code} {H : Heap} {locs : List Loc} {cells slots : Nat} {Q : State → Prop}
variable {mc ms : Nat} {free : Addr → Prop} {A0 A1 : Nat → Prop} {H0 : Heap} {a : Array Value} {ls : Array Slot} {st0 rest : List Value}
variable {Qc : Array Value → State → Outcome → State → Prop} {XC : String → State → State → Prop}
/-- what a body that may throw owes at its end -/
def vx_MQ (below : List Frame) (Qc : Array Value → State → Outcome → State → Prop) (XC : String → State → State → Prop) (a : Array Value) (s : State) (mc ms : Nat) (free : Addr → Prop) : State → Prop := fun t =>
  ∃ o, t.status = .running ∧ Ended t below o ∧ vx_Q Qc XC mc ms free a s o t
theorem vx_ret {g : JFrame} {mc ms : Nat} (k : W p l e R s m args below meth c H locs cells slots (MQ below Qc args s mc ms free) g) : W p l e R s m args below meth c H locs cells slots (vx_MQ below Qc XC args s mc ms free) g := by
  intro T hT X
  obtain ⟨t, a1, o, b1, b2, b3, b4⟩ := k T hT X
  exact ⟨t, a1, o, b1, b2, Or.inl ⟨b3, b4⟩⟩
/-- not caught here: it goes on to the caller -/
theorem vx_widen {g : JFrame} {q : Addr} {k n : Nat} (h1 : cells ≤ k) (h2 : slots ≤ n) (kk : vx_W p l e R s m args below meth c H locs k n Q g q) : vx_W p l e R s m args below meth c H locs cells slots Q g q := fun T hT X => kk T hT (stand_widen X h1 h2)
theorem vx_out {pc : Nat} {E : String} {ce : Cell} {q : Addr} {mc ms : Nat} (hout : ∀ x ∈ c.exceptionTable.toList, covers x pc = false) (hlocks : meth.locks = false) (hcell : H[q]? = some ce) (hv : ce.vm = .none) (hcl : s.vm.findClass E = some ce.cls)
    (hx : ∀ t : State, t.heap = H → s.vm.Alike t.vm → XC E s t) (hf : ∀ z ∈ locs, free z.base) (hc : cells ≤ mc) (hs : slots ≤ ms) :
    vx_W p l e R s m args below meth c H locs cells slots (vx_MQ below Qc XC args s mc ms free) (F0 m pc ls rest) q := by
  intro T hT X
  obtain ⟨st1, hrun, hend, hW, hsm⟩ := X.leaveThrown q (g := F0 m pc ls rest) rfl rfl rfl hout hlocks
  have hcell9 : (T.setFrames (.throwing q :: below)).heap[q]? = some ce := by
    show T.heap[q]? = some ce
    rw [hT]; exact hcell
  exact ⟨_, st1, .threw q, hrun, hend, Or.inr ⟨q, rfl, E, ce, locs, hx _ hT hW.alike, hcell9, hv, hcl, hW, hsm.mono hc hs, hf⟩⟩
theorem vx_frame {U : State} {k n : Nat} (h : s.sameButNew ({ U with vm := s.vm } : State) locs k n) : s.heap.size ≤ U.heap.size ∧ ∀ q : Nat, q < s.heap.size → (∀ z ∈ locs, z.base ≠ q) → U.heap[q]? = s.heap[q]? := by
  obtain ⟨-, h2, -, -, -, h6⟩ := h
  refine ⟨h2, fun q hq hz => ?_⟩
  obtain ⟨c9, e1, e2, e3, e4⟩ := h6 q _ (Array.getElem?_eq_getElem hq)
  have hs : c9.slots = (s.heap[q]).slots := Array.ext_getElem? fun i => e4 i fun hm => hz _ hm rfl
  have h9 : c9 = s.heap[q] := by
    rw [hs] at e2
    exact e2
  have e5 : U.heap[q]? = some c9 := e1
  rw [e5, h9, Array.getElem?_eq_getElem hq]
/-- the words of a throw but the four that speak of the heap -/
def vx_no (w : Cond) : Bool := decide (w ≠ .isRef (.static Bundle.tN "UNASSIGNED_STACK" Bundle.steD)) && decide (w ≠ .isRef (.static Bundle.tN "SUPPRESSED_SENTINEL" Bundle.listD)) && decide (w ≠ .laysStatic Bundle.tN "UNASSIGNED_STACK" Bundle.steD) && decide (w ≠ .laysStatic Bundle.tN "SUPPRESSED_SENTINEL" Bundle.listD)
def vx_at0 (own : String) (ic : Nat) (X : String) (names : List String) : List Cond := (Bundle.ownAtoms0 own ic X names).filter vx_no
def vx_atS (own : String) (ic : Nat) (X : String) (names : List String) : List Cond := (Bundle.ownAtoms own ic X names).filter vx_no
/-- a word that the tables alone decide, or a good one -/
def vx_ot (w : Cond) : Bool := w.onTables || goodWord w
theorem vx_ot_at {args a' : Array Value} {s U : State} {w : Cond} (hW : s.WarmedH U.vm) (hvm : s.vm = U.vm) (hg : vx_ot w = true) (h : w.before args s = true) : w.before a' U = true := by
  simp only [vx_ot, Bool.or_eq_true] at hg
  rcases hg with hg | hg
  · exact va_tabs hg hvm h
  · exact word_at hW (good_of_word hg) h
/-- a list's words: the good ones out of the method's own list, the others by premises of their own -/
theorem vx_hat {args : Array Value} {s : State} {L B : List Cond} (h1 : ∀ w ∈ L.filter goodWord, w.before args s = true) (h2 : ∀ w ∈ L.filter (fun w => !goodWord w), w ∈ B) (h3 : ∀ w ∈ B, w.before args s = true) : ∀ w ∈ L, w.before args s = true := by
  intro w hw
  by_cases g : goodWord w = true
  · exact h1 w (List.mem_filter.mpr ⟨hw, g⟩)
  · refine h3 w (h2 w (List.mem_filter.mpr ⟨hw, ?_⟩))
    show (!goodWord w) = true
    cases hgw : goodWord w
    · rfl
    · exact absurd hgw g
theorem vx_c {args : Array Value} {s : State} {w : Cond} {B : List Cond} (h : w.before args s = true) (t : ∀ w ∈ B, w.before args s = true) : ∀ w' ∈ w :: B, w'.before args s = true := fun w' h' => (List.mem_cons.mp h').elim (fun e => by rw [e]; exact h) (t w')
theorem vx_n {args : Array Value} {s : State} : ∀ w ∈ ([] : List Cond), w.before args s = true := fun _ h => nomatch h
theorem vx_own {args : Array Value} {s : State} {L : List Cond} (h1 : ∀ w ∈ L.filter vx_no, w.before args s = true)
    (hU : (Cond.isRef (.static Bundle.tN "UNASSIGNED_STACK" Bundle.steD)).before args s = true) (hN : (Cond.isRef (.static Bundle.tN "SUPPRESSED_SENTINEL" Bundle.listD)).before args s = true)
    (lU : (Cond.laysStatic Bundle.tN "UNASSIGNED_STACK" Bundle.steD).before args s = true) (lN : (Cond.laysStatic Bundle.tN "SUPPRESSED_SENTINEL" Bundle.listD).before args s = true) : ∀ w ∈ L, w.before args s = true := by
  intro w hw
  by_cases e1 : w = .isRef (.static Bundle.tN "UNASSIGNED_STACK" Bundle.steD)
  · rw [e1]; exact hU
  · by_cases e2 : w = .isRef (.static Bundle.tN "SUPPRESSED_SENTINEL" Bundle.listD)
    · rw [e2]; exact hN
    · by_cases e3 : w = .laysStatic Bundle.tN "UNASSIGNED_STACK" Bundle.steD
      · rw [e3]; exact lU
      · by_cases e4 : w = .laysStatic Bundle.tN "SUPPRESSED_SENTINEL" Bundle.listD
        · rw [e4]; exact lN
        · exact h1 w (List.mem_filter.mpr ⟨hw, by unfold vx_no; rw [decide_eq_true e1, decide_eq_true e2, decide_eq_true e3, decide_eq_true e4]; rfl⟩)
/-- where a static field lies, its class's statics cell in H -/
def vx_L (C n d : String) (A : Nat → Prop) (U : State) (H : Heap) : Prop := ∃ (c : ClassId) (k : Class) (i : Nat) (f : Field) (a : Nat) (cell : Cell), U.vm.findClass C = some c ∧ U.fieldFound? C n d = some (c, k, i, f) ∧ f.isStatic = true ∧ k.statics = some a ∧ H[a]? = some cell ∧ cell.vm.isStatics = true ∧ cell.cls = c ∧ f.slot < cell.slots.size ∧ k.staticTypes[f.slot]? = some f.type ∧ ¬ A a
theorem vx_L.moved {C n d : String} {A : Nat → Prop} {u U : State} {H : Heap} (hvm : u.vm.Alike U.vm) (h : vx_L C n d A u H) : vx_L C n d A U H := by
  obtain ⟨c, k, i, f, a, cell, h1, h2, h3, h4, h5, h6, h7, h8, h9, h10⟩ := h
  obtain ⟨k', hi', he⟩ := State.fieldFound?_setVm hvm h2
  exact ⟨c, k', i, f, a, cell, by rw [hvm.findClass]; exact h1, hi', h3, by rw [he]; exact h4, h5, h6, h7, h8, by rw [he]; exact h9, h10⟩
theorem vx_L.kept {C n d : String} {A : Nat → Prop} {U : State} {H H1 : Heap} (h : vx_L C n d A U H) (hq : ∀ a : Nat, a < H.size → ¬ A a → H1[a]? = H[a]?) : vx_L C n d A U H1 := by
  obtain ⟨c, k, i, f, a, cell, h1, h2, h3, h4, h5, h6, h7, h8, h9, h10⟩ := h
  exact ⟨c, k, i, f, a, cell, h1, h2, h3, h4, by rw [hq a (Array.getElem?_eq_some_iff.mp h5).1 h10]; exact h5, h6, h7, h8, h9, h10⟩
theorem vx_L.narrow {C n d : String} {A B : Nat → Prop} {U : State} {H : Heap} (h : vx_L C n d A U H) (hAB : ∀ q, B q → A q) : vx_L C n d B U H := by
  obtain ⟨c, k, i, f, a, cell, h1, h2, h3, h4, h5, h6, h7, h8, h9, h10⟩ := h
  exact ⟨c, k, i, f, a, cell, h1, h2, h3, h4, h5, h6, h7, h8, h9, fun z => h10 (hAB _ z)⟩
theorem vx_L.word {C n d : String} {A : Nat → Prop} {s : State} {args : Array Value} (h : vx_L C n d A s s.heap) : (Cond.laysStatic C n d).before args s = true := by
  obtain ⟨c, k, i, f, a, cell, h1, h2, h3, h4, h5, h6, h7, h8, h9, -⟩ := h
  show (Cond.laysStatic C n d).holds args s none s [] = true
  exact Cond.laysStatic_of h1 h2 h3 h4 h5 h6 h7 h8 h9
/-- .. and what it holds: null or some reference -/
def vx_Zq (C n d : String) (A : Nat → Prop) (U : State) (H : Heap) : Prop := va_Zq C n d A U H ∧ vx_L C n d A U H
theorem vx_Zq.moved {C n d : String} {A : Nat → Prop} {u U : State} {H : Heap} (hvm : u.vm.Alike U.vm) (h : vx_Zq C n d A u H) : vx_Zq C n d A U H := ⟨va_Zq.moved hvm h.1, vx_L.moved hvm h.2⟩
theorem vx_Zq.kept {C n d : String} {A : Nat → Prop} {U : State} {H H1 : Heap} (h : vx_Zq C n d A U H) (hq : ∀ a : Nat, a < H.size → ¬ A a → H1[a]? = H[a]?) : vx_Zq C n d A U H1 := ⟨va_Zq.kept h.1 hq, vx_L.kept h.2 hq⟩
theorem vx_Zq.narrow {C n d : String} {A B : Nat → Prop} {U : State} {H : Heap} (h : vx_Zq C n d A U H) (hAB : ∀ q, B q → A q) : vx_Zq C n d B U H := ⟨va_Zq.narrow h.1 hAB, vx_L.narrow h.2 hAB⟩
theorem vx_Zqof {args : Array Value} {s : State} {C n d : String} {A : Nat → Prop} (hl : (Cond.laysStatic C n d).before args s = true) (hini : (Cond.initialized C).before args s = true) (h : (Cond.isRef (.static C n d)).before args s = true) (hA : ∀ a : Nat, a < s.heap.size → ¬ A a) : vx_Zq C n d A s s.heap := by
  refine ⟨va_Zqof hl hini h hA, ?_⟩
  obtain ⟨c, k, i, f, a, cell, h1, h2, h3, h4, h5, h6, h7, h8, h9⟩ := Cond.laysStatic_spec hl
  exact ⟨c, k, i, f, a, cell, h1, h2, h3, h4, h5, h6, h7, h8, h9, hA a (Array.getElem?_eq_some_iff.mp h5).1⟩
theorem vx_isRef {C n d : String} {v : Value} {A : Nat → Prop} {s : State} {args : Array Value} (h : va_Z C n d v A s s.heap) (hv : v.isRef = true) : (Cond.isRef (.static C n d)).before args s = true := by
  obtain ⟨cf, kf, fi, f, a, cell, h1, h2, h3, h4, h5, h6, h7, -⟩ := h
  have he : (Term.static C n d).eval args s none [] s = some v := by
    simp [Term.eval, State.fieldNamed?, h1, h2, h4, h5, h6, h7]
  simp only [Cond.before, Cond.holds, Cond.value, he]
  cases v <;> simp_all [Value.isRef]
theorem vx_isRefq {C n d : String} {A : Nat → Prop} {s : State} {args : Array Value} (h : va_Zq C n d A s s.heap) : (Cond.isRef (.static C n d)).before args s = true := by
  rcases h with h | ⟨t, h⟩
  · exact vx_isRef h rfl
  · exact vx_isRef h rfl
/-- the same frame, seen from here: as if the method were called anew in this heap -/
theorem vx_rebase {T : State} (X : Stand p l e R s m args below meth c T locs cells slots) {R' : Room} (hf : R'.frames ≤ R.frames) (hl : R'.locals ≤ R.locals) (hc : cells + R'.cells ≤ R.cells) (hs : slots + R'.slots ≤ R.slots) :
    Stand p l e R' ((T.setVm s.vm).setFrames (.invoking m args :: below)) m args below meth c T [] 0 0 := by
  have htop : (T.setVm s.vm).topJava?.isSome := X.here.top
  have hF : ((T.setVm s.vm).setFrames (.invoking m args :: below)).frames = .invoking m args :: below := State.frames_setFrames _ (State.cur_lt_of_top htop)
  obtain ⟨g₀, hg0⟩ := Option.isSome_iff_exists.mp htop
  obtain ⟨r, hr⟩ := State.topJava?_eq_some.mp hg0
  have hl9 : e.platform.stackLimits (T.setVm s.vm).me = e.platform.stackLimits s.me := X.limits
  have hb9 : (T.setVm s.vm).me.stackBytes = s.me.stackBytes := X.bytes
  refine ⟨X.admits, X.cas, X.clock, hF, ?_, X.hears, X.method, X.code, X.here, X.tail, X.warmed, ?_, ?_, ?_⟩
  · have h := X.room
    have hU : ((T.setVm s.vm).setFrames (.invoking m args :: below)).localsInUse = s.localsInUse := by
      rw [State.localsInUse_invoking hF (meth := meth) (c := c) X.method X.code, State.localsInUse_invoking X.frames X.method X.code]
    simp only [State.hasRoom, Bool.and_eq_true, decide_eq_true_eq] at h ⊢
    obtain ⟨⟨⟨⟨h1, h2, h3, h4, h5, h6⟩, h7⟩, h8⟩, h9⟩ := h
    rw [X.frames, List.length_cons] at h2 h3
    have q1 := X.heapSize
    have q2 := X.used
    simp only [hF, hU, List.length_cons, State.stackLimits_setFrames, State.stackBytes_setFrames, hl9, hb9]
    refine ⟨⟨⟨⟨by omega, by omega, by omega, by omega, by omega, h6⟩, ?_⟩, ?_⟩, X.book⟩
    · show T.heap.size + R'.cells ≤ e.platform.maxCells
      omega
    · show T.slotsUsed + R'.slots ≤ e.platform.maxSlots
      omega
  · rw [State.stackLimits_setFrames]; rfl
  · rw [State.stackBytes_setFrames]; rfl
  · refine ⟨?_, Nat.le_refl _, Nat.le_refl _, ?_, ?_, fun a c9 h9 => ⟨c9, h9, rfl, rfl, fun _ _ => rfl⟩⟩
    · obtain ⟨t, ht, -⟩ := State.frames_cons hr
      show T.setVm s.vm = { ((T.setVm s.vm).setFrames (.invoking m args :: below)).setFrames (T.setVm s.vm).frames with heap := T.heap, slotsUsed := T.slotsUsed }
      rw [State.setFrames_setFrames, State.setFrames_self ht]
      rfl
    · show T.slotsUsed = T.slotsUsed + ((T.heap.toList.drop T.heap.size).map (·.slots.size)).sum
      rw [List.drop_eq_nil_of_le (Nat.le_of_eq Array.length_toList)]
      rfl
    · show ((T.heap.toList.drop T.heap.size).map (·.slots.size)).sum ≤ 0
      rw [List.drop_eq_nil_of_le (Nat.le_of_eq Array.length_toList)]
      exact Nat.le_refl _
/-- 'throw new E()': new; dup; invokespecial; athrow -/
theorem vx_throw0 {cc : ByteArray} {pc : Nat} (hexec : p.tables.exec = Jvm.exec) (hb : c.code = cc) (hl : l.stackTraces = false) {own cls : String} {names : List String} {ik ic mc ms : Nat} {A : Nat → Prop}
    (hown : s.vm.findClass own = some m.cls) (hcls : Bundle.fit cls = true) (hnames : ∀ n ∈ names, Bundle.fit n = true)
    (hk : (Cond.classLink own ik cls).before args s = true) (hini : (Cond.initialized cls).before args s = true) (hat : ∀ w ∈ vx_at0 own ic cls names, w.before args s = true)
    (hgood : ∀ w ∈ Cond.classLink own ik cls :: Cond.initialized cls :: vx_at0 own ic cls names, vx_ot w = true)
    (hU : vx_Zq Bundle.tN "UNASSIGNED_STACK" Bundle.steD A s s.heap) (hN : vx_Zq Bundle.tN "SUPPRESSED_SENTINEL" Bundle.listD A s s.heap) (hS : va_S A s.heap H locs) (hsize : ls.size = c.maxLocals)
    (d0 : decode cc pc = .ok (.new ik, 3)) (d3 : decode cc (pc + 3) = .ok (.dup, 1)) (d4 : decode cc (pc + 4) = .ok (.invokespecial ic, 3)) (d7 : decode cc (pc + 7) = .ok (.athrow, 1))
    (hout : ∀ x ∈ c.exceptionTable.toList, covers x (pc + 7) = false)
    (hRframes : names.length + 3 < R.frames) (hRlocals : (rest.map fun v => v.category).sum + (13 * (names.length + 1) + 42) ≤ R.locals) (hRcells : cells + 1 ≤ R.cells) (hRslots : slots + 6 ≤ R.slots) (hlocks : meth.locks = false)
    (hx : ∀ t : State, s.vm.Alike t.vm → H.size ≤ t.heap.size → (∀ q : Nat, q < H.size → t.heap[q]? = H[q]?) → XC cls s t)
    (hf : ∀ z ∈ locs, free z.base) (hc : cells + 1 ≤ mc) (hs : slots + 6 ≤ ms) :
    W p l e R s m args below meth c H locs cells slots (vx_MQ below Qc XC args s mc ms free) (F0 m pc ls rest) := by
  intro T hT X
  have htr : e.platform.stackTraces = false := (show e.platform.stackTraces = l.stackTraces by rw [X.admits.platform]).trans hl
  have Y := vx_rebase X (R' := { frames := R.frames, locals := R.locals, cells := 1, slots := 6 }) (Nat.le_refl _) (Nat.le_refl _) hRcells hRslots
  obtain ⟨s', hA⟩ : ∃ z, z = (T.setVm s.vm).setFrames (.invoking m args :: below) := ⟨_, rfl⟩
  rw [← hA] at Y
  have hvm : s'.vm = s.vm := by rw [hA]; rfl
  have hhp : s'.heap = H := by rw [hA]; exact hT
  have hW0 : s.WarmedH s'.vm := by rw [hvm]; exact State.WarmedH.refl s
  have hat' : ∀ w ∈ vx_at0 own ic cls names, w.before args s' = true := fun w hw => vx_ot_at hW0 hvm.symm (hgood w (List.mem_cons_of_mem _ (List.mem_cons_of_mem _ hw))) (hat w hw)
  have hk' : (Cond.classLink own ik cls).before args s' = true := vx_ot_at hW0 hvm.symm (hgood _ List.mem_cons_self) hk
  have hini' : (Cond.initialized cls).before args s' = true := vx_ot_at hW0 hvm.symm (hgood _ (List.mem_cons_of_mem _ List.mem_cons_self)) hini
  have hU' : vx_Zq Bundle.tN "UNASSIGNED_STACK" Bundle.steD A s' s'.heap := by rw [hhp]; exact vx_Zq.moved hW0.alike (hU.kept hS.2.1)
  have hN' : vx_Zq Bundle.tN "SUPPRESSED_SENTINEL" Bundle.listD A s' s'.heap := by rw [hhp]; exact vx_Zq.moved hW0.alike (hN.kept hS.2.1)
  have h : ∀ w ∈ Bundle.ownAtoms0 own ic cls names, w.before args s' = true := vx_own hat' (vx_isRefq hU'.1) (vx_isRefq hN'.1) hU'.2.word hN'.2.word
  have hown' : s'.vm.findClass own = some m.cls := by rw [hvm]; exact hown
  have hins : (Cond.instantiable cls 6).before args s' = true := h _ (by simp [Bundle.ownAtoms0])
  obtain ⟨vm₁, cX, kX, hfX, hkX, -, -, X₁, st1⟩ := Y.newCold hexec (own := own) (C := cls) (index := ik) (n := 6) hown' hk' hins hini'
    (g := F0 m pc ls rest) rfl (by rw [hb]; exact d0) (Nat.le_refl _) (Nat.le_refl _)
  generalize hT1 : (T.setVm vm₁).pushCell { cls := cX, slots := kX.instanceTypes.map defaultValue, vm := .none } = T1 at X₁ st1
  have hcat : (Value.ref T.heap.size).category = 1 := rfl
  have hcellA : T1.heap[T.heap.size]? = some (freshCell cX kX) := by rw [← hT1]; exact State.heap_pushCell_size _ _
  have d3' : decode c.code (pc + 3) = .ok (.dup, 1) := by rw [hb]; exact d3
  obtain ⟨U, hsteps, hrun, hend, hW, hsame, ce, hce, hO⟩ := X₁.ctorThrow0 hexec htr (own := own) (cls := cls) (names := names) (ic := ic) hown' hcls hnames h (fun x hx => nomatch hx) hfX hkX hcellA (by rw [hhp, hT]; exact Nat.le_refl _)
    (g := { method := m, pc := pc + 4, locals := ls, stack := .ref T.heap.size :: .ref T.heap.size :: rest, locked := none }) rfl hsize rfl rfl (rest := rest) rfl
    (by rw [hb]; exact d4) (by rw [hb]; exact d7) hout hRframes (by simp only [List.map_cons, List.sum_cons, hcat]; omega) hlocks
  obtain ⟨f1, f2⟩ := vx_frame hsame
  rw [hhp] at f1 f2
  have hWs : s.WarmedH U.vm := State.WarmedH.trans hW0 hW
  have hcl : s.vm.findClass cls = some ce.cls := by
    have h9 := hO.cls
    rw [hvm] at h9
    exact h9
  have hall : s.sameButNew ({ U with vm := s.vm } : State) locs mc ms := by
    subst hA
    obtain ⟨e1, e2⟩ := hsame
    rw [State.setFrames_setFrames] at e1
    have h2 : (T.setVm s.vm).sameButNew ({ U with vm := s.vm } : State) [] (0 + 1) (0 + 6) := ⟨e1, e2⟩
    have h3 := X.same.trans h2
    rw [List.append_nil] at h3
    exact h3.mono hc hs
  refine ⟨U, ?_, .threw T.heap.size, hrun, hend, Or.inr ⟨T.heap.size, rfl, cls, ce, locs, hx U hWs.alike f1 (fun q hq => f2 q hq (fun z hz => nomatch hz)), hce, hO.vm, hcl, hWs, hall, hf⟩⟩
  refine st1 _ ?_
  show Steps p.tables e below (T1.setTop { method := m, pc := pc + 3, locals := ls, stack := .ref T.heap.size :: rest, locked := none }) _
  jvm_step X₁.here [X₁.here.top, hexec, d3', Value.category]
  exact hsteps
/-- 'throw new E("text")': new; dup; ldc; invokespecial; athrow -/
theorem vx_throwS {cc : ByteArray} {pc : Nat} (hexec : p.tables.exec = Jvm.exec) (hb : c.code = cc) (hl : l.stackTraces = false) {own cls text : String} {names : List String} {ik is ic mc ms sa : Nat} {A : Nat → Prop}
    (hown : s.vm.findClass own = some m.cls) (hcls : Bundle.fit cls = true) (hnames : ∀ n ∈ names, Bundle.fit n = true)
    (hk : (Cond.classLink own ik cls).before args s = true) (hini : (Cond.initialized cls).before args s = true) (hstr : vk_R own is text sa s) (hat : ∀ w ∈ vx_atS own ic cls names, w.before args s = true)
    (hgood : ∀ w ∈ Cond.classLink own ik cls :: Cond.initialized cls :: vx_atS own ic cls names, vx_ot w = true)
    (hU : vx_Zq Bundle.tN "UNASSIGNED_STACK" Bundle.steD A s s.heap) (hN : vx_Zq Bundle.tN "SUPPRESSED_SENTINEL" Bundle.listD A s s.heap) (hS : va_S A s.heap H locs) (hsize : ls.size = c.maxLocals)
    (d0 : decode cc pc = .ok (.new ik, 3)) (d3 : decode cc (pc + 3) = .ok (.dup, 1)) (d4 : decode cc (pc + 4) = .ok (.ldc is, 2)) (d6 : decode cc (pc + 6) = .ok (.invokespecial ic, 3)) (d9 : decode cc (pc + 9) = .ok (.athrow, 1))
    (hout : ∀ x ∈ c.exceptionTable.toList, covers x (pc + 9) = false)
    (hRframes : names.length + 3 < R.frames) (hRlocals : (rest.map fun v => v.category).sum + (13 * (names.length + 1) + 43) ≤ R.locals) (hRcells : cells + 1 ≤ R.cells) (hRslots : slots + 6 ≤ R.slots) (hlocks : meth.locks = false)
    (hx : ∀ t : State, s.vm.Alike t.vm → H.size ≤ t.heap.size → (∀ q : Nat, q < H.size → t.heap[q]? = H[q]?) → XC cls s t)
    (hf : ∀ z ∈ locs, free z.base) (hc : cells + 1 ≤ mc) (hs : slots + 6 ≤ ms) :
    W p l e R s m args below meth c H locs cells slots (vx_MQ below Qc XC args s mc ms free) (F0 m pc ls rest) := by
  intro T hT X
  have htr : e.platform.stackTraces = false := (show e.platform.stackTraces = l.stackTraces by rw [X.admits.platform]).trans hl
  have Y := vx_rebase X (R' := { frames := R.frames, locals := R.locals, cells := 1, slots := 6 }) (Nat.le_refl _) (Nat.le_refl _) hRcells hRslots
  obtain ⟨s', hA⟩ : ∃ z, z = (T.setVm s.vm).setFrames (.invoking m args :: below) := ⟨_, rfl⟩
  rw [← hA] at Y
  have hvm : s'.vm = s.vm := by rw [hA]; rfl
  have hhp : s'.heap = H := by rw [hA]; exact hT
  have hW0 : s.WarmedH s'.vm := by rw [hvm]; exact State.WarmedH.refl s
  have hat' : ∀ w ∈ vx_atS own ic cls names, w.before args s' = true := fun w hw => vx_ot_at hW0 hvm.symm (hgood w (List.mem_cons_of_mem _ (List.mem_cons_of_mem _ hw))) (hat w hw)
  have hk' : (Cond.classLink own ik cls).before args s' = true := vx_ot_at hW0 hvm.symm (hgood _ List.mem_cons_self) hk
  have hini' : (Cond.initialized cls).before args s' = true := vx_ot_at hW0 hvm.symm (hgood _ (List.mem_cons_of_mem _ List.mem_cons_self)) hini
  have hU' : vx_Zq Bundle.tN "UNASSIGNED_STACK" Bundle.steD A s' s'.heap := by rw [hhp]; exact vx_Zq.moved hW0.alike (hU.kept hS.2.1)
  have hN' : vx_Zq Bundle.tN "SUPPRESSED_SENTINEL" Bundle.listD A s' s'.heap := by rw [hhp]; exact vx_Zq.moved hW0.alike (hN.kept hS.2.1)
  have h : ∀ w ∈ Bundle.ownAtoms own ic cls names, w.before args s' = true := vx_own hat' (vx_isRefq hU'.1) (vx_isRefq hN'.1) hU'.2.word hN'.2.word
  have hown' : s'.vm.findClass own = some m.cls := by rw [hvm]; exact hown
  have hins : (Cond.instantiable cls 6).before args s' = true := h _ (by simp [Bundle.ownAtoms])
  obtain ⟨vm₁, cX, kX, hfX, hkX, -, -, X₁, st1⟩ := Y.newCold hexec (own := own) (C := cls) (index := ik) (n := 6) hown' hk' hins hini'
    (g := F0 m pc ls rest) rfl (by rw [hb]; exact d0) (Nat.le_refl _) (Nat.le_refl _)
  generalize hT1 : (T.setVm vm₁).pushCell { cls := cX, slots := kX.instanceTypes.map defaultValue, vm := .none } = T1 at X₁ st1
  have hcat : (Value.ref T.heap.size).category = 1 := rfl
  have hcellA : T1.heap[T.heap.size]? = some (freshCell cX kX) := by rw [← hT1]; exact State.heap_pushCell_size _ _
  have d3' : decode c.code (pc + 3) = .ok (.dup, 1) := by rw [hb]; exact d3
  have d4' : decode c.code (pc + 4) = .ok (.ldc is, 2) := by rw [hb]; exact d4
  have hstr' : vk_R own is text sa s' := vk_R.warm hW0 hstr
  obtain ⟨U, hsteps, hrun, hend, hW, hsame, ce, hce, hO⟩ := X₁.ctorThrowS hexec htr (own := own) (cls := cls) (names := names) (ic := ic) hown' hcls hnames h (fun x hx => nomatch hx) hfX hkX hcellA (by rw [hhp, hT]; exact Nat.le_refl _) (msg := .ref sa) rfl
    (g := { method := m, pc := pc + 6, locals := ls, stack := .ref sa :: .ref T.heap.size :: .ref T.heap.size :: rest, locked := none }) rfl hsize rfl rfl (rest := rest) rfl
    (by rw [hb]; exact d6) (by rw [hb]; exact d9) hout hRframes (by simp only [List.map_cons, List.sum_cons, hcat]; omega) hlocks
  obtain ⟨f1, f2⟩ := vx_frame hsame
  rw [hhp] at f1 f2
  have hWs : s.WarmedH U.vm := State.WarmedH.trans hW0 hW
  have hcl : s.vm.findClass cls = some ce.cls := by
    have h9 := hO.cls
    rw [hvm] at h9
    exact h9
  have hall : s.sameButNew ({ U with vm := s.vm } : State) locs mc ms := by
    subst hA
    obtain ⟨e1, e2⟩ := hsame
    rw [State.setFrames_setFrames] at e1
    have h2 : (T.setVm s.vm).sameButNew ({ U with vm := s.vm } : State) [] (0 + 1) (0 + 6) := ⟨e1, e2⟩
    have h3 := X.same.trans h2
    rw [List.append_nil] at h3
    exact h3.mono hc hs
  refine ⟨U, ?_, .threw T.heap.size, hrun, hend, Or.inr ⟨T.heap.size, rfl, cls, ce, locs, hx U hWs.alike f1 (fun q hq => f2 q hq (fun z hz => nomatch hz)), hce, hO.vm, hcl, hWs, hall, hf⟩⟩
  refine st1 _ ?_
  show Steps p.tables e below (T1.setTop { method := m, pc := pc + 3, locals := ls, stack := .ref T.heap.size :: rest, locked := none }) _
  jvm_step X₁.here [X₁.here.top, hexec, d3', Value.category]
  exact X₁.ldcString hexec (own := own) (text := text) (index := is) (a := sa) hown' hstr'.1 hstr'.2
    (g := { method := m, pc := pc + 4, locals := ls, stack := .ref T.heap.size :: .ref T.heap.size :: rest, locked := none }) rfl d4' _ hsteps
/-- 'throw new E("text")', the text by a wide index -/
theorem vx_throwSW {cc : ByteArray} {pc : Nat} (hexec : p.tables.exec = Jvm.exec) (hb : c.code = cc) (hl : l.stackTraces = false) {own cls text : String} {names : List String} {ik is ic mc ms sa : Nat} {A : Nat → Prop}
    (hown : s.vm.findClass own = some m.cls) (hcls : Bundle.fit cls = true) (hnames : ∀ n ∈ names, Bundle.fit n = true)
    (hk : (Cond.classLink own ik cls).before args s = true) (hini : (Cond.initialized cls).before args s = true) (hstr : vk_R own is text sa s) (hat : ∀ w ∈ vx_atS own ic cls names, w.before args s = true)
    (hgood : ∀ w ∈ Cond.classLink own ik cls :: Cond.initialized cls :: vx_atS own ic cls names, vx_ot w = true)
    (hU : vx_Zq Bundle.tN "UNASSIGNED_STACK" Bundle.steD A s s.heap) (hN : vx_Zq Bundle.tN "SUPPRESSED_SENTINEL" Bundle.listD A s s.heap) (hS : va_S A s.heap H locs) (hsize : ls.size = c.maxLocals)
    (d0 : decode cc pc = .ok (.new ik, 3)) (d3 : decode cc (pc + 3) = .ok (.dup, 1)) (d4 : decode cc (pc + 4) = .ok (.ldc_w is, 3)) (d7 : decode cc (pc + 7) = .ok (.invokespecial ic, 3)) (d10 : decode cc (pc + 10) = .ok (.athrow, 1))
    (hout : ∀ x ∈ c.exceptionTable.toList, covers x (pc + 10) = false)
    (hRframes : names.length + 3 < R.frames) (hRlocals : (rest.map fun v => v.category).sum + (13 * (names.length + 1) + 43) ≤ R.locals) (hRcells : cells + 1 ≤ R.cells) (hRslots : slots + 6 ≤ R.slots) (hlocks : meth.locks = false)
    (hx : ∀ t : State, s.vm.Alike t.vm → H.size ≤ t.heap.size → (∀ q : Nat, q < H.size → t.heap[q]? = H[q]?) → XC cls s t)
    (hf : ∀ z ∈ locs, free z.base) (hc : cells + 1 ≤ mc) (hs : slots + 6 ≤ ms) :
    W p l e R s m args below meth c H locs cells slots (vx_MQ below Qc XC args s mc ms free) (F0 m pc ls rest) := by
  intro T hT X
  have htr : e.platform.stackTraces = false := (show e.platform.stackTraces = l.stackTraces by rw [X.admits.platform]).trans hl
  have Y := vx_rebase X (R' := { frames := R.frames, locals := R.locals, cells := 1, slots := 6 }) (Nat.le_refl _) (Nat.le_refl _) hRcells hRslots
  obtain ⟨s', hA⟩ : ∃ z, z = (T.setVm s.vm).setFrames (.invoking m args :: below) := ⟨_, rfl⟩
  rw [← hA] at Y
  have hvm : s'.vm = s.vm := by rw [hA]; rfl
  have hhp : s'.heap = H := by rw [hA]; exact hT
  have hW0 : s.WarmedH s'.vm := by rw [hvm]; exact State.WarmedH.refl s
  have hat' : ∀ w ∈ vx_atS own ic cls names, w.before args s' = true := fun w hw => vx_ot_at hW0 hvm.symm (hgood w (List.mem_cons_of_mem _ (List.mem_cons_of_mem _ hw))) (hat w hw)
  have hk' : (Cond.classLink own ik cls).before args s' = true := vx_ot_at hW0 hvm.symm (hgood _ List.mem_cons_self) hk
  have hini' : (Cond.initialized cls).before args s' = true := vx_ot_at hW0 hvm.symm (hgood _ (List.mem_cons_of_mem _ List.mem_cons_self)) hini
  have hU' : vx_Zq Bundle.tN "UNASSIGNED_STACK" Bundle.steD A s' s'.heap := by rw [hhp]; exact vx_Zq.moved hW0.alike (hU.kept hS.2.1)
  have hN' : vx_Zq Bundle.tN "SUPPRESSED_SENTINEL" Bundle.listD A s' s'.heap := by rw [hhp]; exact vx_Zq.moved hW0.alike (hN.kept hS.2.1)
  have h : ∀ w ∈ Bundle.ownAtoms own ic cls names, w.before args s' = true := vx_own hat' (vx_isRefq hU'.1) (vx_isRefq hN'.1) hU'.2.word hN'.2.word
  have hown' : s'.vm.findClass own = some m.cls := by rw [hvm]; exact hown
  have hins : (Cond.instantiable cls 6).before args s' = true := h _ (by simp [Bundle.ownAtoms])
  obtain ⟨vm₁, cX, kX, hfX, hkX, -, -, X₁, st1⟩ := Y.newCold hexec (own := own) (C := cls) (index := ik) (n := 6) hown' hk' hins hini'
    (g := F0 m pc ls rest) rfl (by rw [hb]; exact d0) (Nat.le_refl _) (Nat.le_refl _)
  generalize hT1 : (T.setVm vm₁).pushCell { cls := cX, slots := kX.instanceTypes.map defaultValue, vm := .none } = T1 at X₁ st1
  have hcat : (Value.ref T.heap.size).category = 1 := rfl
  have hcellA : T1.heap[T.heap.size]? = some (freshCell cX kX) := by rw [← hT1]; exact State.heap_pushCell_size _ _
  have d3' : decode c.code (pc + 3) = .ok (.dup, 1) := by rw [hb]; exact d3
  have d4' : decode c.code (pc + 4) = .ok (.ldc_w is, 3) := by rw [hb]; exact d4
  have hstr' : vk_R own is text sa s' := vk_R.warm hW0 hstr
  obtain ⟨U, hsteps, hrun, hend, hW, hsame, ce, hce, hO⟩ := X₁.ctorThrowS hexec htr (own := own) (cls := cls) (names := names) (ic := ic) hown' hcls hnames h (fun x hx => nomatch hx) hfX hkX hcellA (by rw [hhp, hT]; exact Nat.le_refl _) (msg := .ref sa) rfl
    (g := { method := m, pc := pc + 7, locals := ls, stack := .ref sa :: .ref T.heap.size :: .ref T.heap.size :: rest, locked := none }) rfl hsize rfl rfl (rest := rest) rfl
    (by rw [hb]; exact d7) (by rw [hb]; exact d10) hout hRframes (by simp only [List.map_cons, List.sum_cons, hcat]; omega) hlocks
  obtain ⟨f1, f2⟩ := vx_frame hsame
  rw [hhp] at f1 f2
  have hWs : s.WarmedH U.vm := State.WarmedH.trans hW0 hW
  have hcl : s.vm.findClass cls = some ce.cls := by
    have h9 := hO.cls
    rw [hvm] at h9
    exact h9
  have hall : s.sameButNew ({ U with vm := s.vm } : State) locs mc ms := by
    subst hA
    obtain ⟨e1, e2⟩ := hsame
    rw [State.setFrames_setFrames] at e1
    have h2 : (T.setVm s.vm).sameButNew ({ U with vm := s.vm } : State) [] (0 + 1) (0 + 6) := ⟨e1, e2⟩
    have h3 := X.same.trans h2
    rw [List.append_nil] at h3
    exact h3.mono hc hs
  refine ⟨U, ?_, .threw T.heap.size, hrun, hend, Or.inr ⟨T.heap.size, rfl, cls, ce, locs, hx U hWs.alike f1 (fun q hq => f2 q hq (fun z hz => nomatch hz)), hce, hO.vm, hcl, hWs, hall, hf⟩⟩
  refine st1 _ ?_
  show Steps p.tables e below (T1.setTop { method := m, pc := pc + 3, locals := ls, stack := .ref T.heap.size :: rest, locked := none }) _
  jvm_step X₁.here [X₁.here.top, hexec, d3', Value.category]
  exact X₁.ldcStringW hexec (own := own) (text := text) (index := is) (a := sa) hown' hstr'.1 hstr'.2
    (g := { method := m, pc := pc + 4, locals := ls, stack := .ref T.heap.size :: .ref T.heap.size :: rest, locked := none }) rfl d4' _ hsteps
end Ends
section Bodies
variable {l : Launch}
theorem vx_ofW {y : MethodName} {ws ws' : List Cond} {rm : Room} {Pc : Array Value → State → Prop} {Qc : Array Value → State → Outcome → State → Prop} {XC : String → State → State → Prop} {mc ms : Nat} {free : Addr → Prop} {cc : ByteArray} {maxL : Nat} {ret : Option FieldType}
    (hy : plainName y.cls = true) (hw : ws = Cond.code y cc maxL ret :: ws')
    (body : ∀ p e s m args below meth c s₁, BodyLoose p l y (headSpec ws rm) cc maxL ret e s m args below meth c s₁ → c.maxLocals = maxL → (∀ x ∈ c.exceptionTable.toList, False) → Pc args s →
      W p l e (headSpec ws rm).room s m args below meth c s.heap [] 0 0 (vx_MQ below Qc XC args s mc ms free) (entryFrame m args maxL)) : vx_Met l y ws rm Pc Qc XC mc ms free := by
  refine MetFree.of_bodyS (code := cc) (maxLocals := maxL) (ret := ret) hy ?_ ?_
  · intro args s m h hn
    obtain ⟨meth, c, h1, h2, h3, h4, h5, h6, -, -⟩ := Cond.code_spec hn (atoms_spec (ws := ws) h _ (by rw [hw]; exact List.mem_cons_self))
    exact ⟨meth, c, h1, h2, h3, h4, h5, h6⟩
  · intro p e s m args below meth c s₁ B hml hP _
    have hh0 : s₁.heap = s.heap := by rw [B.state]; rfl
    have ht : ∀ x ∈ c.exceptionTable.toList, False := by
      obtain ⟨meth9, c9, h1, h2, -, -, -, -, h7, -⟩ := Cond.code_spec B.named (atoms_spec (ws := ws) B.pre _ (by rw [hw]; exact List.mem_cons_self))
      cases Option.some.inj (h1.symm.trans B.method)
      cases Option.some.inj (h2.symm.trans (Stand.of_body B).code)
      intro x hx
      rw [Array.isEmpty_iff.mp h7] at hx
      cases hx
    obtain ⟨t, a1, o, b1, b2, b3⟩ := body p e s m args below meth c s₁ B hml ht hP s₁ hh0 (Stand.of_body B)
    exact ⟨t, o, a1, b1, b2, b3⟩
/-- the table of a body with handlers -/
theorem vx_table {p : Program} {x y : MethodName} {S : Spec} {cc bytes : ByteArray} {maxL maxL' : Nat} {ret ret' : Option FieldType} {e : Env} {s s₁ : State} {m : MethodId} {args : Array Value} {below : List Frame} {meth : Method} {c : Code} {hh : List (Nat × Nat × Nat × Nat)}
    (B : BodyLoose p l y S cc maxL ret e s m args below meth c s₁) (h : (Cond.codeWith y bytes maxL' ret' hh).before args s = true) : c.exceptionTable.toList = tableOf hh := by
  obtain ⟨m9, meth9, c9, hn9, h1, h2, -, -, h6, -⟩ := Cond.codeWith_spec h
  cases Option.some.inj (hn9.symm.trans B.named)
  cases Option.some.inj (h1.symm.trans B.method)
  cases Option.some.inj (h2.symm.trans (Stand.of_body B).code)
  rw [← h6, table_eq]
end Bodies
end VXA
/-! ===== END ===== -/
/-! ===== BEGIN a static call of a method with an exception table ===== -/
section VXS
variable {p : Program} {l : Launch} {e : Env} {R : Room} {s : State} {m : MethodId} {args : Array Value} {below : List Frame} {meth : Method} {c : Code} {T : State} {H : Heap} {locs : List Loc} {cells slots : Nat}
abbrev vx_CSW (R : Room) (s : State) (args : Array Value) (own : String) (index : Nat) (y : MethodName) (bytes : ByteArray) (maxL : Nat) (ret : Option FieldType) (hh : List (Nat × Nat × Nat × Nat)) (ws : List Cond) (rm : Room) (mc ms n : Nat) : Prop :=
  (rm.cells = mc ∧ rm.slots = ms ∧ rm.frames + 1 ≤ R.frames ∧ 8 + (maxL + 11) + rm.locals ≤ R.locals ∧ (∀ w ∈ ws, ∀ (a' : Array Value) (U : State), s.WarmedH U.vm → w.before a' U = true) ∧ Cond.codeWith y bytes maxL ret hh ∈ ws) ∧
  (Cond.codeWith y bytes maxL ret hh).before args s = true ∧ (Cond.initialized y.cls).before args s = true ∧ (y.cls ≠ "java/lang/invoke/MethodHandle" ∧ y.cls ≠ "java/lang/invoke/VarHandle") ∧
  (∀ sig, parseMethodDescriptor y.desc = some sig → n = sig.parameters.length) ∧ (Cond.methodLink own index y).before args s = true ∧ (Cond.static y).before args s = true
theorem vx_cwSW {own : String} {index maxL mc ms : Nat} {y : MethodName} {bytes : ByteArray} {ret : Option FieldType} {hh : List (Nat × Nat × Nat × Nat)} {Ts ws ws' : List Cond} {rm : Room} (n : Nat) (ht : ∀ w ∈ Ts, w.before args s = true) (hT : GoodIn Ts (va_wsS own index y ws)) (hw : ws = Cond.codeWith y bytes maxL ret hh :: ws') (hrc : rm.cells = mc) (hrs : rm.slots = ms)
    (hd : y.cls ≠ "java/lang/invoke/MethodHandle" ∧ y.cls ≠ "java/lang/invoke/VarHandle" ∧ (parseMethodDescriptor y.desc).map (fun d => d.parameters.length) = some n) (hR : rm.frames + 1 ≤ R.frames ∧ 8 + (maxL + 11) + rm.locals ≤ R.locals) :
    vx_CSW R s args own index y bytes maxL ret hh ws rm mc ms n := by
  have ok : ∀ w ∈ va_wsS own index y ws, w.before args s = true := fun w h => ht w (hT w h).1
  have hG : GoodIn Ts ws := fun w h => hT w (by unfold va_wsS; exact List.mem_append_right _ h)
  have hc : Cond.codeWith y bytes maxL ret hh ∈ ws := by rw [hw]; exact List.mem_cons_self
  refine ⟨⟨hrc, hrs, hR.1, hR.2, pay_in ht hG, hc⟩, ht _ (hG _ hc).1, ok _ (by simp [va_wsS]), ⟨hd.1, hd.2.1⟩, fun sig h => ?_, ok _ (by simp [va_wsS]), ok _ (by simp [va_wsS])⟩
  have h2 := hd.2.2
  rw [h] at h2
  exact (Option.some.inj h2).symm
theorem vx_callSW (X : Stand p l e R s m args below meth c T locs cells slots) (hexec : p.tables.exec = Jvm.exec) {own : String} {index : Nat} {y : MethodName} {bytes : ByteArray} {maxL : Nat} {ret : Option FieldType} {hh : List (Nat × Nat × Nat × Nat)}
    (hown : s.vm.findClass own = some m.cls) (hlink : (Cond.methodLink own index y).before args s = true) (hstat : (Cond.static y).before args s = true) (hinit : (Cond.initialized y.cls).before args s = true)
    (hcode : (Cond.codeWith y bytes maxL ret hh).before args s = true) (hy : y.cls ≠ "java/lang/invoke/MethodHandle" ∧ y.cls ≠ "java/lang/invoke/VarHandle")
    {W9 : Nat} {Pre : Pt → Array Value → Prop} {Post : Pt → Array Value → Option Value → Pt → Prop} (hK : Back l R p e below s args y 3 W9 Pre Post)
    {g : JFrame} (hg : g.method = m) (hsize : g.locals.size = c.maxLocals) {argsL rest : List Value} (hlen : ∀ sig, parseMethodDescriptor y.desc = some sig → argsL.length = sig.parameters.length)
    (hstack : g.stack = argsL.reverse ++ rest) (hW : 2 * g.monitorRoom + (rest.map fun v => v.category).sum ≤ W9) (hdg : decode c.code g.pc = .ok (.invokestatic index, 3))
    (hpre : ∀ vm₁, s.WarmedH vm₁ → Pre ⟨T.setVm vm₁, locs, cells, slots⟩ argsL.toArray) :
    ∃ (v : Option Value) (vm₁ : Vm) (B : Pt), s.WarmedH vm₁ ∧ Stand p l e R s m args below meth c B.U B.locs B.cells B.slots ∧ Post ⟨T.setVm vm₁, locs, cells, slots⟩ argsL.toArray v B ∧
      ∀ target, Steps p.tables e below (B.U.setTop { g with pc := g.pc + 3, stack := v.toList ++ rest }) target → Steps p.tables e below (T.setTop g) target := by
  obtain ⟨mk, methM, cM, hnamed, hmethM, -, -, -, -, -, -, hsigM⟩ := Cond.codeWith_spec hcode
  have hstatic : methM.isStatic = true := Cond.static_spec hnamed hmethM hstat
  obtain ⟨kP, hkP, -⟩ := className_of_methodNamed hnamed
  have hinitP : kP.init = .initialized := Cond.initialized_spec (findClass_of_methodNamed hnamed) hkP hinit
  obtain ⟨vm₁, X₁, hstep₁⟩ := X.invokestatic hexec hown hlink hnamed hmethM hstatic hkP hinitP hy (g := g) hg (argsL := argsL) (rest := rest) (hlen _ hsigM) hstack hdg
  obtain ⟨v, B, X', hpost, hsteps⟩ := hK m meth c ⟨T.setVm vm₁, locs, cells, slots⟩ { g with stack := rest } (.invokestatic index) mk argsL.toArray X₁ hg hsize hdg hW (X₁.named hnamed) (hpre vm₁ X₁.warmed)
  exact ⟨v, vm₁, B, X₁.warmed, X', hpost, fun target h => hstep₁ _ fun acts => by rw [doInvoke_state]; exact hsteps.trans h⟩
theorem vx_runSW {y : MethodName} {bytes cc : ByteArray} {maxL nL mc ms n index : Nat} {ret : Option FieldType} {hh : List (Nat × Nat × Nat × Nat)} {ws : List Cond} {rm : Room} {Pc : Array Value → State → Prop} {Qc : Array Value → State → Outcome → State → Prop} {free : Addr → Prop} {Ts : List Cond} {own : String} {As rest : List Value} {g : JFrame}
    (S : CallFix p m c cc nL s args Ts own) (hM : Met l y ws rm Pc Qc mc ms free) (cw : vx_CSW R s args own index y bytes maxL ret hh ws rm mc ms n) (hp : PreS s H Pc As)
    (hg : g.method = m) (hn : As.length = n) (hsize : g.locals.size = nL) (hstack : g.stack = As.reverse ++ rest) (hW : 2 * g.monitorRoom + (rest.map fun v => v.category).sum ≤ 8) (hdg : decode cc g.pc = .ok (.invokestatic index, 3)) (hf : cells + mc ≤ R.cells ∧ slots + ms ≤ R.slots) :
    va_Run p l e R s m args below meth c H locs cells slots mc ms g rest (Qc As.toArray) (free) := by
  obtain ⟨⟨hrc, hrs, hfr, hlo, hws, hcw⟩, hcode, hini, hy, hlen, hl, hstt⟩ := cw
  have hK : Back l R p e below s args y 3 8 (PreOf R mc ms Pc) (PostOf Qc mc ms free) := va_backW (hh := hh) (bytes := bytes) (maxL := maxL) (ret := ret) hM hp.1 hrc hrs hfr hlo hws hcw (fun a' U hW => word_at hW (Or.inl (by first | rfl | simp [Cond.onTables, Cond.keeps, Cond.steady])) hini)
  obtain ⟨hx, hb, hml, ho, -⟩ := S
  intro T hT X
  obtain ⟨v, vm₁, ⟨U', l2, c2, s2⟩, hW₁, X', ⟨g', mk, t, L, e1, e2, hq, h1, hL, h2, h3⟩, st⟩ := vx_callSW X hx (hh := hh) (bytes := bytes) (maxL := maxL) (ret := ret) ho hl hstt hini hcode hy hK hg (hsize.trans hml.symm) (argsL := As) (rest := rest) (fun sig h => hn.trans (hlen sig h)) hstack hW (by rw [hb]; exact hdg)
    (fun vm₁ hW₁ => ⟨hf.1, hf.2, hp.2 (T.setVm vm₁) hT hW₁⟩)
  dsimp only [Pt.U, Pt.locs, Pt.cells, Pt.slots] at X' e1 e2 h1 h2 h3 st
  subst h1; subst h2; subst h3
  exact ⟨v, (T.setVm vm₁).calling g' mk As.toArray, t, U', L, hT, X', hL, e1, e2, hq, st⟩
/-- not caught here, past rows that name other classes: it goes on to the caller -/
theorem vx_outP {p : Program} {l : Launch} {e : Env} {R : Room} {s : State} {m : MethodId} {args : Array Value} {below : List Frame} {meth : Method} {c : Code} {H : Heap} {locs : List Loc} {cells slots : Nat} {free : Addr → Prop} {ls : Array Slot} {rest : List Value} {Qc : Array Value → State → Outcome → State → Prop} {XC : String → State → State → Prop}
    {pc : Nat} {own E : String} {ce : Cell} {q : Addr} {mc ms : Nat} (hown : s.vm.findClass own = some m.cls) (hlocks : meth.locks = false)
    (hpass : ∀ z ∈ c.exceptionTable.toList, covers z pc = false ∨ (z.catchType ≠ 0 ∧ ∃ nm : String, (Cond.classLink own z.catchType nm).before args s = true ∧ va_Nc E nm s)) (hcell : H[q]? = some ce) (hv : ce.vm = .none) (hcl : s.vm.findClass E = some ce.cls)
    (hx : ∀ t : State, t.heap = H → s.vm.Alike t.vm → XC E s t) (hf : ∀ z ∈ locs, free z.base) (hc : cells ≤ mc) (hs : slots ≤ ms) :
    vx_W p l e R s m args below meth c H locs cells slots (vx_MQ below Qc XC args s mc ms free) (F0 m pc ls rest) q := by
  intro T hT X
  have hpl : e.platform.magicAccessors = ({} : Platform).magicAccessors := by rw [X.admits.platform]
  obtain ⟨vm', hW', X', st⟩ := X.outThrough hlocks q (g := F0 m pc ls rest) rfl rfl rfl (cell := ce) (by rw [hT]; exact hcell) (by rw [hv]; rfl)
    (by obtain ⟨k9, h9, -⟩ := Vm.findClass_spec hcl; exact ⟨k9, h9⟩) (fun z hz => by
      rcases hpass z hz with h | ⟨hz0, nm, hl1, hn1⟩
      · exact Or.inl h
      · obtain ⟨c6, hc6, hcl6⟩ := Cond.classLink_spec hown hl1 e.platform hpl
        obtain ⟨a8, b8, h1, h2, h3⟩ := hn1
        cases Option.some.inj (h1.symm.trans hcl)
        cases Option.some.inj (h2.symm.trans hc6)
        exact Or.inr ⟨hz0, _, hcl6, h3⟩)
  obtain ⟨g₀, hfr⟩ := X'.frames_eq
  have hcell9 : ((T.setVm vm').setFrames (.throwing q :: below)).heap[q]? = some ce := by
    show T.heap[q]? = some ce
    rw [hT]; exact hcell
  have hend : Ended ((T.setVm vm').setFrames (.throwing q :: below)) below (.threw q) := State.frames_setFrames _ (State.cur_lt_of_frames hfr)
  refine ⟨(T.setVm vm').setFrames (.throwing q :: below), ?_, .threw q, X'.here.running, hend, Or.inr ⟨q, rfl, E, ce, locs, hx _ hT (X'.ends _).1.alike, hcell9, hv, hcl, (X'.ends _).1, (X'.ends _).2.mono hc hs, hf⟩⟩
  rw [X.pushThrowing_eq]
  exact st
/-- a thing of a world lies in the heap -/
theorem vx_lt {D : va_G} {cl : List vw_C} {ws : va_W} {H1 : Heap} (h : va_P D cl ws H1) {k : Nat} {q : Nat × va_E} (hk : ws[k]? = some q) : q.1 < H1.size := (h k q hk).lt
end VXS
/-! ===== END ===== -/
/-! ===== BEGIN methods with a table of their own: called by a name, returning or throwing ===== -/
section VXH
/-! vx_backW, vx_callVX, vx_callSX, vx_callVW, vx_runVW, vx_runVX, vx_runSX, vx_ofWH follow the same proofs as their sisters above (Free/Laws.lean, Shelf42/LK1.lean); vx_outP calls Shelf42/NT130.lean (outThrough). -/
section
variable {l : Launch} {R : Room} {p : Program} {e : Env} {below : List Frame} {s : State} {sargs : Array Value} {y : MethodName} {len W9 : Nat}
theorem vx_backW {ws : List Cond} {rm : Room} {Pc : Array Value → State → Prop} {Qc : Array Value → State → Outcome → State → Prop} {XC : String → State → State → Prop} {mc ms : Nat} {free : Addr → Prop} {bytes : ByteArray} {maxL : Nat} {ret : Option FieldType} {hh : List (Nat × Nat × Nat × Nat)}
    (hM : vx_Met l y ws rm Pc Qc XC mc ms free) (hblind : FrameBlind Pc) (hrc : rm.cells = mc) (hrs : rm.slots = ms)
    (hframes : rm.frames + 1 ≤ R.frames) (hlocals : W9 + (maxL + 11) + rm.locals ≤ R.locals)
    (hws : ∀ w ∈ ws, ∀ a' U, s.WarmedH U.vm → w.before a' U = true) (hcode : Cond.codeWith y bytes maxL ret hh ∈ ws) (hinit : ∀ a' U, s.WarmedH U.vm → (Cond.initialized y.cls).before a' U = true) :
    vx_Back l R p e below s sargs y len W9 (PreOf R mc ms Pc) (PostOf Qc mc ms free) (vx_Post XC mc ms free) := by
  intro m meth c A g ig mk a X hg hsize hdg hW hn hp
  have h1 : (headSpec ws rm).pre.before a A.U = true := atoms_intro fun w hw => hws w hw _ _ X.warmed
  have h2 : (Cond.codeWith y bytes maxL ret hh).before a A.U = true := hws _ hcode _ _ X.warmed
  have h3 : (Cond.initialized y.cls).before a A.U = true := hinit _ _ X.warmed
  have h4 : A.cells + (headSpec ws rm).room.cells ≤ R.cells := by rw [show (headSpec ws rm).room.cells = mc from hrc]; exact hp.1
  have h5 : A.slots + (headSpec ws rm).room.slots ≤ R.slots := by rw [show (headSpec ws rm).room.slots = ms from hrs]; exact hp.2.1
  have hPc : Pc a (A.U.calling g mk a) := hblind _ _ _ _ hp.2.2
  obtain ⟨U, Ls, c0, s0⟩ := A
  dsimp only [Pt.U, Pt.locs, Pt.cells, Pt.slots] at h1 h2 h3 h4 h5 X hn hPc ⊢
  obtain ⟨m9, methY, cY, hn9, hmY, hcY, -, hlY, -⟩ := Cond.codeWith_spec h2
  cases Option.some.inj (hn9.symm.trans hn)
  obtain ⟨kY, hkY, -⟩ := className_of_methodNamed hn
  have hinitY : kY.init = .initialized := Cond.initialized_spec (findClass_of_methodNamed hn) hkY h3
  have h : At U g.method c below := by rw [hg]; exact X.here
  have hlocals9 : W9 + (maxL + 11) + (headSpec ws rm).room.locals ≤ R.locals := hlocals
  have happ : (headSpec ws rm).appliesLoose y e.platform (U.calling g mk a) = true :=
    Spec.appliesLoose_calling (g := g) h hdg hn hkY hinitY
      (X.room_calling (g := g) (R' := (headSpec ws rm).room) hsize hmY hcY hframes (by rw [hlY]; omega) h4 h5) h1
  obtain ⟨mid, hmid⟩ := h.above
  have hfr : (U.setTop g).frames = (.java g :: mid) ++ below := by rw [State.frames_setTop' g h.top, hmid]; rfl
  obtain ⟨o, s₂, hsteps, -, hend, hq⟩ := Steps.callFree hM p X.admits X.cas X.clock (acts := []) hfr happ hPc trivial
  have hq' : vx_Q Qc XC mc ms free a (U.calling g mk a) o s₂ := hq
  rw [State.frames_setTop' g h.top] at hend
  obtain ⟨g₀, hg0⟩ := Option.isSome_iff_exists.mp h.top
  obtain ⟨r, hr⟩ := State.topJava?_eq_some.mp hg0
  have hr' : (({ U with heap := s₂.heap, slotsUsed := s₂.slotsUsed } : State).setVm s₂.vm).frames = .java g₀ :: r := hr
  rcases hq' with ⟨hqc, L, hfe, hL⟩ | ⟨q, rfl, E, ce, L, hx, hce, hcv, hcl, hW₂, hsm, hL⟩
  · obtain ⟨⟨v, rfl⟩, hW₂, e2, q2, q3, q4, q5, q6⟩ := id hfe
    have e3 : s₂ = ({ (U.calling g mk a).setFrames s₂.frames with heap := s₂.heap, slotsUsed := s₂.slotsUsed } : State).setVm s₂.vm := by
      have : s₂ = ({ s₂ with vm := (U.calling g mk a).vm } : State).setVm s₂.vm := rfl
      rw [e2] at this
      exact this
    obtain ⟨c₂, i₂, len₂, hc₂, hd₂, hf₂⟩ := hend
    have hW' : U.WarmedH s₂.vm := hW₂
    have hcc : c₂ = c := by
      have h1 : s₂.code? g.method = U.code? g.method := by
        rw [State.code?_eq, State.code?_eq, hW'.alike.method?]
      exact Option.some.inj (hc₂.symm.trans (h1.trans h.code))
    subst hcc
    have hlen : len₂ = len := by rw [hdg] at hd₂; cases hd₂; rfl
    subst hlen
    have hs₂ : s₂ = (({ U with heap := s₂.heap, slotsUsed := s₂.slotsUsed } : State).setVm s₂.vm).setTop { g with pc := g.pc + len₂, stack := v.toList ++ g.stack } := by
      refine e3.trans ?_
      rw [hf₂, State.calling_eq h.top, State.setFrames_setFrames, State.setTop_of_frames _ hr', hr]
      rfl
    have hsame : U.sameButNew ({ U with heap := s₂.heap, slotsUsed := s₂.slotsUsed } : State) L mc ms := by
      refine ⟨?_, q2, q3, q4, q5, q6⟩
      obtain ⟨t, ht, -⟩ := State.frames_cons hr
      show ({ U with heap := s₂.heap, slotsUsed := s₂.slotsUsed } : State) = { U.setFrames U.frames with heap := s₂.heap, slotsUsed := s₂.slotsUsed }
      rw [State.setFrames_self ht]
    subst hg
    refine Or.inl ⟨v, ⟨(({ U with heap := s₂.heap, slotsUsed := s₂.slotsUsed } : State).setVm s₂.vm), Ls ++ L, c0 + mc, s0 + ms⟩,
      ⟨X.admits, X.cas, X.clock, X.frames, X.room, X.hears, X.method, X.code, (X.here.setHeapUsed s₂.heap s₂.slotsUsed).setVm hW'.alike, X.tail, State.WarmedH.trans X.warmed hW', X.limits, X.bytes, X.same.trans (hsame.setVm s.vm)⟩,
      ⟨g, mk, s₂, L, rfl, rfl, hqc, rfl, hL, rfl, rfl⟩, ?_⟩
    show Steps p.tables e below _ ((({ U with heap := s₂.heap, slotsUsed := s₂.slotsUsed } : State).setVm s₂.vm).setTop { g with pc := g.pc + len₂, stack := v.toList ++ g.stack })
    rw [← hs₂]
    exact hsteps
  · obtain ⟨e2, q2, q3, q4, q5, q6⟩ := id hsm
    have e3 : s₂ = ({ (U.calling g mk a).setFrames s₂.frames with heap := s₂.heap, slotsUsed := s₂.slotsUsed } : State).setVm s₂.vm := by
      have : s₂ = ({ s₂ with vm := (U.calling g mk a).vm } : State).setVm s₂.vm := rfl
      rw [e2] at this
      exact this
    have hf₂ : s₂.frames = .throwing q :: .java g :: U.frames.tail := hend
    have hW' : U.WarmedH s₂.vm := hW₂
    have hs₂ : s₂ = ((({ U with heap := s₂.heap, slotsUsed := s₂.slotsUsed } : State).setVm s₂.vm).setTop g).pushFrame (.throwing q) := by
      refine e3.trans ?_
      rw [hf₂, State.calling_eq h.top, State.setFrames_setFrames, State.pushFrame, State.frames_setTop _ hr', State.setTop_of_frames _ hr', State.setFrames_setFrames, hr]
      rfl
    have hsame : U.sameButNew ({ U with heap := s₂.heap, slotsUsed := s₂.slotsUsed } : State) L mc ms := by
      refine ⟨?_, q2, q3, q4, q5, q6⟩
      obtain ⟨t, ht, -⟩ := State.frames_cons hr
      show ({ U with heap := s₂.heap, slotsUsed := s₂.slotsUsed } : State) = { U.setFrames U.frames with heap := s₂.heap, slotsUsed := s₂.slotsUsed }
      rw [State.setFrames_self ht]
    subst hg
    refine Or.inr ⟨q, ⟨(({ U with heap := s₂.heap, slotsUsed := s₂.slotsUsed } : State).setVm s₂.vm), Ls ++ L, c0 + mc, s0 + ms⟩,
      ⟨X.admits, X.cas, X.clock, X.frames, X.room, X.hears, X.method, X.code, (X.here.setHeapUsed s₂.heap s₂.slotsUsed).setVm hW'.alike, X.tail, State.WarmedH.trans X.warmed hW', X.limits, X.bytes, X.same.trans (hsame.setVm s.vm)⟩,
      ⟨g, mk, s₂, L, E, ce, rfl, rfl, hx, hce, hcv, hcl, rfl, hL, rfl, rfl⟩, ?_⟩
    show Steps p.tables e below _ (((({ U with heap := s₂.heap, slotsUsed := s₂.slotsUsed } : State).setVm s₂.vm).setTop g).pushFrame (.throwing q))
    rw [← hs₂]
    exact hsteps
end
variable {p : Program} {l : Launch} {e : Env} {R : Room} {s : State} {m : MethodId} {args : Array Value} {below : List Frame} {meth : Method} {c : Code} {T : State} {H : Heap} {locs : List Loc} {cells slots : Nat}
theorem vx_callVX (X : Stand p l e R s m args below meth c T locs cells slots) (hexec : p.tables.exec = Jvm.exec) {own C : String} {index : Nat} {y : MethodName} {bytes : ByteArray} {maxL : Nat} {ret : Option FieldType} {hh : List (Nat × Nat × Nat × Nat)}
    (hown : s.vm.findClass own = some m.cls) (hlink : (Cond.methodLink own index y).before args s = true) (hinst : (Cond.instanceMethod y).before args s = true) (hsel : (Cond.selects C y y).before args s = true)
    (hcode : (Cond.codeWith y bytes maxL ret hh).before args s = true) (hy : y.cls ≠ "java/lang/invoke/MethodHandle" ∧ y.cls ≠ "java/lang/invoke/VarHandle")
    {W9 : Nat} {Pre : Pt → Array Value → Prop} {Post : Pt → Array Value → Option Value → Pt → Prop} {PostX : Pt → Array Value → Addr → Pt → Prop} (hK : vx_Back l R p e below s args y 3 W9 Pre Post PostX)
    {b : Addr} {cellB : Cell} (hcell : T.heap[b]? = some cellB) (hobj : cellB.vm.isStatics = false) (hcls : s.vm.findClass C = some cellB.cls)
    {g : JFrame} (hg : g.method = m) (hsize : g.locals.size = c.maxLocals) {argsL rest : List Value} (hlen : ∀ sig, parseMethodDescriptor y.desc = some sig → argsL.length = sig.parameters.length)
    (hstack : g.stack = argsL.reverse ++ .ref b :: rest) (hW : 2 * g.monitorRoom + (rest.map fun v => v.category).sum ≤ W9) (hdg : decode c.code g.pc = .ok (.invokevirtual index, 3))
    (hpre : ∀ vm₁, s.WarmedH vm₁ → Pre ⟨T.setVm vm₁, locs, cells, slots⟩ (Value.ref b :: argsL).toArray) :
    (∃ (v : Option Value) (vm₁ : Vm) (B : Pt), s.WarmedH vm₁ ∧ Stand p l e R s m args below meth c B.U B.locs B.cells B.slots ∧ Post ⟨T.setVm vm₁, locs, cells, slots⟩ (Value.ref b :: argsL).toArray v B ∧
      ∀ target, Steps p.tables e below (B.U.setTop { g with pc := g.pc + 3, stack := v.toList ++ rest }) target → Steps p.tables e below (T.setTop g) target) ∨
    (∃ (q : Addr) (vm₁ : Vm) (B : Pt), s.WarmedH vm₁ ∧ Stand p l e R s m args below meth c B.U B.locs B.cells B.slots ∧ PostX ⟨T.setVm vm₁, locs, cells, slots⟩ (Value.ref b :: argsL).toArray q B ∧
      Steps p.tables e below (T.setTop g) ((B.U.setTop { g with stack := rest }).pushFrame (.throwing q))) := by
  obtain ⟨mk, methM, hnamed, hmethM, hstM, habM⟩ := Cond.instanceMethod_spec hinst
  obtain ⟨m8, methM', cM, hn8, hmethM', -, -, -, -, -, -, hsigM⟩ := Cond.codeWith_spec hcode
  cases Option.some.inj (hn8.symm.trans hnamed)
  cases hmethM.symm.trans hmethM'
  obtain ⟨c2, r2, m2, q1, q2, q3, q4, kP, hkP, hkPi⟩ := Cond.selects_spec hsel
  cases hcls.symm.trans q1
  cases (State.methodFound?_of_named hnamed hy).symm.trans q2
  cases hnamed.symm.trans q3
  have hselP : selectMethod e.platform s.vm cellB.cls mk = .method mk := by rw [Launch.admits_selectMethod X.admits]; exact q4
  obtain ⟨vm₁, X₁, hstep₁⟩ := X.invokevirtual hexec hown hlink hnamed hmethM hstM hkP hkPi hy (a := b) (cell := cellB) hcell
    (fun z h => by rw [h] at hobj; cases hobj) hselP hmethM habM hkP hkPi (g := g) hg (argsL := argsL) (rest := rest) (hlen _ hsigM) hstack hdg
  rcases hK m meth c ⟨T.setVm vm₁, locs, cells, slots⟩ { g with stack := rest } (.invokevirtual index) mk (Value.ref b :: argsL).toArray X₁ hg hsize hdg hW (X₁.named hnamed) (hpre vm₁ X₁.warmed) with ⟨v, B, X', hpost, hsteps⟩ | ⟨q, B, X', hpost, hsteps⟩
  · exact Or.inl ⟨v, vm₁, B, X₁.warmed, X', hpost, fun target h => hstep₁ _ fun acts => by rw [doInvoke_state]; exact hsteps.trans h⟩
  · exact Or.inr ⟨q, vm₁, B, X₁.warmed, X', hpost, hstep₁ _ fun acts => by rw [doInvoke_state]; exact hsteps⟩
theorem vx_callSX (X : Stand p l e R s m args below meth c T locs cells slots) (hexec : p.tables.exec = Jvm.exec) {own : String} {index : Nat} {y : MethodName} {bytes : ByteArray} {maxL : Nat} {ret : Option FieldType} {hh : List (Nat × Nat × Nat × Nat)}
    (hown : s.vm.findClass own = some m.cls) (hlink : (Cond.methodLink own index y).before args s = true) (hstat : (Cond.static y).before args s = true) (hinit : (Cond.initialized y.cls).before args s = true)
    (hcode : (Cond.codeWith y bytes maxL ret hh).before args s = true) (hy : y.cls ≠ "java/lang/invoke/MethodHandle" ∧ y.cls ≠ "java/lang/invoke/VarHandle")
    {W9 : Nat} {Pre : Pt → Array Value → Prop} {Post : Pt → Array Value → Option Value → Pt → Prop} {PostX : Pt → Array Value → Addr → Pt → Prop} (hK : vx_Back l R p e below s args y 3 W9 Pre Post PostX)
    {g : JFrame} (hg : g.method = m) (hsize : g.locals.size = c.maxLocals) {argsL rest : List Value} (hlen : ∀ sig, parseMethodDescriptor y.desc = some sig → argsL.length = sig.parameters.length)
    (hstack : g.stack = argsL.reverse ++ rest) (hW : 2 * g.monitorRoom + (rest.map fun v => v.category).sum ≤ W9) (hdg : decode c.code g.pc = .ok (.invokestatic index, 3))
    (hpre : ∀ vm₁, s.WarmedH vm₁ → Pre ⟨T.setVm vm₁, locs, cells, slots⟩ argsL.toArray) :
    (∃ (v : Option Value) (vm₁ : Vm) (B : Pt), s.WarmedH vm₁ ∧ Stand p l e R s m args below meth c B.U B.locs B.cells B.slots ∧ Post ⟨T.setVm vm₁, locs, cells, slots⟩ argsL.toArray v B ∧
      ∀ target, Steps p.tables e below (B.U.setTop { g with pc := g.pc + 3, stack := v.toList ++ rest }) target → Steps p.tables e below (T.setTop g) target) ∨
    (∃ (q : Addr) (vm₁ : Vm) (B : Pt), s.WarmedH vm₁ ∧ Stand p l e R s m args below meth c B.U B.locs B.cells B.slots ∧ PostX ⟨T.setVm vm₁, locs, cells, slots⟩ argsL.toArray q B ∧
      Steps p.tables e below (T.setTop g) ((B.U.setTop { g with stack := rest }).pushFrame (.throwing q))) := by
  obtain ⟨mk, methM, cM, hnamed, hmethM, -, -, -, -, -, -, hsigM⟩ := Cond.codeWith_spec hcode
  have hstatic : methM.isStatic = true := Cond.static_spec hnamed hmethM hstat
  obtain ⟨kP, hkP, -⟩ := className_of_methodNamed hnamed
  have hinitP : kP.init = .initialized := Cond.initialized_spec (findClass_of_methodNamed hnamed) hkP hinit
  obtain ⟨vm₁, X₁, hstep₁⟩ := X.invokestatic hexec hown hlink hnamed hmethM hstatic hkP hinitP hy (g := g) hg (argsL := argsL) (rest := rest) (hlen _ hsigM) hstack hdg
  rcases hK m meth c ⟨T.setVm vm₁, locs, cells, slots⟩ { g with stack := rest } (.invokestatic index) mk argsL.toArray X₁ hg hsize hdg hW (X₁.named hnamed) (hpre vm₁ X₁.warmed) with ⟨v, B, X', hpost, hsteps⟩ | ⟨q, B, X', hpost, hsteps⟩
  · exact Or.inl ⟨v, vm₁, B, X₁.warmed, X', hpost, fun target h => hstep₁ _ fun acts => by rw [doInvoke_state]; exact hsteps.trans h⟩
  · exact Or.inr ⟨q, vm₁, B, X₁.warmed, X', hpost, hstep₁ _ fun acts => by rw [doInvoke_state]; exact hsteps⟩
theorem vx_callVW (X : Stand p l e R s m args below meth c T locs cells slots) (hexec : p.tables.exec = Jvm.exec) {own C : String} {index : Nat} {y : MethodName} {bytes : ByteArray} {maxL : Nat} {ret : Option FieldType} {hh : List (Nat × Nat × Nat × Nat)}
    (hown : s.vm.findClass own = some m.cls) (hlink : (Cond.methodLink own index y).before args s = true) (hinst : (Cond.instanceMethod y).before args s = true) (hsel : (Cond.selects C y y).before args s = true)
    (hcode : (Cond.codeWith y bytes maxL ret hh).before args s = true) (hy : y.cls ≠ "java/lang/invoke/MethodHandle" ∧ y.cls ≠ "java/lang/invoke/VarHandle")
    {W9 : Nat} {Pre : Pt → Array Value → Prop} {Post : Pt → Array Value → Option Value → Pt → Prop} (hK : Back l R p e below s args y 3 W9 Pre Post)
    {b : Addr} {cellB : Cell} (hcell : T.heap[b]? = some cellB) (hobj : cellB.vm.isStatics = false) (hcls : s.vm.findClass C = some cellB.cls)
    {g : JFrame} (hg : g.method = m) (hsize : g.locals.size = c.maxLocals) {argsL rest : List Value} (hlen : ∀ sig, parseMethodDescriptor y.desc = some sig → argsL.length = sig.parameters.length)
    (hstack : g.stack = argsL.reverse ++ .ref b :: rest) (hW : 2 * g.monitorRoom + (rest.map fun v => v.category).sum ≤ W9) (hdg : decode c.code g.pc = .ok (.invokevirtual index, 3))
    (hpre : ∀ vm₁, s.WarmedH vm₁ → Pre ⟨T.setVm vm₁, locs, cells, slots⟩ (Value.ref b :: argsL).toArray) :
    ∃ (v : Option Value) (vm₁ : Vm) (B : Pt), s.WarmedH vm₁ ∧ Stand p l e R s m args below meth c B.U B.locs B.cells B.slots ∧ Post ⟨T.setVm vm₁, locs, cells, slots⟩ (Value.ref b :: argsL).toArray v B ∧
      ∀ target, Steps p.tables e below (B.U.setTop { g with pc := g.pc + 3, stack := v.toList ++ rest }) target → Steps p.tables e below (T.setTop g) target := by
  obtain ⟨mk, methM, hnamed, hmethM, hstM, habM⟩ := Cond.instanceMethod_spec hinst
  obtain ⟨m8, methM', cM, hn8, hmethM', -, -, -, -, -, -, hsigM⟩ := Cond.codeWith_spec hcode
  cases Option.some.inj (hn8.symm.trans hnamed)
  cases hmethM.symm.trans hmethM'
  obtain ⟨c2, r2, m2, q1, q2, q3, q4, kP, hkP, hkPi⟩ := Cond.selects_spec hsel
  cases hcls.symm.trans q1
  cases (State.methodFound?_of_named hnamed hy).symm.trans q2
  cases hnamed.symm.trans q3
  have hselP : selectMethod e.platform s.vm cellB.cls mk = .method mk := by rw [Launch.admits_selectMethod X.admits]; exact q4
  obtain ⟨vm₁, X₁, hstep₁⟩ := X.invokevirtual hexec hown hlink hnamed hmethM hstM hkP hkPi hy (a := b) (cell := cellB) hcell
    (fun z h => by rw [h] at hobj; cases hobj) hselP hmethM habM hkP hkPi (g := g) hg (argsL := argsL) (rest := rest) (hlen _ hsigM) hstack hdg
  obtain ⟨v, B, X', hpost, hsteps⟩ := hK m meth c ⟨T.setVm vm₁, locs, cells, slots⟩ { g with stack := rest } (.invokevirtual index) mk (Value.ref b :: argsL).toArray X₁ hg hsize hdg hW (X₁.named hnamed) (hpre vm₁ X₁.warmed)
  exact ⟨v, vm₁, B, X₁.warmed, X', hpost, fun target h => hstep₁ _ fun acts => by rw [doInvoke_state]; exact hsteps.trans h⟩
abbrev vx_CVW (R : Room) (s : State) (args : Array Value) (own C : String) (index : Nat) (y : MethodName) (bytes : ByteArray) (maxL : Nat) (ret : Option FieldType) (hh : List (Nat × Nat × Nat × Nat)) (ws : List Cond) (rm : Room) (mc ms n : Nat) : Prop :=
  (rm.cells = mc ∧ rm.slots = ms ∧ rm.frames + 1 ≤ R.frames ∧ 8 + (maxL + 11) + rm.locals ≤ R.locals ∧ (∀ w ∈ ws, ∀ (a' : Array Value) (U : State), s.WarmedH U.vm → w.before a' U = true) ∧ Cond.codeWith y bytes maxL ret hh ∈ ws) ∧
  (Cond.codeWith y bytes maxL ret hh).before args s = true ∧ (Cond.initialized y.cls).before args s = true ∧ (y.cls ≠ "java/lang/invoke/MethodHandle" ∧ y.cls ≠ "java/lang/invoke/VarHandle") ∧
  (∀ sig, parseMethodDescriptor y.desc = some sig → n = sig.parameters.length) ∧ (Cond.methodLink own index y).before args s = true ∧ (Cond.instanceMethod y).before args s = true ∧ (Cond.selects C y y).before args s = true
theorem vx_cwVW {own C : String} {index maxL mc ms : Nat} {y : MethodName} {bytes : ByteArray} {ret : Option FieldType} {hh : List (Nat × Nat × Nat × Nat)} {Ts ws ws' : List Cond} {rm : Room} (n : Nat) (ht : ∀ w ∈ Ts, w.before args s = true) (hT : GoodIn Ts (wsV own index C y ws)) (hw : ws = Cond.codeWith y bytes maxL ret hh :: ws') (hrc : rm.cells = mc) (hrs : rm.slots = ms)
    (hd : y.cls = C ∧ y.cls ≠ "java/lang/invoke/MethodHandle" ∧ y.cls ≠ "java/lang/invoke/VarHandle" ∧ (parseMethodDescriptor y.desc).map (fun d => d.parameters.length) = some n) (hR : rm.frames + 1 ≤ R.frames ∧ 8 + (maxL + 11) + rm.locals ≤ R.locals) :
    vx_CVW R s args own C index y bytes maxL ret hh ws rm mc ms n := by
  obtain ⟨hC, hd⟩ := hd
  subst hC
  have ok : ∀ w ∈ wsV own index y.cls y ws, w.before args s = true := fun w h => ht w (hT w h).1
  have hG : GoodIn Ts ws := fun w h => hT w (by unfold wsV; exact List.mem_append_right _ h)
  have hc : Cond.codeWith y bytes maxL ret hh ∈ ws := by rw [hw]; exact List.mem_cons_self
  refine ⟨⟨hrc, hrs, hR.1, hR.2, pay_in ht hG, hc⟩, ht _ (hG _ hc).1, ok _ (by simp [wsV]), ⟨hd.1, hd.2.1⟩, fun sig h => ?_, ok _ (by simp [wsV]), ok _ (by simp [wsV]), ok _ (by simp [wsV])⟩
  have h2 := hd.2.2
  rw [h] at h2
  exact (Option.some.inj h2).symm
theorem vx_runVW {y : MethodName} {bytes cc : ByteArray} {maxL nL mc ms n index : Nat} {ret : Option FieldType} {hh : List (Nat × Nat × Nat × Nat)} {ws : List Cond} {rm : Room} {Pc : Array Value → State → Prop} {Qc : Array Value → State → Outcome → State → Prop} {free : Addr → Prop} {Ts : List Cond} {own C : String} {b : Addr} {As rest : List Value} {g : JFrame}
    (S : CallFix p m c cc nL s args Ts own) (hM : Met l y ws rm Pc Qc mc ms free) (cw : vx_CVW R s args own C index y bytes maxL ret hh ws rm mc ms n) (hp : PreV s H C b Pc As)
    (hg : g.method = m) (hn : As.length = n) (hsize : g.locals.size = nL) (hstack : g.stack = As.reverse ++ .ref b :: rest) (hW : 2 * g.monitorRoom + (rest.map fun v => v.category).sum ≤ 8) (hdg : decode cc g.pc = .ok (.invokevirtual index, 3)) (hf : cells + mc ≤ R.cells ∧ slots + ms ≤ R.slots) :
    va_Run p l e R s m args below meth c H locs cells slots mc ms g rest (Qc (Value.ref b :: As).toArray) free := by
  obtain ⟨⟨hrc, hrs, hfr, hlo, hws, hcw⟩, hcode, hini, hy, hlen, hl, hin, hse⟩ := cw
  have hK : Back l R p e below s args y 3 8 (PreOf R mc ms Pc) (PostOf Qc mc ms free) := va_backW (hh := hh) (bytes := bytes) (maxL := maxL) (ret := ret) hM hp.1 hrc hrs hfr hlo hws hcw (fun a' U hW => word_at hW (Or.inl (by first | rfl | simp [Cond.onTables, Cond.keeps, Cond.steady])) hini)
  obtain ⟨hx, hb, hml, ho, -⟩ := S
  obtain ⟨-, ⟨cellB, hcB, hoB, hclB⟩, hPc⟩ := hp
  intro T hT X
  obtain ⟨v, vm₁, ⟨U', l2, c2, s2⟩, hW₁, X', ⟨g', mk, t, L, e1, e2, hq, h1, hL, h2, h3⟩, st⟩ := vx_callVW X hx (C := C) (hh := hh) (bytes := bytes) (maxL := maxL) (ret := ret) ho hl hin hse hcode hy hK (by rw [hT]; exact hcB) hoB hclB hg (hsize.trans hml.symm) (argsL := As) (rest := rest) (fun sig h => hn.trans (hlen sig h)) hstack hW (by rw [hb]; exact hdg)
    (fun vm₁ hW₁ => ⟨hf.1, hf.2, hPc (T.setVm vm₁) hT hW₁⟩)
  dsimp only [Pt.U, Pt.locs, Pt.cells, Pt.slots] at X' e1 e2 h1 h2 h3 st
  subst h1; subst h2; subst h3
  exact ⟨v, (T.setVm vm₁).calling g' mk (Value.ref b :: As).toArray, t, U', L, hT, X', hL, e1, e2, hq, st⟩
section
variable {y : MethodName} {bytes cc : ByteArray} {maxL nL mc ms n index : Nat} {ret : Option FieldType} {ws : List Cond} {rm : Room} {Pc : Array Value → State → Prop} {Qc : Array Value → State → Outcome → State → Prop} {XC : String → State → State → Prop} {free : Addr → Prop} {Ts : List Cond} {own C : String} {b : Addr} {As rest : List Value} {g : JFrame}
theorem vx_runVX {hh : List (Nat × Nat × Nat × Nat)} (S : CallFix p m c cc nL s args Ts own) (hM : vx_Met l y ws rm Pc Qc XC mc ms free) (cw : vx_CVW R s args own C index y bytes maxL ret hh ws rm mc ms n) (hp : PreV s H C b Pc As)
    (hg : g.method = m) (hn : As.length = n) (hsize : g.locals.size = nL) (hstack : g.stack = As.reverse ++ .ref b :: rest) (hW : 2 * g.monitorRoom + (rest.map fun v => v.category).sum ≤ 8) (hdg : decode cc g.pc = .ok (.invokevirtual index, 3)) (hf : cells + mc ≤ R.cells ∧ slots + ms ≤ R.slots) :
    vx_Run p l e R s m args below meth c H locs cells slots mc ms g rest (Qc (Value.ref b :: As).toArray) XC free := by
  obtain ⟨⟨hrc, hrs, hfr, hlo, hws, hcw⟩, hcode, hini, hy, hlen, hl, hin, hse⟩ := cw
  have hK : vx_Back l R p e below s args y 3 8 (PreOf R mc ms Pc) (PostOf Qc mc ms free) (vx_Post XC mc ms free) := vx_backW (hh := hh) (bytes := bytes) (maxL := maxL) (ret := ret) hM hp.1 hrc hrs hfr hlo hws hcw (fun a' U hW => word_at hW (Or.inl (by first | rfl | simp [Cond.onTables, Cond.keeps, Cond.steady])) hini)
  obtain ⟨hx, hb, hml, ho, -⟩ := S
  obtain ⟨-, ⟨cellB, hcB, hoB, hclB⟩, hPc⟩ := hp
  intro T hT X
  rcases vx_callVX X hx (C := C) (hh := hh) (bytes := bytes) (maxL := maxL) (ret := ret) ho hl hin hse hcode hy hK (by rw [hT]; exact hcB) hoB hclB hg (hsize.trans hml.symm) (argsL := As) (rest := rest) (fun sig h => hn.trans (hlen sig h)) hstack hW (by rw [hb]; exact hdg)
    (fun vm₁ hW₁ => ⟨hf.1, hf.2, hPc (T.setVm vm₁) hT hW₁⟩) with ⟨v, vm₁, ⟨U', l2, c2, s2⟩, hW₁, X', ⟨g', mk, t, L, e1, e2, hq, h1, hL, h2, h3⟩, st⟩ | ⟨q, vm₁, ⟨U', l2, c2, s2⟩, hW₁, X', ⟨g', mk, t, L, E, ce, e1, e2, hq, hce, hcv, hcl, h1, hL, h2, h3⟩, st⟩
  · dsimp only [Pt.U, Pt.locs, Pt.cells, Pt.slots] at X' e1 e2 h1 h2 h3 st
    subst h1; subst h2; subst h3
    exact Or.inl ⟨v, (T.setVm vm₁).calling g' mk (Value.ref b :: As).toArray, t, U', L, hT, X', hL, e1, e2, hq, st⟩
  · dsimp only [Pt.U, Pt.locs, Pt.cells, Pt.slots] at X' e1 e2 h1 h2 h3 st hcl
    subst h1; subst h2; subst h3
    exact Or.inr ⟨q, (T.setVm vm₁).calling g' mk (Value.ref b :: As).toArray, t, U', L, E, ce, hT, X', hL, e1, e2, hq, hce, hcv, vx_cls hW₁ hcl, st⟩
theorem vx_runSX {hh : List (Nat × Nat × Nat × Nat)} (S : CallFix p m c cc nL s args Ts own) (hM : vx_Met l y ws rm Pc Qc XC mc ms free) (cw : vx_CSW R s args own index y bytes maxL ret hh ws rm mc ms n) (hp : PreS s H Pc As)
    (hg : g.method = m) (hn : As.length = n) (hsize : g.locals.size = nL) (hstack : g.stack = As.reverse ++ rest) (hW : 2 * g.monitorRoom + (rest.map fun v => v.category).sum ≤ 8) (hdg : decode cc g.pc = .ok (.invokestatic index, 3)) (hf : cells + mc ≤ R.cells ∧ slots + ms ≤ R.slots) :
    vx_Run p l e R s m args below meth c H locs cells slots mc ms g rest (Qc As.toArray) XC free := by
  obtain ⟨⟨hrc, hrs, hfr, hlo, hws, hcw⟩, hcode, hini, hy, hlen, hl, hstt⟩ := cw
  have hK : vx_Back l R p e below s args y 3 8 (PreOf R mc ms Pc) (PostOf Qc mc ms free) (vx_Post XC mc ms free) := vx_backW (hh := hh) (bytes := bytes) (maxL := maxL) (ret := ret) hM hp.1 hrc hrs hfr hlo hws hcw (fun a' U hW => word_at hW (Or.inl (by first | rfl | simp [Cond.onTables, Cond.keeps, Cond.steady])) hini)
  obtain ⟨hx, hb, hml, ho, -⟩ := S
  intro T hT X
  rcases vx_callSX X hx (hh := hh) (bytes := bytes) (maxL := maxL) (ret := ret) ho hl hstt hini hcode hy hK hg (hsize.trans hml.symm) (argsL := As) (rest := rest) (fun sig h => hn.trans (hlen sig h)) hstack hW (by rw [hb]; exact hdg)
    (fun vm₁ hW₁ => ⟨hf.1, hf.2, hp.2 (T.setVm vm₁) hT hW₁⟩) with ⟨v, vm₁, ⟨U', l2, c2, s2⟩, hW₁, X', ⟨g', mk, t, L, e1, e2, hq, h1, hL, h2, h3⟩, st⟩ | ⟨q, vm₁, ⟨U', l2, c2, s2⟩, hW₁, X', ⟨g', mk, t, L, E, ce, e1, e2, hq, hce, hcv, hcl, h1, hL, h2, h3⟩, st⟩
  · dsimp only [Pt.U, Pt.locs, Pt.cells, Pt.slots] at X' e1 e2 h1 h2 h3 st
    subst h1; subst h2; subst h3
    exact Or.inl ⟨v, (T.setVm vm₁).calling g' mk As.toArray, t, U', L, hT, X', hL, e1, e2, hq, st⟩
  · dsimp only [Pt.U, Pt.locs, Pt.cells, Pt.slots] at X' e1 e2 h1 h2 h3 st hcl
    subst h1; subst h2; subst h3
    exact Or.inr ⟨q, (T.setVm vm₁).calling g' mk As.toArray, t, U', L, E, ce, hT, X', hL, e1, e2, hq, hce, hcv, vx_cls hW₁ hcl, st⟩
end
end VXH
theorem vx_ofWH {l : Launch} {y : MethodName} {ws ws' : List Cond} {rm : Room} {Pc : Array Value → State → Prop} {Qc : Array Value → State → Outcome → State → Prop} {XC : String → State → State → Prop} {mc ms : Nat} {free : Addr → Prop} {cc : ByteArray} {maxL : Nat} {ret : Option FieldType} {hh : List (Nat × Nat × Nat × Nat)}
    (hy : plainName y.cls = true) (hw : ws = Cond.codeWith y cc maxL ret hh :: ws')
    (body : ∀ p e s m args below meth c s₁, BodyLoose p l y (headSpec ws rm) cc maxL ret e s m args below meth c s₁ → c.maxLocals = maxL → Pc args s →
      W p l e (headSpec ws rm).room s m args below meth c s.heap [] 0 0 (vx_MQ below Qc XC args s mc ms free) (entryFrame m args maxL)) : vx_Met l y ws rm Pc Qc XC mc ms free := by
  refine MetFree.of_bodyS (code := cc) (maxLocals := maxL) (ret := ret) hy ?_ ?_
  · intro args s m h hn
    obtain ⟨m9, meth, c, hn9, h1, h2, h3, h4, -, h5, h6, -⟩ := Cond.codeWith_spec (atoms_spec (ws := ws) h _ (by rw [hw]; exact List.mem_cons_self))
    cases hn.symm.trans hn9
    exact ⟨meth, c, h1, h2, h3, h4, h5, h6⟩
  · intro p e s m args below meth c s₁ B hml hP _
    have hh0 : s₁.heap = s.heap := by rw [B.state]; rfl
    obtain ⟨t, a1, o, b1, b2, b3⟩ := body p e s m args below meth c s₁ B hml hP s₁ hh0 (Stand.of_body B)
    exact ⟨t, o, a1, b1, b2, b3⟩
/-! ===== END ===== -/
end
section
def RX0 : String := "Transversary$Covers"
def TX0 : u_T := fun k => match k with
  | 0 => ("Transversary$Covers", "least", "LTransversary$Sets;", true)
  | 1 => ("Transversary$Covers", "blockers", "LTransversary$Sets;", true)
  | 2 => ("Transversary$Covers", "blockersTwice", "LTransversary$Sets;", true)
  | 3 => ("Transversary$Covers", "isCover", "[Z", true)
  | _ => ("Transversary$Covers", "packed", "[I", true)
def tyX0 : Nat → FieldType := fun k => match k with
  | 0 => .object "Transversary$Sets"
  | 1 => .object "Transversary$Sets"
  | 2 => .object "Transversary$Sets"
  | 3 => .array .boolean
  | _ => .array .int
abbrev wsX00 : List Cond := u_ws RX0 TX0 5
theorem nmX0 : ∀ a, a < 5 → ∀ b, b < 5 → a ≠ b → (TX0 a).2.1 ≠ (TX0 b).2.1 := by decide +kernel
theorem tyX0_ok : ∀ k, k < 5 → parseFieldDescriptor (TX0 k).2.2.1 = some (tyX0 k) := by decide +kernel
abbrev cX0_init : ByteArray := prog_2_method_1_code
def yX0_init : MethodName := ⟨RX0, "<init>", "()V"⟩
def RX1 : String := "Transversary$Makers"
def TX1 : u_T := fun k => match k with
  | 0 => ("Transversary$Makers", "samples", "LTransversary$Samples;", true)
  | _ => ("Transversary$Makers", "next", "LTransversary$Sets;", true)
def tyX1 : Nat → FieldType := fun k => match k with
  | 0 => .object "Transversary$Samples"
  | _ => .object "Transversary$Sets"
abbrev wsX10 : List Cond := u_ws RX1 TX1 2
theorem nmX1 : ∀ a, a < 2 → ∀ b, b < 2 → a ≠ b → (TX1 a).2.1 ≠ (TX1 b).2.1 := by decide +kernel
theorem tyX1_ok : ∀ k, k < 2 → parseFieldDescriptor (TX1 k).2.2.1 = some (tyX1 k) := by decide +kernel
abbrev cX1_init : ByteArray := prog_3_method_1_code
def yX1_init : MethodName := ⟨RX1, "<init>", "(LTransversary$Samples;)V"⟩
abbrev cX1_partsInto : ByteArray := prog_3_method_2_code
def yX1_partsInto : MethodName := ⟨RX1, "partsInto", "(LTransversary$Sets;LTransversary$Sets;I)V"⟩
def RX2 : String := "Transversary$Orders"
def TX2 : u_T := fun k => match k with
  | 0 => ("Transversary$Orders", "lengths", "[I", true)
  | 1 => ("Transversary$Orders", "upperOf", "[I", true)
  | 2 => ("Transversary$Orders", "lowerOf", "[I", true)
  | 3 => ("Transversary$Orders", "reachedFrom", "[I", true)
  | 4 => ("Transversary$Orders", "queue", "[I", true)
  | 5 => ("Transversary$Orders", "spreadAbove", "J", false)
  | _ => ("Transversary$Orders", "spreadUnder", "J", false)
def tyX2 : Nat → FieldType := fun k => match k with
  | 0 => .array .int
  | 1 => .array .int
  | 2 => .array .int
  | 3 => .array .int
  | 4 => .array .int
  | 5 => .long
  | _ => .long
abbrev wsX20 : List Cond := u_ws RX2 TX2 7
theorem nmX2 : ∀ a, a < 7 → ∀ b, b < 7 → a ≠ b → (TX2 a).2.1 ≠ (TX2 b).2.1 := by decide +kernel
theorem tyX2_ok : ∀ k, k < 7 → parseFieldDescriptor (TX2 k).2.2.1 = some (tyX2 k) := by decide +kernel
abbrev cX2_init : ByteArray := prog_4_method_1_code
def yX2_init : MethodName := ⟨RX2, "<init>", "()V"⟩
def RX3 : String := "Transversary$Points"
def TX3 : u_T := fun k => match k with
  | 0 => ("Transversary$Points", "weights", "[I", true)
  | 1 => ("Transversary$Points", "many", "I", false)
  | _ => ("Transversary$Points", "alive", "I", false)
def tyX3 : Nat → FieldType := fun k => match k with
  | 0 => .array .int
  | 1 => .int
  | _ => .int
abbrev wsX30 : List Cond := u_ws RX3 TX3 3
theorem nmX3 : ∀ a, a < 3 → ∀ b, b < 3 → a ≠ b → (TX3 a).2.1 ≠ (TX3 b).2.1 := by decide +kernel
theorem tyX3_ok : ∀ k, k < 3 → parseFieldDescriptor (TX3 k).2.2.1 = some (tyX3 k) := by decide +kernel
abbrev cX3_init : ByteArray := prog_5_method_1_code
def yX3_init : MethodName := ⟨RX3, "<init>", "()V"⟩
abbrev cX3_begin : ByteArray := prog_5_method_2_code
def yX3_begin : MethodName := ⟨RX3, "begin", "(I)V"⟩
abbrev cX3_alive : ByteArray := prog_5_method_4_code
def yX3_alive : MethodName := ⟨RX3, "alive", "()I"⟩
abbrev cX3_howManySets : ByteArray := prog_5_method_5_code
def yX3_howManySets : MethodName := ⟨RX3, "howManySets", "()I"⟩
abbrev cX3_howManyAlive : ByteArray := prog_5_method_6_code
def yX3_howManyAlive : MethodName := ⟨RX3, "howManyAlive", "()I"⟩
abbrev cX3_knows : ByteArray := prog_5_method_7_code
def yX3_knows : MethodName := ⟨RX3, "knows", "(I)Z"⟩
abbrev cX3_tellDeath : ByteArray := prog_5_method_11_code
def yX3_tellDeath : MethodName := ⟨RX3, "tellDeath", "(IZ)V"⟩
def RX4 : String := "Transversary$Price"
def TX4 : u_T := fun k => match k with
  | 0 => ("Transversary$Price", "table", "[[J", true)
  | 1 => ("Transversary$Price", "basis", "[I", true)
  | 2 => ("Transversary$Price", "divisor", "J", false)
  | 3 => ("Transversary$Price", "above", "J", false)
  | _ => ("Transversary$Price", "under", "J", false)
def tyX4 : Nat → FieldType := fun k => match k with
  | 0 => .array (.array .long)
  | 1 => .array .int
  | 2 => .long
  | 3 => .long
  | _ => .long
abbrev wsX40 : List Cond := u_ws RX4 TX4 5
theorem nmX4 : ∀ a, a < 5 → ∀ b, b < 5 → a ≠ b → (TX4 a).2.1 ≠ (TX4 b).2.1 := by decide +kernel
theorem tyX4_ok : ∀ k, k < 5 → parseFieldDescriptor (TX4 k).2.2.1 = some (tyX4 k) := by decide +kernel
abbrev cX4_init : ByteArray := prog_6_method_1_code
def yX4_init : MethodName := ⟨RX4, "<init>", "()V"⟩
def RX5 : String := "Transversary$Rings"
def TX5 : u_T := fun k => match k with
  | 0 => ("Transversary$Rings", "covers", "LTransversary$Covers;", true)
  | 1 => ("Transversary$Rings", "neighbours", "[I", true)
  | 2 => ("Transversary$Rings", "ends", "[I", true)
  | 3 => ("Transversary$Rings", "greatestFree", "[I", true)
  | _ => ("Transversary$Rings", "wins", "[J", true)
def tyX5 : Nat → FieldType := fun k => match k with
  | 0 => .object "Transversary$Covers"
  | 1 => .array .int
  | 2 => .array .int
  | 3 => .array .int
  | _ => .array .long
abbrev wsX50 : List Cond := u_ws RX5 TX5 5
theorem nmX5 : ∀ a, a < 5 → ∀ b, b < 5 → a ≠ b → (TX5 a).2.1 ≠ (TX5 b).2.1 := by decide +kernel
theorem tyX5_ok : ∀ k, k < 5 → parseFieldDescriptor (TX5 k).2.2.1 = some (tyX5 k) := by decide +kernel
abbrev cX5_init : ByteArray := prog_7_method_1_code
def yX5_init : MethodName := ⟨RX5, "<init>", "(LTransversary$Covers;)V"⟩
abbrev cX5_winningPoint : ByteArray := prog_7_method_9_code
def yX5_winningPoint : MethodName := ⟨RX5, "winningPoint", "(LTransversary$Sets;I)I"⟩
abbrev cX5_playBackwards : ByteArray := prog_7_method_10_code
def yX5_playBackwards : MethodName := ⟨RX5, "playBackwards", "(LTransversary$Sets;I)V"⟩
abbrev cX5_canWin : ByteArray := prog_7_method_11_code
def yX5_canWin : MethodName := ⟨RX5, "canWin", "(IIIZ)Z"⟩
abbrev cX5_placeOf : ByteArray := prog_7_method_12_code
def yX5_placeOf : MethodName := ⟨RX5, "placeOf", "(II)I"⟩
abbrev cX5_isWin : ByteArray := prog_7_method_13_code
def yX5_isWin : MethodName := ⟨RX5, "isWin", "(II)Z"⟩
def RX6 : String := "Transversary$Samples"
def TX6 : u_T := fun k => match k with
  | 0 => ("Transversary$Samples", "covers", "LTransversary$Covers;", true)
  | 1 => ("Transversary$Samples", "petals", "LTransversary$Sets;", true)
  | 2 => ("Transversary$Samples", "outcomes", "[J", true)
  | 3 => ("Transversary$Samples", "mostPetals", "I", false)
  | _ => ("Transversary$Samples", "heart", "I", false)
def tyX6 : Nat → FieldType := fun k => match k with
  | 0 => .object "Transversary$Covers"
  | 1 => .object "Transversary$Sets"
  | 2 => .array .long
  | 3 => .int
  | _ => .int
abbrev wsX60 : List Cond := u_ws RX6 TX6 5
theorem nmX6 : ∀ a, a < 5 → ∀ b, b < 5 → a ≠ b → (TX6 a).2.1 ≠ (TX6 b).2.1 := by decide +kernel
theorem tyX6_ok : ∀ k, k < 5 → parseFieldDescriptor (TX6 k).2.2.1 = some (tyX6 k) := by decide +kernel
abbrev cX6_init : ByteArray := prog_8_method_1_code
def yX6_init : MethodName := ⟨RX6, "<init>", "(LTransversary$Covers;)V"⟩
def RX7 : String := "Transversary$Sets"
def TX7 : u_T := fun k => match k with
  | 0 => ("Transversary$Sets", "isHeld", "[Z", true)
  | 1 => ("Transversary$Sets", "row", "[I", true)
  | _ => ("Transversary$Sets", "many", "I", false)
def tyX7 : Nat → FieldType := fun k => match k with
  | 0 => .array .boolean
  | 1 => .array .int
  | _ => .int
abbrev wsX70 : List Cond := u_ws RX7 TX7 3
theorem nmX7 : ∀ a, a < 3 → ∀ b, b < 3 → a ≠ b → (TX7 a).2.1 ≠ (TX7 b).2.1 := by decide +kernel
theorem tyX7_ok : ∀ k, k < 3 → parseFieldDescriptor (TX7 k).2.2.1 = some (tyX7 k) := by decide +kernel
abbrev cX7_init : ByteArray := prog_9_method_1_code
def yX7_init : MethodName := ⟨RX7, "<init>", "()V"⟩
abbrev cX7_many : ByteArray := prog_9_method_2_code
def yX7_many : MethodName := ⟨RX7, "many", "()I"⟩
abbrev cX7_at : ByteArray := prog_9_method_4_code
def yX7_at : MethodName := ⟨RX7, "at", "(I)I"⟩
abbrev cX7_clear : ByteArray := prog_9_method_5_code
def yX7_clear : MethodName := ⟨RX7, "clear", "()V"⟩
abbrev cX7_copy : ByteArray := prog_9_method_6_code
def yX7_copy : MethodName := ⟨RX7, "copy", "(LTransversary$Sets;)V"⟩
abbrev cX7_put : ByteArray := prog_9_method_7_code
def yX7_put : MethodName := ⟨RX7, "put", "(I)V"⟩
abbrev cX7_hasWithin : ByteArray := prog_9_method_18_code
def yX7_hasWithin : MethodName := ⟨RX7, "hasWithin", "(II)Z"⟩
def RX8 : String := "Transversary$Signs"
def TX8 : u_T := fun k => match k with
  | 0 => ("Transversary$Signs", "isOneColour", "[Z", true)
  | 1 => ("Transversary$Signs", "fewest", "[I", true)
  | _ => ("Transversary$Signs", "drawn", "I", false)
def tyX8 : Nat → FieldType := fun k => match k with
  | 0 => .array .boolean
  | 1 => .array .int
  | _ => .int
abbrev wsX80 : List Cond := u_ws RX8 TX8 3
theorem nmX8 : ∀ a, a < 3 → ∀ b, b < 3 → a ≠ b → (TX8 a).2.1 ≠ (TX8 b).2.1 := by decide +kernel
theorem tyX8_ok : ∀ k, k < 3 → parseFieldDescriptor (TX8 k).2.2.1 = some (tyX8 k) := by decide +kernel
abbrev cX8_init : ByteArray := prog_10_method_1_code
def yX8_init : MethodName := ⟨RX8, "<init>", "()V"⟩
def RX9 : String := "Transversary$Tables"
def TX9 : u_T := fun k => match k with
  | 0 => ("Transversary$Tables", "isFace", "[Z", true)
  | 1 => ("Transversary$Tables", "placeOfFace", "[I", true)
  | 2 => ("Transversary$Tables", "pivotRows", "[J", true)
  | 3 => ("Transversary$Tables", "reduced", "[[I", true)
  | 4 => ("Transversary$Tables", "line", "[I", true)
  | _ => ("Transversary$Tables", "steps", "I", false)
def tyX9 : Nat → FieldType := fun k => match k with
  | 0 => .array .boolean
  | 1 => .array .int
  | 2 => .array .long
  | 3 => .array (.array .int)
  | 4 => .array .int
  | _ => .int
abbrev wsX90 : List Cond := u_ws RX9 TX9 6
theorem nmX9 : ∀ a, a < 6 → ∀ b, b < 6 → a ≠ b → (TX9 a).2.1 ≠ (TX9 b).2.1 := by decide +kernel
theorem tyX9_ok : ∀ k, k < 6 → parseFieldDescriptor (TX9 k).2.2.1 = some (tyX9 k) := by decide +kernel
abbrev cX9_init : ByteArray := prog_11_method_1_code
def yX9_init : MethodName := ⟨RX9, "<init>", "()V"⟩
def RX10 : String := "Transversary$Trees"
def TX10 : u_T := fun k => match k with
  | 0 => ("Transversary$Trees", "left", "LTransversary$Sets;", true)
  | 1 => ("Transversary$Trees", "neighbours", "[I", true)
  | 2 => ("Transversary$Trees", "widths", "[I", true)
  | _ => ("Transversary$Trees", "steps", "I", false)
def tyX10 : Nat → FieldType := fun k => match k with
  | 0 => .object "Transversary$Sets"
  | 1 => .array .int
  | 2 => .array .int
  | _ => .int
abbrev wsX100 : List Cond := u_ws RX10 TX10 4
theorem nmX10 : ∀ a, a < 4 → ∀ b, b < 4 → a ≠ b → (TX10 a).2.1 ≠ (TX10 b).2.1 := by decide +kernel
theorem tyX10_ok : ∀ k, k < 4 → parseFieldDescriptor (TX10 k).2.2.1 = some (tyX10 k) := by decide +kernel
abbrev cX10_init : ByteArray := prog_12_method_1_code
def yX10_init : MethodName := ⟨RX10, "<init>", "()V"⟩
def RX11 : String := "Transversary"
def TX11 : u_T := fun k => match k with
  | 0 => ("Transversary", "points", "LTransversary$Points;", true)
  | 1 => ("Transversary", "families", "[LTransversary$Sets;", true)
  | 2 => ("Transversary", "familyCount", "I", false)
  | 3 => ("Transversary", "parts", "LTransversary$Sets;", true)
  | 4 => ("Transversary", "otherParts", "LTransversary$Sets;", true)
  | 5 => ("Transversary", "made", "LTransversary$Sets;", true)
  | 6 => ("Transversary", "covers", "LTransversary$Covers;", true)
  | 7 => ("Transversary", "prices", "LTransversary$Price;", true)
  | 8 => ("Transversary", "rings", "LTransversary$Rings;", true)
  | 9 => ("Transversary", "samples", "LTransversary$Samples;", true)
  | 10 => ("Transversary", "makers", "LTransversary$Makers;", true)
  | 11 => ("Transversary", "signs", "LTransversary$Signs;", true)
  | 12 => ("Transversary", "trees", "LTransversary$Trees;", true)
  | 13 => ("Transversary", "orders", "LTransversary$Orders;", true)
  | _ => ("Transversary", "tables", "LTransversary$Tables;", true)
def tyX11 : Nat → FieldType := fun k => match k with
  | 0 => .object "Transversary$Points"
  | 1 => .array (.object "Transversary$Sets")
  | 2 => .int
  | 3 => .object "Transversary$Sets"
  | 4 => .object "Transversary$Sets"
  | 5 => .object "Transversary$Sets"
  | 6 => .object "Transversary$Covers"
  | 7 => .object "Transversary$Price"
  | 8 => .object "Transversary$Rings"
  | 9 => .object "Transversary$Samples"
  | 10 => .object "Transversary$Makers"
  | 11 => .object "Transversary$Signs"
  | 12 => .object "Transversary$Trees"
  | 13 => .object "Transversary$Orders"
  | _ => .object "Transversary$Tables"
abbrev wsX110 : List Cond := u_ws RX11 TX11 15
theorem nmX11 : ∀ a, a < 15 → ∀ b, b < 15 → a ≠ b → (TX11 a).2.1 ≠ (TX11 b).2.1 := by decide +kernel
theorem tyX11_ok : ∀ k, k < 15 → parseFieldDescriptor (TX11 k).2.2.1 = some (tyX11 k) := by decide +kernel
abbrev cX11_init : ByteArray := prog_1_method_1_code
def yX11_init : MethodName := ⟨RX11, "<init>", "()V"⟩
abbrev cX11_ground : ByteArray := prog_1_method_2_code
def yX11_ground : MethodName := ⟨RX11, "ground", "(I)I"⟩
abbrev cX11_die : ByteArray := prog_1_method_4_code
def yX11_die : MethodName := ⟨RX11, "die", "(IZ)I"⟩
abbrev cX11_family : ByteArray := prog_1_method_5_code
def yX11_family : MethodName := ⟨RX11, "family", "()I"⟩
abbrev cX11_game : ByteArray := prog_1_method_24_code
def yX11_game : MethodName := ⟨RX11, "game", "(I)I"⟩
abbrev cX11_familyOf : ByteArray := prog_1_method_47_code
def yX11_familyOf : MethodName := ⟨RX11, "familyOf", "(I)LTransversary$Sets;"⟩
abbrev cX11_partsOf : ByteArray := prog_1_method_48_code
def yX11_partsOf : MethodName := ⟨RX11, "partsOf", "(I)LTransversary$Sets;"⟩
abbrev cX11_checkPoint : ByteArray := prog_1_method_50_code
def yX11_checkPoint : MethodName := ⟨RX11, "checkPoint", "(I)V"⟩
abbrev cX11_checkRange : ByteArray := prog_1_method_52_code
def yX11_checkRange : MethodName := ⟨RX11, "checkRange", "(III)V"⟩
abbrev cX11_checkRoom : ByteArray := prog_1_method_53_code
def yX11_checkRoom : MethodName := ⟨RX11, "checkRoom", "()V"⟩
abbrev cX11_keep : ByteArray := prog_1_method_54_code
def yX11_keep : MethodName := ⟨RX11, "keep", "(LTransversary$Sets;)I"⟩
abbrev cX11_sizeOf : ByteArray := prog_1_method_66_code
def yX11_sizeOf : MethodName := ⟨RX11, "sizeOf", "(I)I"⟩
abbrev cX11_isIn : ByteArray := prog_1_method_67_code
def yX11_isIn : MethodName := ⟨RX11, "isIn", "(II)Z"⟩
def RX12 : String := "TransversaryLaw$Out"
def TX12 : u_T := fun k => match k with
  | 0 => ("TransversaryLaw$Out", "n", "J", false)
  | _ => ("TransversaryLaw$Out", "s", "Ljava/lang/String;", false)
def tyX12 : Nat → FieldType := fun k => match k with
  | 0 => .long
  | _ => .object "java/lang/String"
abbrev wsX120 : List Cond := u_ws RX12 TX12 2
theorem nmX12 : ∀ a, a < 2 → ∀ b, b < 2 → a ≠ b → (TX12 a).2.1 ≠ (TX12 b).2.1 := by decide +kernel
theorem tyX12_ok : ∀ k, k < 2 → parseFieldDescriptor (TX12 k).2.2.1 = some (tyX12 k) := by decide +kernel
abbrev cX12_init : ByteArray := prog_14_method_1_code
def yX12_init : MethodName := ⟨RX12, "<init>", "()V"⟩
def RX14 : String := "TransversaryModel"
def TX14 : u_T := fun k => match k with
  | 0 => ("TransversaryModel", "thrown", "I", false)
  | 1 => ("TransversaryModel", "points", "I", false)
  | 2 => ("TransversaryModel", "weights", "[I", false)
  | 3 => ("TransversaryModel", "dead", "I", false)
  | 4 => ("TransversaryModel", "families", "Ljava/util/ArrayList;", true)
  | 5 => ("TransversaryModel", "scratch", "[Z", true)
  | 6 => ("TransversaryModel", "lows", "[J", true)
  | 7 => ("TransversaryModel", "highs", "[J", true)
  | _ => ("TransversaryModel", "sum", "J", false)
def tyX14 : Nat → FieldType := fun k => match k with
  | 0 => .int
  | 1 => .int
  | 2 => .array .int
  | 3 => .int
  | 4 => .object "java/util/ArrayList"
  | 5 => .array .boolean
  | 6 => .array .long
  | 7 => .array .long
  | _ => .long
abbrev wsX140 : List Cond := u_ws RX14 TX14 9
theorem nmX14 : ∀ a, a < 9 → ∀ b, b < 9 → a ≠ b → (TX14 a).2.1 ≠ (TX14 b).2.1 := by decide +kernel
theorem tyX14_ok : ∀ k, k < 9 → parseFieldDescriptor (TX14 k).2.2.1 = some (tyX14 k) := by decide +kernel
abbrev cX14_init : ByteArray := prog_15_method_1_code
def yX14_init : MethodName := ⟨RX14, "<init>", "()V"⟩
abbrev cX14_thrown : ByteArray := prog_15_method_2_code
def yX14_thrown : MethodName := ⟨RX14, "thrown", "()I"⟩
abbrev cX14_refuse : ByteArray := prog_15_method_3_code
def yX14_refuse : MethodName := ⟨RX14, "refuse", "(I)I"⟩
abbrev cX14_is : ByteArray := prog_15_method_4_code
def yX14_is : MethodName := ⟨RX14, "is", "(III)Z"⟩
abbrev cX14_isFamily : ByteArray := prog_15_method_5_code
def yX14_isFamily : MethodName := ⟨RX14, "isFamily", "(I)Z"⟩
abbrev cX14_all : ByteArray := prog_15_method_6_code
def yX14_all : MethodName := ⟨RX14, "all", "()I"⟩
abbrev cX14_isPoint : ByteArray := prog_15_method_8_code
def yX14_isPoint : MethodName := ⟨RX14, "isPoint", "(I)Z"⟩
abbrev cX14_alive : ByteArray := prog_15_method_9_code
def yX14_alive : MethodName := ⟨RX14, "alive", "()I"⟩
abbrev cX14_aliveMany : ByteArray := prog_15_method_10_code
def yX14_aliveMany : MethodName := ⟨RX14, "aliveMany", "()I"⟩
abbrev cX14_isIn : ByteArray := prog_15_method_11_code
def yX14_isIn : MethodName := ⟨RX14, "isIn", "(II)Z"⟩
abbrev cX14_empty : ByteArray := prog_15_method_14_code
def yX14_empty : MethodName := ⟨RX14, "empty", "()[Z"⟩
abbrev cX14_ground : ByteArray := prog_15_method_17_code
def yX14_ground : MethodName := ⟨RX14, "ground", "(I)I"⟩
abbrev cX14_die : ByteArray := prog_15_method_19_code
def yX14_die : MethodName := ⟨RX14, "die", "(IZ)I"⟩
abbrev cX14_family : ByteArray := prog_15_method_20_code
def yX14_family : MethodName := ⟨RX14, "family", "()I"⟩
abbrev cX14_parts : ByteArray := prog_15_method_25_code
def yX14_parts : MethodName := ⟨RX14, "parts", "(I)[Z"⟩
abbrev cX14_canWin : ByteArray := prog_15_method_62_code
def yX14_canWin : MethodName := ⟨RX14, "canWin", "([Z[BIIZ)Z"⟩
abbrev cX14_hasPart : ByteArray := prog_15_method_63_code
def yX14_hasPart : MethodName := ⟨RX14, "hasPart", "([ZI)Z"⟩
abbrev cX14_game : ByteArray := prog_15_method_64_code
def yX14_game : MethodName := ⟨RX14, "game", "(I)I"⟩
def RJ6 : String := "java/lang/Integer"
abbrev cJ6_bitCount_0f7a4 : ByteArray := prog_27_method_49_code
def yJ6_bitCount_0f7a4 : MethodName := ⟨RJ6, "bitCount", "(I)I"⟩
def RJ9 : String := "java/lang/Math"
abbrev cJ9_max_7cf53 : ByteArray := prog_30_method_65_code
def yJ9_max_7cf53 : MethodName := ⟨RJ9, "max", "(II)I"⟩
def RJxa1e45 : String := "java/util/AbstractCollection"
abbrev cJxa1e45_init_da8c8 : ByteArray := prog_41_method_1_code
def yJxa1e45_init_da8c8 : MethodName := ⟨RJxa1e45, "<init>", "()V"⟩
def RJxc12de : String := "java/util/AbstractList"
abbrev cJxc12de_init_da8c8 : ByteArray := prog_42_method_1_code
def yJxc12de_init_da8c8 : MethodName := ⟨RJxc12de, "<init>", "()V"⟩
def RJx4a65c : String := "java/util/ArrayList"
def TJx4a65c : u_T := fun k => match k with
  | 0 => ("java/util/AbstractList", "modCount", "I", false)
  | 1 => ("java/util/ArrayList", "elementData", "[Ljava/lang/Object;", false)
  | _ => ("java/util/ArrayList", "size", "I", false)
def tyJx4a65c : Nat → FieldType := fun k => match k with
  | 0 => .int
  | 1 => .array (.object "java/lang/Object")
  | _ => .int
abbrev wsJx4a65c0 : List Cond := u_ws RJx4a65c TJx4a65c 3
theorem nmJx4a65c : ∀ a, a < 3 → ∀ b, b < 3 → a ≠ b → (TJx4a65c a).2.1 ≠ (TJx4a65c b).2.1 := by decide +kernel
theorem tyJx4a65c_ok : ∀ k, k < 3 → parseFieldDescriptor (TJx4a65c k).2.2.1 = some (tyJx4a65c k) := by decide +kernel
abbrev cJx4a65c_init_da8c8 : ByteArray := prog_43_method_2_code
def yJx4a65c_init_da8c8 : MethodName := ⟨RJx4a65c, "<init>", "()V"⟩
abbrev cJx4a65c_grow_92f84 : ByteArray := prog_43_method_6_code
def yJx4a65c_grow_92f84 : MethodName := ⟨RJx4a65c, "grow", "(I)[Ljava/lang/Object;"⟩
abbrev cJx4a65c_grow_d5877 : ByteArray := prog_43_method_7_code
def yJx4a65c_grow_d5877 : MethodName := ⟨RJx4a65c, "grow", "()[Ljava/lang/Object;"⟩
abbrev cJx4a65c_size_8abf5 : ByteArray := prog_43_method_8_code
def yJx4a65c_size_8abf5 : MethodName := ⟨RJx4a65c, "size", "()I"⟩
abbrev cJx4a65c_elementData_915e3 : ByteArray := prog_43_method_18_code
def yJx4a65c_elementData_915e3 : MethodName := ⟨RJx4a65c, "elementData", "(I)Ljava/lang/Object;"⟩
abbrev cJx4a65c_get_915e3 : ByteArray := prog_43_method_20_code
def yJx4a65c_get_915e3 : MethodName := ⟨RJx4a65c, "get", "(I)Ljava/lang/Object;"⟩
abbrev cJx4a65c_add_72be8 : ByteArray := prog_43_method_24_code
def yJx4a65c_add_72be8 : MethodName := ⟨RJx4a65c, "add", "(Ljava/lang/Object;[Ljava/lang/Object;I)V"⟩
abbrev cJx4a65c_add_9ea2d : ByteArray := prog_43_method_25_code
def yJx4a65c_add_9ea2d : MethodName := ⟨RJx4a65c, "add", "(Ljava/lang/Object;)Z"⟩
abbrev cJx4a65c_clear_da8c8 : ByteArray := prog_43_method_40_code
def yJx4a65c_clear_da8c8 : MethodName := ⟨RJx4a65c, "clear", "()V"⟩
def RJ7 : String := "java/util/Arrays"
abbrev cJ7_copyOf_1904c : ByteArray := prog_44_method_119_code
def yJ7_copyOf_1904c : MethodName := ⟨RJ7, "copyOf", "([Ljava/lang/Object;I)[Ljava/lang/Object;"⟩
abbrev cJ7_copyOf_6403c : ByteArray := prog_44_method_120_code
def yJ7_copyOf_6403c : MethodName := ⟨RJ7, "copyOf", "([Ljava/lang/Object;ILjava/lang/Class;)[Ljava/lang/Object;"⟩
def RJ15 : String := "java/util/Objects"
abbrev cJ15_checkIndex_7cf53 : ByteArray := prog_47_method_17_code
def yJ15_checkIndex_7cf53 : MethodName := ⟨RJ15, "checkIndex", "(II)I"⟩
def RJ8 : String := "jdk/internal/util/ArraysSupport"
abbrev cJ8_newLength_cabcc : ByteArray := prog_50_method_27_code
def yJ8_newLength_cabcc : MethodName := ⟨RJ8, "newLength", "(III)I"⟩
abbrev cJ8_hugeLength_7cf53 : ByteArray := prog_50_method_28_code
def yJ8_hugeLength_7cf53 : MethodName := ⟨RJ8, "hugeLength", "(II)I"⟩
def RJ3 : String := "jdk/internal/util/Preconditions"
abbrev cJ3_checkIndex_8e157 : ByteArray := prog_51_method_11_code
def yJ3_checkIndex_8e157 : MethodName := ⟨RJ3, "checkIndex", "(IILjava/util/function/BiFunction;)I"⟩
def RL : String := "TransversaryLaw"
abbrev cL_ground : ByteArray := method_2_code
def yL_ground : MethodName := ⟨RL, "ground", "(LTransversary;ILTransversaryLaw$Out;)I"⟩
abbrev cL_die : ByteArray := method_4_code
def yL_die : MethodName := ⟨RL, "die", "(LTransversary;IZLTransversaryLaw$Out;)I"⟩
abbrev cL_family : ByteArray := method_5_code
def yL_family : MethodName := ⟨RL, "family", "(LTransversary;LTransversaryLaw$Out;)I"⟩
abbrev cL_game : ByteArray := method_24_code
def yL_game : MethodName := ⟨RL, "game", "(LTransversary;ILTransversaryLaw$Out;)I"⟩
def wsX7_init : List Cond := .code yX7_init cX7_init 1 none :: ([.methodLink RX7 3 objectInit, .instanceMethod objectInit, .code objectInit ⟨#[0xb1]⟩ 1 none, .arrayClass .boolean, .fieldLink RX7 9 "Transversary$Sets" "isHeld" "[Z", .arrayClass .int, .fieldLink RX7 15 "Transversary$Sets" "row" "[I"] ++ wsX70)
def wsX0_init : List Cond := .code yX0_init cX0_init 1 none :: ([.methodLink RX0 3 objectInit, .instanceMethod objectInit, .code objectInit ⟨#[0xb1]⟩ 1 none, .classLink RX0 9 RX7, .instantiable RX7 3, .initialized RX7, .fieldLink RX0 12 "Transversary$Covers" "least" "LTransversary$Sets;", .fieldLink RX0 18 "Transversary$Covers" "blockers" "LTransversary$Sets;", .fieldLink RX0 21 "Transversary$Covers" "blockersTwice" "LTransversary$Sets;", .arrayClass .boolean, .fieldLink RX0 24 "Transversary$Covers" "isCover" "[Z", .arrayClass .int, .fieldLink RX0 28 "Transversary$Covers" "packed" "[I", .instanceMethod yX7_init, .code yX7_init cX7_init 1 none, .methodLink RX7 3 objectInit, .fieldLink RX7 9 "Transversary$Sets" "isHeld" "[Z", .fieldLink RX7 15 "Transversary$Sets" "row" "[I"] ++ wsX70 ++ wsX00)
def wsX7_clear : List Cond := .code yX7_clear cX7_clear 2 none :: ([.fieldLink RX7 9 "Transversary$Sets" "isHeld" "[Z", .fieldLink RX7 19 "Transversary$Sets" "many" "I"] ++ wsX70)
def wsX7_many : List Cond := .code yX7_many cX7_many 1 (some .int) :: ([.fieldLink RX7 19 "Transversary$Sets" "many" "I"] ++ wsX70)
def wsX11_isIn : List Cond := .code yX11_isIn cX11_isIn 2 (some .boolean) :: ([])
def wsJ6_bitCount_0f7a4 : List Cond := .code yJ6_bitCount_0f7a4 cJ6_bitCount_0f7a4 1 (some .int) :: ([.constant RJ6 265 (1431655765), .constant RJ6 266 (858993459), .constant RJ6 267 (252645135)])
def wsX11_sizeOf : List Cond := .code yX11_sizeOf cX11_sizeOf 1 (some .int) :: ([.methodLink RX11 487 yJ6_bitCount_0f7a4, .static yJ6_bitCount_0f7a4, .initialized RJ6, .code yJ6_bitCount_0f7a4 cJ6_bitCount_0f7a4 1 (some .int), .constant RJ6 265 (1431655765), .constant RJ6 266 (858993459), .constant RJ6 267 (252645135)])
def wsX3_alive : List Cond := .code yX3_alive cX3_alive 1 (some .int) :: ([.fieldLink RX3 23 "Transversary$Points" "alive" "I"] ++ wsX30)
def wsX3_knows : List Cond := .code yX3_knows cX3_knows 2 (some .boolean) :: ([.fieldLink RX3 15 "Transversary$Points" "many" "I", .fieldLink RX3 9 "Transversary$Points" "weights" "[I"] ++ wsX30)
def wsX1_init : List Cond := .code yX1_init cX1_init 2 none :: ([.methodLink RX1 3 objectInit, .instanceMethod objectInit, .code objectInit ⟨#[0xb1]⟩ 1 none, .classLink RX1 9 RX7, .instantiable RX7 3, .initialized RX7, .fieldLink RX1 12 "Transversary$Makers" "next" "LTransversary$Sets;", .fieldLink RX1 18 "Transversary$Makers" "samples" "LTransversary$Samples;", .instanceMethod yX7_init, .code yX7_init cX7_init 1 none, .methodLink RX7 3 objectInit, .arrayClass .boolean, .fieldLink RX7 9 "Transversary$Sets" "isHeld" "[Z", .arrayClass .int, .fieldLink RX7 15 "Transversary$Sets" "row" "[I"] ++ wsX70 ++ wsX10)
def wsX1_partsInto : List Cond := .code yX1_partsInto cX1_partsInto 5 none :: ([.methodLink RX1 22 yX7_clear, .instanceMethod yX7_clear, .selects RX7 yX7_clear yX7_clear, .initialized RX7, .code yX7_clear cX7_clear 2 none, .fieldLink RX7 9 "Transversary$Sets" "isHeld" "[Z", .fieldLink RX7 19 "Transversary$Sets" "many" "I", .methodLink RX1 25 yX7_many, .instanceMethod yX7_many, .selects RX7 yX7_many yX7_many, .code yX7_many cX7_many 1 (some .int), .methodLink RX1 29 yX7_at, .instanceMethod yX7_at, .selects RX7 yX7_at yX7_at, .code yX7_at cX7_at 2 (some .int), .fieldLink RX7 15 "Transversary$Sets" "row" "[I", .methodLink RX1 33 yX7_put, .instanceMethod yX7_put, .selects RX7 yX7_put yX7_put, .code yX7_put cX7_put 3 none] ++ wsX70)
def wsX7_copy : List Cond := .code yX7_copy cX7_copy 3 none :: ([.methodLink RX7 23 yX7_clear, .instanceMethod yX7_clear, .selects RX7 yX7_clear yX7_clear, .initialized RX7, .code yX7_clear cX7_clear 2 none, .fieldLink RX7 9 "Transversary$Sets" "isHeld" "[Z", .fieldLink RX7 19 "Transversary$Sets" "many" "I", .methodLink RX7 26 yX7_many, .instanceMethod yX7_many, .selects RX7 yX7_many yX7_many, .code yX7_many cX7_many 1 (some .int), .methodLink RX7 29 yX7_at, .instanceMethod yX7_at, .selects RX7 yX7_at yX7_at, .code yX7_at cX7_at 2 (some .int), .fieldLink RX7 15 "Transversary$Sets" "row" "[I", .methodLink RX7 33 yX7_put, .instanceMethod yX7_put, .selects RX7 yX7_put yX7_put, .code yX7_put cX7_put 3 none] ++ wsX70)
def wsX2_init : List Cond := .code yX2_init cX2_init 1 none :: ([.methodLink RX2 3 objectInit, .instanceMethod objectInit, .code objectInit ⟨#[0xb1]⟩ 1 none, .arrayClass .int, .fieldLink RX2 9 "Transversary$Orders" "lengths" "[I", .fieldLink RX2 15 "Transversary$Orders" "upperOf" "[I", .fieldLink RX2 18 "Transversary$Orders" "lowerOf" "[I", .fieldLink RX2 21 "Transversary$Orders" "reachedFrom" "[I", .fieldLink RX2 24 "Transversary$Orders" "queue" "[I"] ++ wsX20)
def wsJ3_checkIndex_8e157 : List Cond := .code yJ3_checkIndex_8e157 cJ3_checkIndex_8e157 3 (some .int) :: ([])
def wsX3_init : List Cond := .code yX3_init cX3_init 1 none :: ([.methodLink RX3 3 objectInit, .instanceMethod objectInit, .code objectInit ⟨#[0xb1]⟩ 1 none, .arrayClass .int, .fieldLink RX3 9 "Transversary$Points" "weights" "[I"] ++ wsX30)
def wsX3_howManySets : List Cond := .code yX3_howManySets cX3_howManySets 1 (some .int) :: ([.fieldLink RX3 15 "Transversary$Points" "many" "I"] ++ wsX30)
def wsX3_begin : List Cond := .code yX3_begin cX3_begin 3 none :: ([.fieldLink RX3 15 "Transversary$Points" "many" "I", .fieldLink RX3 23 "Transversary$Points" "alive" "I", .fieldLink RX3 9 "Transversary$Points" "weights" "[I", .methodLink RX3 19 yX3_howManySets, .instanceMethod yX3_howManySets, .selects RX3 yX3_howManySets yX3_howManySets, .initialized RX3, .code yX3_howManySets cX3_howManySets 1 (some .int)] ++ wsX30)
def wsX3_howManyAlive : List Cond := .code yX3_howManyAlive cX3_howManyAlive 1 (some .int) :: ([.fieldLink RX3 23 "Transversary$Points" "alive" "I", .static yX11_sizeOf, .initialized RX11, .code yX11_sizeOf cX11_sizeOf 1 (some .int), .methodLink RX11 487 yJ6_bitCount_0f7a4, .static yJ6_bitCount_0f7a4, .initialized RJ6, .code yJ6_bitCount_0f7a4 cJ6_bitCount_0f7a4 1 (some .int), .constant RJ6 265 (1431655765), .constant RJ6 266 (858993459), .constant RJ6 267 (252645135)] ++ wsX30)
def wsX3_tellDeath : List Cond := .code yX3_tellDeath cX3_tellDeath 3 none :: ([.fieldLink RX3 23 "Transversary$Points" "alive" "I", .methodLink RX3 30 yX3_knows, .instanceMethod yX3_knows, .selects RX3 yX3_knows yX3_knows, .initialized RX3, .code yX3_knows cX3_knows 2 (some .boolean), .fieldLink RX3 15 "Transversary$Points" "many" "I", .fieldLink RX3 9 "Transversary$Points" "weights" "[I"] ++ wsX30)
def wsX4_init : List Cond := .code yX4_init cX4_init 1 none :: ([.methodLink RX4 3 objectInit, .instanceMethod objectInit, .code objectInit ⟨#[0xb1]⟩ 1 none, .classLink RX4 9 "[[J", .arrayClass .long, .fieldLink RX4 11 "Transversary$Price" "table" "[[J", .arrayClass .int, .fieldLink RX4 16 "Transversary$Price" "basis" "[I"] ++ wsX40)
def wsX5_init : List Cond := .code yX5_init cX5_init 2 none :: ([.methodLink RX5 3 objectInit, .instanceMethod objectInit, .code objectInit ⟨#[0xb1]⟩ 1 none, .arrayClass .int, .fieldLink RX5 9 "Transversary$Rings" "neighbours" "[I", .fieldLink RX5 15 "Transversary$Rings" "ends" "[I", .fieldLink RX5 18 "Transversary$Rings" "greatestFree" "[I", .arrayClass .long, .fieldLink RX5 21 "Transversary$Rings" "wins" "[J", .fieldLink RX5 25 "Transversary$Rings" "covers" "LTransversary$Covers;"] ++ wsX50)
def wsX7_hasWithin : List Cond := .code yX7_hasWithin cX7_hasWithin 4 (some .boolean) :: ([.fieldLink RX7 19 "Transversary$Sets" "many" "I", .methodLink RX7 29 yX7_at, .instanceMethod yX7_at, .selects RX7 yX7_at yX7_at, .initialized RX7, .code yX7_at cX7_at 2 (some .int), .fieldLink RX7 15 "Transversary$Sets" "row" "[I", .static yX11_isIn, .initialized RX11, .code yX11_isIn cX11_isIn 2 (some .boolean), .static yX11_sizeOf, .code yX11_sizeOf cX11_sizeOf 1 (some .int), .methodLink RX11 487 yJ6_bitCount_0f7a4, .static yJ6_bitCount_0f7a4, .initialized RJ6, .code yJ6_bitCount_0f7a4 cJ6_bitCount_0f7a4 1 (some .int), .constant RJ6 265 (1431655765), .constant RJ6 266 (858993459), .constant RJ6 267 (252645135)] ++ wsX70)
def wsX5_canWin : List Cond := .code yX5_canWin cX5_canWin 10 (some .boolean) :: ([.static yX11_sizeOf, .initialized RX11, .code yX11_sizeOf cX11_sizeOf 1 (some .int), .methodLink RX11 487 yJ6_bitCount_0f7a4, .static yJ6_bitCount_0f7a4, .initialized RJ6, .code yJ6_bitCount_0f7a4 cJ6_bitCount_0f7a4 1 (some .int), .constant RJ6 265 (1431655765), .constant RJ6 266 (858993459), .constant RJ6 267 (252645135), .methodLink RX5 88 yX5_isWin, .instanceMethod yX5_isWin, .selects RX5 yX5_isWin yX5_isWin, .initialized RX5, .code yX5_isWin cX5_isWin 3 (some .boolean), .fieldLink RX5 21 "Transversary$Rings" "wins" "[J", .methodLink RX5 98 yX5_placeOf, .static yX5_placeOf, .code yX5_placeOf cX5_placeOf 2 (some .int)] ++ wsX50)
def wsX5_playBackwards_r1 : List Cond := [Cond.fieldLink RX5 21 "Transversary$Rings" "wins" "[J", Cond.static yX11_isIn, Cond.initialized RX11, Cond.code yX11_isIn cX11_isIn 2 (some .boolean), Cond.methodLink RX5 91 yX7_hasWithin, Cond.instanceMethod yX7_hasWithin, Cond.selects RX7 yX7_hasWithin yX7_hasWithin, Cond.initialized RX7, Cond.code yX7_hasWithin cX7_hasWithin 4 (some .boolean), Cond.fieldLink RX7 19 "Transversary$Sets" "many" "I", Cond.methodLink RX7 29 yX7_at, Cond.instanceMethod yX7_at, Cond.selects RX7 yX7_at yX7_at, Cond.code yX7_at cX7_at 2 (some .int), Cond.fieldLink RX7 15 "Transversary$Sets" "row" "[I", Cond.static yX11_sizeOf, Cond.code yX11_sizeOf cX11_sizeOf 1 (some .int), Cond.methodLink RX11 487 yJ6_bitCount_0f7a4, Cond.static yJ6_bitCount_0f7a4, Cond.initialized RJ6, Cond.code yJ6_bitCount_0f7a4 cJ6_bitCount_0f7a4 1 (some .int), Cond.constant RJ6 265 (1431655765), Cond.constant RJ6 266 (858993459), Cond.constant RJ6 267 (252645135)]
def wsX5_playBackwards_r2 : List Cond := [Cond.methodLink RX5 94 yX5_canWin, Cond.instanceMethod yX5_canWin, Cond.selects RX5 yX5_canWin yX5_canWin, Cond.initialized RX5, Cond.code yX5_canWin cX5_canWin 10 (some .boolean), Cond.methodLink RX5 88 yX5_isWin, Cond.instanceMethod yX5_isWin, Cond.selects RX5 yX5_isWin yX5_isWin, Cond.code yX5_isWin cX5_isWin 3 (some .boolean), Cond.methodLink RX5 98 yX5_placeOf, Cond.static yX5_placeOf, Cond.code yX5_placeOf cX5_placeOf 2 (some .int)]
def wsX5_playBackwards : List Cond := .code yX5_playBackwards cX5_playBackwards 6 none :: ((wsX5_playBackwards_r1 ++ wsX5_playBackwards_r2) ++ wsX50 ++ wsX70)
def wsX5_winningPoint_r1 : List Cond := [Cond.methodLink RX5 85 yX5_playBackwards, Cond.instanceMethod yX5_playBackwards, Cond.selects RX5 yX5_playBackwards yX5_playBackwards, Cond.initialized RX5, Cond.code yX5_playBackwards cX5_playBackwards 6 none, Cond.fieldLink RX5 21 "Transversary$Rings" "wins" "[J", Cond.static yX11_isIn, Cond.initialized RX11, Cond.code yX11_isIn cX11_isIn 2 (some .boolean), Cond.methodLink RX5 91 yX7_hasWithin, Cond.instanceMethod yX7_hasWithin, Cond.selects RX7 yX7_hasWithin yX7_hasWithin, Cond.initialized RX7, Cond.code yX7_hasWithin cX7_hasWithin 4 (some .boolean), Cond.fieldLink RX7 19 "Transversary$Sets" "many" "I", Cond.methodLink RX7 29 yX7_at, Cond.instanceMethod yX7_at, Cond.selects RX7 yX7_at yX7_at, Cond.code yX7_at cX7_at 2 (some .int), Cond.fieldLink RX7 15 "Transversary$Sets" "row" "[I", Cond.static yX11_sizeOf, Cond.code yX11_sizeOf cX11_sizeOf 1 (some .int), Cond.methodLink RX11 487 yJ6_bitCount_0f7a4, Cond.static yJ6_bitCount_0f7a4]
def wsX5_winningPoint_r2 : List Cond := [Cond.initialized RJ6, Cond.code yJ6_bitCount_0f7a4 cJ6_bitCount_0f7a4 1 (some .int), Cond.constant RJ6 265 (1431655765), Cond.constant RJ6 266 (858993459), Cond.constant RJ6 267 (252645135), Cond.methodLink RX5 94 yX5_canWin, Cond.instanceMethod yX5_canWin, Cond.selects RX5 yX5_canWin yX5_canWin, Cond.code yX5_canWin cX5_canWin 10 (some .boolean), Cond.methodLink RX5 88 yX5_isWin, Cond.instanceMethod yX5_isWin, Cond.selects RX5 yX5_isWin yX5_isWin, Cond.code yX5_isWin cX5_isWin 3 (some .boolean), Cond.methodLink RX5 98 yX5_placeOf, Cond.static yX5_placeOf, Cond.code yX5_placeOf cX5_placeOf 2 (some .int)]
def wsX5_winningPoint : List Cond := .code yX5_winningPoint cX5_winningPoint 4 (some .int) :: ((wsX5_winningPoint_r1 ++ wsX5_winningPoint_r2) ++ wsX50 ++ wsX70)
def wsX6_init : List Cond := .code yX6_init cX6_init 2 none :: ([.methodLink RX6 3 objectInit, .instanceMethod objectInit, .code objectInit ⟨#[0xb1]⟩ 1 none, .classLink RX6 9 RX7, .instantiable RX7 3, .initialized RX7, .fieldLink RX6 12 "Transversary$Samples" "petals" "LTransversary$Sets;", .arrayClass .long, .fieldLink RX6 18 "Transversary$Samples" "outcomes" "[J", .fieldLink RX6 22 "Transversary$Samples" "covers" "LTransversary$Covers;", .instanceMethod yX7_init, .code yX7_init cX7_init 1 none, .methodLink RX7 3 objectInit, .arrayClass .boolean, .fieldLink RX7 9 "Transversary$Sets" "isHeld" "[Z", .arrayClass .int, .fieldLink RX7 15 "Transversary$Sets" "row" "[I"] ++ wsX70 ++ wsX60)
def wsX8_init : List Cond := .code yX8_init cX8_init 1 none :: ([.methodLink RX8 3 objectInit, .instanceMethod objectInit, .code objectInit ⟨#[0xb1]⟩ 1 none, .arrayClass .boolean, .fieldLink RX8 9 "Transversary$Signs" "isOneColour" "[Z", .arrayClass .int, .fieldLink RX8 15 "Transversary$Signs" "fewest" "[I"] ++ wsX80)
def wsX9_init : List Cond := .code yX9_init cX9_init 1 none :: ([.methodLink RX9 3 objectInit, .instanceMethod objectInit, .code objectInit ⟨#[0xb1]⟩ 1 none, .arrayClass .boolean, .fieldLink RX9 9 "Transversary$Tables" "isFace" "[Z", .arrayClass .int, .fieldLink RX9 15 "Transversary$Tables" "placeOfFace" "[I", .arrayClass .long, .fieldLink RX9 19 "Transversary$Tables" "pivotRows" "[J", .classLink RX9 23 "[[I", .fieldLink RX9 25 "Transversary$Tables" "reduced" "[[I", .fieldLink RX9 28 "Transversary$Tables" "line" "[I"] ++ wsX90)
def wsX10_init : List Cond := .code yX10_init cX10_init 1 none :: ([.methodLink RX10 3 objectInit, .instanceMethod objectInit, .code objectInit ⟨#[0xb1]⟩ 1 none, .classLink RX10 9 RX7, .instantiable RX7 3, .initialized RX7, .fieldLink RX10 12 "Transversary$Trees" "left" "LTransversary$Sets;", .arrayClass .int, .fieldLink RX10 18 "Transversary$Trees" "neighbours" "[I", .fieldLink RX10 22 "Transversary$Trees" "widths" "[I", .instanceMethod yX7_init, .code yX7_init cX7_init 1 none, .methodLink RX7 3 objectInit, .arrayClass .boolean, .fieldLink RX7 9 "Transversary$Sets" "isHeld" "[Z", .fieldLink RX7 15 "Transversary$Sets" "row" "[I"] ++ wsX70 ++ wsX100)
def wsX11_init_r1 : List Cond := [Cond.methodLink RX11 3 objectInit, Cond.instanceMethod objectInit, Cond.code objectInit ⟨#[0xb1]⟩ 1 none, Cond.classLink RX11 9 RX3, Cond.instantiable RX3 3, Cond.initialized RX3, Cond.fieldLink RX11 12 "Transversary" "points" "LTransversary$Points;", Cond.classLink RX11 16 RX7, Cond.fieldLink RX11 18 "Transversary" "families" "[LTransversary$Sets;", Cond.instantiable RX7 3, Cond.initialized RX7, Cond.fieldLink RX11 23 "Transversary" "parts" "LTransversary$Sets;", Cond.fieldLink RX11 27 "Transversary" "otherParts" "LTransversary$Sets;", Cond.fieldLink RX11 30 "Transversary" "made" "LTransversary$Sets;", Cond.classLink RX11 33 RX0, Cond.instantiable RX0 5, Cond.initialized RX0, Cond.fieldLink RX11 36 "Transversary" "covers" "LTransversary$Covers;", Cond.classLink RX11 40 RX4, Cond.instantiable RX4 5, Cond.initialized RX4, Cond.fieldLink RX11 43 "Transversary" "prices" "LTransversary$Price;", Cond.classLink RX11 47 RX5, Cond.instantiable RX5 5]
def wsX11_init_r2 : List Cond := [Cond.initialized RX5, Cond.fieldLink RX11 52 "Transversary" "rings" "LTransversary$Rings;", Cond.classLink RX11 56 RX6, Cond.instantiable RX6 5, Cond.initialized RX6, Cond.fieldLink RX11 59 "Transversary" "samples" "LTransversary$Samples;", Cond.classLink RX11 63 RX1, Cond.instantiable RX1 2, Cond.initialized RX1, Cond.fieldLink RX11 68 "Transversary" "makers" "LTransversary$Makers;", Cond.classLink RX11 72 RX8, Cond.instantiable RX8 3, Cond.initialized RX8, Cond.fieldLink RX11 75 "Transversary" "signs" "LTransversary$Signs;", Cond.classLink RX11 79 RX10, Cond.instantiable RX10 4, Cond.initialized RX10, Cond.fieldLink RX11 82 "Transversary" "trees" "LTransversary$Trees;", Cond.classLink RX11 86 RX2, Cond.instantiable RX2 7, Cond.initialized RX2, Cond.fieldLink RX11 89 "Transversary" "orders" "LTransversary$Orders;", Cond.classLink RX11 93 RX9, Cond.instantiable RX9 6]
def wsX11_init_r3 : List Cond := [Cond.initialized RX9, Cond.fieldLink RX11 96 "Transversary" "tables" "LTransversary$Tables;", Cond.instanceMethod yX3_init, Cond.code yX3_init cX3_init 1 none, Cond.methodLink RX3 3 objectInit, Cond.arrayClass .int, Cond.fieldLink RX3 9 "Transversary$Points" "weights" "[I", Cond.instanceMethod yX7_init, Cond.code yX7_init cX7_init 1 none, Cond.methodLink RX7 3 objectInit, Cond.arrayClass .boolean, Cond.fieldLink RX7 9 "Transversary$Sets" "isHeld" "[Z", Cond.fieldLink RX7 15 "Transversary$Sets" "row" "[I", Cond.instanceMethod yX0_init, Cond.code yX0_init cX0_init 1 none, Cond.methodLink RX0 3 objectInit, Cond.classLink RX0 9 RX7, Cond.fieldLink RX0 12 "Transversary$Covers" "least" "LTransversary$Sets;", Cond.fieldLink RX0 18 "Transversary$Covers" "blockers" "LTransversary$Sets;", Cond.fieldLink RX0 21 "Transversary$Covers" "blockersTwice" "LTransversary$Sets;", Cond.fieldLink RX0 24 "Transversary$Covers" "isCover" "[Z", Cond.fieldLink RX0 28 "Transversary$Covers" "packed" "[I", Cond.instanceMethod yX4_init, Cond.code yX4_init cX4_init 1 none]
def wsX11_init_r4 : List Cond := [Cond.methodLink RX4 3 objectInit, Cond.classLink RX4 9 "[[J", Cond.arrayClass .long, Cond.fieldLink RX4 11 "Transversary$Price" "table" "[[J", Cond.fieldLink RX4 16 "Transversary$Price" "basis" "[I", Cond.methodLink RX11 49 yX5_init, Cond.instanceMethod yX5_init, Cond.code yX5_init cX5_init 2 none, Cond.methodLink RX5 3 objectInit, Cond.fieldLink RX5 9 "Transversary$Rings" "neighbours" "[I", Cond.fieldLink RX5 15 "Transversary$Rings" "ends" "[I", Cond.fieldLink RX5 18 "Transversary$Rings" "greatestFree" "[I", Cond.fieldLink RX5 21 "Transversary$Rings" "wins" "[J", Cond.fieldLink RX5 25 "Transversary$Rings" "covers" "LTransversary$Covers;", Cond.methodLink RX11 58 yX6_init, Cond.instanceMethod yX6_init, Cond.code yX6_init cX6_init 2 none, Cond.methodLink RX6 3 objectInit, Cond.classLink RX6 9 RX7, Cond.fieldLink RX6 12 "Transversary$Samples" "petals" "LTransversary$Sets;", Cond.fieldLink RX6 18 "Transversary$Samples" "outcomes" "[J", Cond.fieldLink RX6 22 "Transversary$Samples" "covers" "LTransversary$Covers;", Cond.methodLink RX11 65 yX1_init, Cond.instanceMethod yX1_init]
def wsX11_init_r5 : List Cond := [Cond.code yX1_init cX1_init 2 none, Cond.methodLink RX1 3 objectInit, Cond.classLink RX1 9 RX7, Cond.fieldLink RX1 12 "Transversary$Makers" "next" "LTransversary$Sets;", Cond.fieldLink RX1 18 "Transversary$Makers" "samples" "LTransversary$Samples;", Cond.instanceMethod yX8_init, Cond.code yX8_init cX8_init 1 none, Cond.methodLink RX8 3 objectInit, Cond.fieldLink RX8 9 "Transversary$Signs" "isOneColour" "[Z", Cond.fieldLink RX8 15 "Transversary$Signs" "fewest" "[I", Cond.instanceMethod yX10_init, Cond.code yX10_init cX10_init 1 none, Cond.methodLink RX10 3 objectInit, Cond.classLink RX10 9 RX7, Cond.fieldLink RX10 12 "Transversary$Trees" "left" "LTransversary$Sets;", Cond.fieldLink RX10 18 "Transversary$Trees" "neighbours" "[I", Cond.fieldLink RX10 22 "Transversary$Trees" "widths" "[I", Cond.instanceMethod yX2_init, Cond.code yX2_init cX2_init 1 none, Cond.methodLink RX2 3 objectInit, Cond.fieldLink RX2 9 "Transversary$Orders" "lengths" "[I", Cond.fieldLink RX2 15 "Transversary$Orders" "upperOf" "[I", Cond.fieldLink RX2 18 "Transversary$Orders" "lowerOf" "[I", Cond.fieldLink RX2 21 "Transversary$Orders" "reachedFrom" "[I"]
def wsX11_init_r6 : List Cond := [Cond.fieldLink RX2 24 "Transversary$Orders" "queue" "[I", Cond.instanceMethod yX9_init, Cond.code yX9_init cX9_init 1 none, Cond.methodLink RX9 3 objectInit, Cond.fieldLink RX9 9 "Transversary$Tables" "isFace" "[Z", Cond.fieldLink RX9 15 "Transversary$Tables" "placeOfFace" "[I", Cond.fieldLink RX9 19 "Transversary$Tables" "pivotRows" "[J", Cond.classLink RX9 23 "[[I", Cond.fieldLink RX9 25 "Transversary$Tables" "reduced" "[[I", Cond.fieldLink RX9 28 "Transversary$Tables" "line" "[I", Cond.methodLink RX11 100 yX3_begin, Cond.instanceMethod yX3_begin, Cond.selects RX3 yX3_begin yX3_begin, Cond.code yX3_begin cX3_begin 3 none, Cond.fieldLink RX3 15 "Transversary$Points" "many" "I", Cond.fieldLink RX3 23 "Transversary$Points" "alive" "I", Cond.methodLink RX3 19 yX3_howManySets, Cond.instanceMethod yX3_howManySets, Cond.selects RX3 yX3_howManySets yX3_howManySets, Cond.code yX3_howManySets cX3_howManySets 1 (some .int)]
def wsX11_init : List Cond := .code yX11_init cX11_init 2 none :: ((wsX11_init_r1 ++ (wsX11_init_r2 ++ (wsX11_init_r3 ++ (wsX11_init_r4 ++ (wsX11_init_r5 ++ wsX11_init_r6))))) ++ wsX30 ++ wsX110 ++ wsX70 ++ wsX00 ++ wsX40 ++ wsX50 ++ wsX60 ++ wsX10 ++ wsX80 ++ wsX100 ++ wsX20 ++ wsX90)
def wsX11_checkRange : List Cond := .code yX11_checkRange cX11_checkRange 4 none :: ([.classLink RX11 213 "java/lang/IllegalArgumentException", .initialized "java/lang/IllegalArgumentException"] ++ (vx_atS RX11 217 "java/lang/IllegalArgumentException" ["java/lang/RuntimeException", "java/lang/Exception"]).filter goodWord)
def wsX11_ground : List Cond := .code yX11_ground cX11_ground 2 (some .int) :: ([.fieldLink RX11 12 "Transversary" "points" "LTransversary$Points;", .fieldLink RX11 108 "Transversary" "familyCount" "I", .methodLink RX11 104 yX11_checkRange, .instanceMethod yX11_checkRange, .selects RX11 yX11_checkRange yX11_checkRange, .initialized RX11, .code yX11_checkRange cX11_checkRange 4 none, .classLink RX11 213 "java/lang/IllegalArgumentException", .initialized "java/lang/IllegalArgumentException", .methodLink RX11 100 yX3_begin, .instanceMethod yX3_begin, .selects RX3 yX3_begin yX3_begin, .initialized RX3, .code yX3_begin cX3_begin 3 none, .fieldLink RX3 15 "Transversary$Points" "many" "I", .fieldLink RX3 23 "Transversary$Points" "alive" "I", .fieldLink RX3 9 "Transversary$Points" "weights" "[I", .methodLink RX3 19 yX3_howManySets, .instanceMethod yX3_howManySets, .selects RX3 yX3_howManySets yX3_howManySets, .code yX3_howManySets cX3_howManySets 1 (some .int), .methodLink RX11 112 yX3_howManySets] ++ wsX110 ++ wsX30 ++ (vx_atS RX11 217 "java/lang/IllegalArgumentException" ["java/lang/RuntimeException", "java/lang/Exception"]).filter goodWord)
def wsX11_checkPoint : List Cond := .code yX11_checkPoint cX11_checkPoint 2 none :: ([.classLink RX11 386 "java/lang/IndexOutOfBoundsException", .initialized "java/lang/IndexOutOfBoundsException", .fieldLink RX11 12 "Transversary" "points" "LTransversary$Points;", .methodLink RX11 394 yX3_knows, .instanceMethod yX3_knows, .selects RX3 yX3_knows yX3_knows, .initialized RX3, .code yX3_knows cX3_knows 2 (some .boolean), .fieldLink RX3 15 "Transversary$Points" "many" "I", .fieldLink RX3 9 "Transversary$Points" "weights" "[I"] ++ wsX110 ++ wsX30 ++ (vx_atS RX11 390 "java/lang/IndexOutOfBoundsException" ["java/lang/RuntimeException", "java/lang/Exception"]).filter goodWord)
def wsX11_die_r1 : List Cond := [Cond.fieldLink RX11 12 "Transversary" "points" "LTransversary$Points;", Cond.methodLink RX11 116 yX11_checkPoint, Cond.instanceMethod yX11_checkPoint, Cond.selects RX11 yX11_checkPoint yX11_checkPoint, Cond.initialized RX11, Cond.code yX11_checkPoint cX11_checkPoint 2 none, Cond.classLink RX11 386 "java/lang/IndexOutOfBoundsException", Cond.initialized "java/lang/IndexOutOfBoundsException", Cond.methodLink RX11 394 yX3_knows, Cond.instanceMethod yX3_knows, Cond.selects RX3 yX3_knows yX3_knows, Cond.initialized RX3, Cond.code yX3_knows cX3_knows 2 (some .boolean), Cond.fieldLink RX3 15 "Transversary$Points" "many" "I", Cond.fieldLink RX3 9 "Transversary$Points" "weights" "[I", Cond.methodLink RX11 127 yX3_tellDeath, Cond.instanceMethod yX3_tellDeath, Cond.selects RX3 yX3_tellDeath yX3_tellDeath, Cond.code yX3_tellDeath cX3_tellDeath 3 none, Cond.fieldLink RX3 23 "Transversary$Points" "alive" "I", Cond.methodLink RX3 30 yX3_knows, Cond.methodLink RX11 131 yX3_howManyAlive, Cond.instanceMethod yX3_howManyAlive, Cond.selects RX3 yX3_howManyAlive yX3_howManyAlive]
def wsX11_die_r2 : List Cond := [Cond.code yX3_howManyAlive cX3_howManyAlive 1 (some .int), Cond.static yX11_sizeOf, Cond.code yX11_sizeOf cX11_sizeOf 1 (some .int), Cond.methodLink RX11 487 yJ6_bitCount_0f7a4, Cond.static yJ6_bitCount_0f7a4, Cond.initialized RJ6, Cond.code yJ6_bitCount_0f7a4 cJ6_bitCount_0f7a4 1 (some .int), Cond.constant RJ6 265 (1431655765), Cond.constant RJ6 266 (858993459), Cond.constant RJ6 267 (252645135)]
def wsX11_die : List Cond := .code yX11_die cX11_die 3 (some .int) :: ((wsX11_die_r1 ++ wsX11_die_r2) ++ wsX110 ++ wsX30 ++ (vx_atS RX11 390 "java/lang/IndexOutOfBoundsException" ["java/lang/RuntimeException", "java/lang/Exception"]).filter goodWord)
def wsX11_checkRoom : List Cond := .code yX11_checkRoom cX11_checkRoom 1 none :: ([.classLink RX11 158 "java/lang/IllegalStateException", .initialized "java/lang/IllegalStateException", .fieldLink RX11 108 "Transversary" "familyCount" "I"] ++ wsX110 ++ (vx_atS RX11 162 "java/lang/IllegalStateException" ["java/lang/RuntimeException", "java/lang/Exception"]).filter goodWord)
def wsX11_keep_r1 : List Cond := [Cond.fieldLink RX11 108 "Transversary" "familyCount" "I", Cond.fieldLink RX11 18 "Transversary" "families" "[LTransversary$Sets;", Cond.methodLink RX11 155 yX7_many, Cond.instanceMethod yX7_many, Cond.selects RX7 yX7_many yX7_many, Cond.initialized RX7, Cond.code yX7_many cX7_many 1 (some .int), Cond.fieldLink RX7 19 "Transversary$Sets" "many" "I", Cond.methodLink RX11 403 yX7_copy, Cond.instanceMethod yX7_copy, Cond.selects RX7 yX7_copy yX7_copy, Cond.code yX7_copy cX7_copy 3 none, Cond.methodLink RX7 23 yX7_clear, Cond.instanceMethod yX7_clear, Cond.selects RX7 yX7_clear yX7_clear, Cond.code yX7_clear cX7_clear 2 none, Cond.fieldLink RX7 9 "Transversary$Sets" "isHeld" "[Z", Cond.methodLink RX7 26 yX7_many, Cond.methodLink RX7 29 yX7_at, Cond.instanceMethod yX7_at, Cond.selects RX7 yX7_at yX7_at, Cond.code yX7_at cX7_at 2 (some .int), Cond.fieldLink RX7 15 "Transversary$Sets" "row" "[I", Cond.methodLink RX7 33 yX7_put]
def wsX11_keep_r2 : List Cond := [Cond.instanceMethod yX7_put, Cond.selects RX7 yX7_put yX7_put, Cond.code yX7_put cX7_put 3 none]
def wsX11_keep : List Cond := .code yX11_keep cX11_keep 2 (some .int) :: ((wsX11_keep_r1 ++ wsX11_keep_r2) ++ wsX110 ++ wsX70)
def wsX11_family_r1 : List Cond := [Cond.fieldLink RX11 30 "Transversary" "made" "LTransversary$Sets;", Cond.methodLink RX11 134 yX11_checkRoom, Cond.instanceMethod yX11_checkRoom, Cond.selects RX11 yX11_checkRoom yX11_checkRoom, Cond.initialized RX11, Cond.code yX11_checkRoom cX11_checkRoom 1 none, Cond.classLink RX11 158 "java/lang/IllegalStateException", Cond.initialized "java/lang/IllegalStateException", Cond.fieldLink RX11 108 "Transversary" "familyCount" "I", Cond.methodLink RX11 137 yX7_clear, Cond.instanceMethod yX7_clear, Cond.selects RX7 yX7_clear yX7_clear, Cond.initialized RX7, Cond.code yX7_clear cX7_clear 2 none, Cond.fieldLink RX7 9 "Transversary$Sets" "isHeld" "[Z", Cond.fieldLink RX7 19 "Transversary$Sets" "many" "I", Cond.methodLink RX11 140 yX11_keep, Cond.instanceMethod yX11_keep, Cond.selects RX11 yX11_keep yX11_keep, Cond.code yX11_keep cX11_keep 2 (some .int), Cond.fieldLink RX11 18 "Transversary" "families" "[LTransversary$Sets;", Cond.methodLink RX11 155 yX7_many, Cond.instanceMethod yX7_many, Cond.selects RX7 yX7_many yX7_many]
def wsX11_family_r2 : List Cond := [Cond.code yX7_many cX7_many 1 (some .int), Cond.methodLink RX11 403 yX7_copy, Cond.instanceMethod yX7_copy, Cond.selects RX7 yX7_copy yX7_copy, Cond.code yX7_copy cX7_copy 3 none, Cond.methodLink RX7 23 yX7_clear, Cond.methodLink RX7 26 yX7_many, Cond.methodLink RX7 29 yX7_at, Cond.instanceMethod yX7_at, Cond.selects RX7 yX7_at yX7_at, Cond.code yX7_at cX7_at 2 (some .int), Cond.fieldLink RX7 15 "Transversary$Sets" "row" "[I", Cond.methodLink RX7 33 yX7_put, Cond.instanceMethod yX7_put, Cond.selects RX7 yX7_put yX7_put, Cond.code yX7_put cX7_put 3 none]
def wsX11_family : List Cond := .code yX11_family cX11_family 1 (some .int) :: ((wsX11_family_r1 ++ wsX11_family_r2) ++ wsX110 ++ wsX70 ++ (vx_atS RX11 162 "java/lang/IllegalStateException" ["java/lang/RuntimeException", "java/lang/Exception"]).filter goodWord)
def wsX11_familyOf : List Cond := .code yX11_familyOf cX11_familyOf 2 (some (.object "Transversary$Sets")) :: ([.classLink RX11 386 "java/lang/IndexOutOfBoundsException", .initialized "java/lang/IndexOutOfBoundsException", .fieldLink RX11 108 "Transversary" "familyCount" "I", .fieldLink RX11 18 "Transversary" "families" "[LTransversary$Sets;"] ++ wsX110 ++ (vx_atS RX11 390 "java/lang/IndexOutOfBoundsException" ["java/lang/RuntimeException", "java/lang/Exception"]).filter goodWord)
def wsX11_partsOf_r1 : List Cond := [Cond.fieldLink RX11 68 "Transversary" "makers" "LTransversary$Makers;", Cond.fieldLink RX11 23 "Transversary" "parts" "LTransversary$Sets;", Cond.fieldLink RX11 12 "Transversary" "points" "LTransversary$Points;", Cond.methodLink RX11 144 yX11_familyOf, Cond.instanceMethod yX11_familyOf, Cond.selects RX11 yX11_familyOf yX11_familyOf, Cond.initialized RX11, Cond.code yX11_familyOf cX11_familyOf 2 (some (.object "Transversary$Sets")), Cond.classLink RX11 386 "java/lang/IndexOutOfBoundsException", Cond.initialized "java/lang/IndexOutOfBoundsException", Cond.fieldLink RX11 108 "Transversary" "familyCount" "I", Cond.fieldLink RX11 18 "Transversary" "families" "[LTransversary$Sets;", Cond.methodLink RX11 171 yX3_alive, Cond.instanceMethod yX3_alive, Cond.selects RX3 yX3_alive yX3_alive, Cond.initialized RX3, Cond.code yX3_alive cX3_alive 1 (some .int), Cond.fieldLink RX3 23 "Transversary$Points" "alive" "I", Cond.methodLink RX11 391 yX1_partsInto, Cond.instanceMethod yX1_partsInto, Cond.selects RX1 yX1_partsInto yX1_partsInto, Cond.initialized RX1, Cond.code yX1_partsInto cX1_partsInto 5 none, Cond.methodLink RX1 22 yX7_clear]
def wsX11_partsOf_r2 : List Cond := [Cond.instanceMethod yX7_clear, Cond.selects RX7 yX7_clear yX7_clear, Cond.initialized RX7, Cond.code yX7_clear cX7_clear 2 none, Cond.fieldLink RX7 9 "Transversary$Sets" "isHeld" "[Z", Cond.fieldLink RX7 19 "Transversary$Sets" "many" "I", Cond.methodLink RX1 25 yX7_many, Cond.instanceMethod yX7_many, Cond.selects RX7 yX7_many yX7_many, Cond.code yX7_many cX7_many 1 (some .int), Cond.methodLink RX1 29 yX7_at, Cond.instanceMethod yX7_at, Cond.selects RX7 yX7_at yX7_at, Cond.code yX7_at cX7_at 2 (some .int), Cond.fieldLink RX7 15 "Transversary$Sets" "row" "[I", Cond.methodLink RX1 33 yX7_put, Cond.instanceMethod yX7_put, Cond.selects RX7 yX7_put yX7_put, Cond.code yX7_put cX7_put 3 none]
def wsX11_partsOf : List Cond := .code yX11_partsOf cX11_partsOf 2 (some (.object "Transversary$Sets")) :: ((wsX11_partsOf_r1 ++ wsX11_partsOf_r2) ++ wsX110 ++ wsX30 ++ wsX70 ++ (vx_atS RX11 390 "java/lang/IndexOutOfBoundsException" ["java/lang/RuntimeException", "java/lang/Exception"]).filter goodWord)
def wsX11_game_r1 : List Cond := [Cond.fieldLink RX11 52 "Transversary" "rings" "LTransversary$Rings;", Cond.fieldLink RX11 12 "Transversary" "points" "LTransversary$Points;", Cond.methodLink RX11 168 yX11_partsOf, Cond.instanceMethod yX11_partsOf, Cond.selects RX11 yX11_partsOf yX11_partsOf, Cond.initialized RX11, Cond.code yX11_partsOf cX11_partsOf 2 (some (.object "Transversary$Sets")), Cond.fieldLink RX11 68 "Transversary" "makers" "LTransversary$Makers;", Cond.fieldLink RX11 23 "Transversary" "parts" "LTransversary$Sets;", Cond.methodLink RX11 144 yX11_familyOf, Cond.instanceMethod yX11_familyOf, Cond.selects RX11 yX11_familyOf yX11_familyOf, Cond.code yX11_familyOf cX11_familyOf 2 (some (.object "Transversary$Sets")), Cond.classLink RX11 386 "java/lang/IndexOutOfBoundsException", Cond.initialized "java/lang/IndexOutOfBoundsException", Cond.fieldLink RX11 108 "Transversary" "familyCount" "I", Cond.fieldLink RX11 18 "Transversary" "families" "[LTransversary$Sets;", Cond.methodLink RX11 171 yX3_alive, Cond.instanceMethod yX3_alive, Cond.selects RX3 yX3_alive yX3_alive, Cond.initialized RX3, Cond.code yX3_alive cX3_alive 1 (some .int), Cond.fieldLink RX3 23 "Transversary$Points" "alive" "I", Cond.methodLink RX11 391 yX1_partsInto]
def wsX11_game_r2 : List Cond := [Cond.instanceMethod yX1_partsInto, Cond.selects RX1 yX1_partsInto yX1_partsInto, Cond.initialized RX1, Cond.code yX1_partsInto cX1_partsInto 5 none, Cond.methodLink RX1 22 yX7_clear, Cond.instanceMethod yX7_clear, Cond.selects RX7 yX7_clear yX7_clear, Cond.initialized RX7, Cond.code yX7_clear cX7_clear 2 none, Cond.fieldLink RX7 9 "Transversary$Sets" "isHeld" "[Z", Cond.fieldLink RX7 19 "Transversary$Sets" "many" "I", Cond.methodLink RX1 25 yX7_many, Cond.instanceMethod yX7_many, Cond.selects RX7 yX7_many yX7_many, Cond.code yX7_many cX7_many 1 (some .int), Cond.methodLink RX1 29 yX7_at, Cond.instanceMethod yX7_at, Cond.selects RX7 yX7_at yX7_at, Cond.code yX7_at cX7_at 2 (some .int), Cond.fieldLink RX7 15 "Transversary$Sets" "row" "[I", Cond.methodLink RX1 33 yX7_put, Cond.instanceMethod yX7_put, Cond.selects RX7 yX7_put yX7_put, Cond.code yX7_put cX7_put 3 none]
def wsX11_game_r3 : List Cond := [Cond.methodLink RX11 265 yX5_winningPoint, Cond.instanceMethod yX5_winningPoint, Cond.selects RX5 yX5_winningPoint yX5_winningPoint, Cond.initialized RX5, Cond.code yX5_winningPoint cX5_winningPoint 4 (some .int), Cond.methodLink RX5 85 yX5_playBackwards, Cond.instanceMethod yX5_playBackwards, Cond.selects RX5 yX5_playBackwards yX5_playBackwards, Cond.code yX5_playBackwards cX5_playBackwards 6 none, Cond.fieldLink RX5 21 "Transversary$Rings" "wins" "[J", Cond.static yX11_isIn, Cond.code yX11_isIn cX11_isIn 2 (some .boolean), Cond.methodLink RX5 91 yX7_hasWithin, Cond.instanceMethod yX7_hasWithin, Cond.selects RX7 yX7_hasWithin yX7_hasWithin, Cond.code yX7_hasWithin cX7_hasWithin 4 (some .boolean), Cond.methodLink RX7 29 yX7_at, Cond.static yX11_sizeOf, Cond.code yX11_sizeOf cX11_sizeOf 1 (some .int), Cond.methodLink RX11 487 yJ6_bitCount_0f7a4, Cond.static yJ6_bitCount_0f7a4, Cond.initialized RJ6, Cond.code yJ6_bitCount_0f7a4 cJ6_bitCount_0f7a4 1 (some .int), Cond.constant RJ6 265 (1431655765)]
def wsX11_game_r4 : List Cond := [Cond.constant RJ6 266 (858993459), Cond.constant RJ6 267 (252645135), Cond.methodLink RX5 94 yX5_canWin, Cond.instanceMethod yX5_canWin, Cond.selects RX5 yX5_canWin yX5_canWin, Cond.code yX5_canWin cX5_canWin 10 (some .boolean), Cond.methodLink RX5 88 yX5_isWin, Cond.instanceMethod yX5_isWin, Cond.selects RX5 yX5_isWin yX5_isWin, Cond.code yX5_isWin cX5_isWin 3 (some .boolean), Cond.methodLink RX5 98 yX5_placeOf, Cond.static yX5_placeOf, Cond.code yX5_placeOf cX5_placeOf 2 (some .int)]
def wsX11_game : List Cond := .code yX11_game cX11_game 2 (some .int) :: ((wsX11_game_r1 ++ (wsX11_game_r2 ++ (wsX11_game_r3 ++ wsX11_game_r4))) ++ wsX110 ++ wsX30 ++ wsX70 ++ wsX50 ++ (vx_atS RX11 390 "java/lang/IndexOutOfBoundsException" ["java/lang/RuntimeException", "java/lang/Exception"]).filter goodWord)
def wsX12_init : List Cond := .code yX12_init cX12_init 1 none :: ([.methodLink RX12 1 objectInit, .instanceMethod objectInit, .code objectInit ⟨#[0xb1]⟩ 1 none])
def wsX14_all : List Cond := .code yX14_all cX14_all 1 (some .int) :: ([.fieldLink RX14 7 "TransversaryModel" "points" "I"] ++ wsX140)
def wsJxa1e45_init_da8c8 : List Cond := .code yJxa1e45_init_da8c8 cJxa1e45_init_da8c8 1 none :: ([.methodLink RJxa1e45 1 objectInit, .instanceMethod objectInit, .code objectInit ⟨#[0xb1]⟩ 1 none])
def wsJxc12de_init_da8c8 : List Cond := .code yJxc12de_init_da8c8 cJxc12de_init_da8c8 1 none :: ([.fieldLink RJxc12de 7 "java/util/AbstractList" "modCount" "I", .methodLink RJxc12de 1 yJxa1e45_init_da8c8, .instanceMethod yJxa1e45_init_da8c8, .initialized RJxa1e45, .code yJxa1e45_init_da8c8 cJxa1e45_init_da8c8 1 none, .methodLink RJxa1e45 1 objectInit, .instanceMethod objectInit, .code objectInit ⟨#[0xb1]⟩ 1 none] ++ wsJx4a65c0)
def wsJx4a65c_init_da8c8 : List Cond := .code yJx4a65c_init_da8c8 cJx4a65c_init_da8c8 1 none :: ([.fieldLink RJx4a65c 39 "java/util/ArrayList" "DEFAULTCAPACITY_EMPTY_ELEMENTDATA" "[Ljava/lang/Object;", .fieldLink RJx4a65c 9 "java/util/ArrayList" "elementData" "[Ljava/lang/Object;", .methodLink RJx4a65c 1 yJxc12de_init_da8c8, .instanceMethod yJxc12de_init_da8c8, .initialized RJxc12de, .code yJxc12de_init_da8c8 cJxc12de_init_da8c8 1 none, .fieldLink RJxc12de 7 "java/util/AbstractList" "modCount" "I", .methodLink RJxc12de 1 yJxa1e45_init_da8c8, .instanceMethod yJxa1e45_init_da8c8, .initialized RJxa1e45, .code yJxa1e45_init_da8c8 cJxa1e45_init_da8c8 1 none, .methodLink RJxa1e45 1 objectInit, .instanceMethod objectInit, .code objectInit ⟨#[0xb1]⟩ 1 none] ++ wsJx4a65c0)
def wsX14_init_r1 : List Cond := [Cond.methodLink RX14 1 objectInit, Cond.instanceMethod objectInit, Cond.code objectInit ⟨#[0xb1]⟩ 1 none, Cond.fieldLink RX14 7 "TransversaryModel" "points" "I", Cond.arrayClass .int, Cond.fieldLink RX14 13 "TransversaryModel" "weights" "[I", Cond.classLink RX14 17 RJx4a65c, Cond.instantiable RJx4a65c 3, Cond.initialized RJx4a65c, Cond.fieldLink RX14 20 "TransversaryModel" "families" "Ljava/util/ArrayList;", Cond.arrayClass .boolean, Cond.fieldLink RX14 24 "TransversaryModel" "scratch" "[Z", Cond.arrayClass .long, Cond.fieldLink RX14 28 "TransversaryModel" "lows" "[J", Cond.fieldLink RX14 32 "TransversaryModel" "highs" "[J", Cond.methodLink RX14 19 yJx4a65c_init_da8c8, Cond.instanceMethod yJx4a65c_init_da8c8, Cond.code yJx4a65c_init_da8c8 cJx4a65c_init_da8c8 1 none, Cond.fieldLink RJx4a65c 39 "java/util/ArrayList" "DEFAULTCAPACITY_EMPTY_ELEMENTDATA" "[Ljava/lang/Object;", Cond.fieldLink RJx4a65c 9 "java/util/ArrayList" "elementData" "[Ljava/lang/Object;", Cond.methodLink RJx4a65c 1 yJxc12de_init_da8c8, Cond.instanceMethod yJxc12de_init_da8c8, Cond.initialized RJxc12de, Cond.code yJxc12de_init_da8c8 cJxc12de_init_da8c8 1 none]
def wsX14_init_r2 : List Cond := [Cond.fieldLink RJxc12de 7 "java/util/AbstractList" "modCount" "I", Cond.methodLink RJxc12de 1 yJxa1e45_init_da8c8, Cond.instanceMethod yJxa1e45_init_da8c8, Cond.initialized RJxa1e45, Cond.code yJxa1e45_init_da8c8 cJxa1e45_init_da8c8 1 none, Cond.methodLink RJxa1e45 1 objectInit]
def wsX14_init : List Cond := .code yX14_init cX14_init 1 none :: ((wsX14_init_r1 ++ wsX14_init_r2) ++ wsX140 ++ wsJx4a65c0)
def wsX14_thrown : List Cond := .code yX14_thrown cX14_thrown 1 (some .int) :: ([.fieldLink RX14 35 "TransversaryModel" "thrown" "I"] ++ wsX140)
def wsX14_is : List Cond := .code yX14_is cX14_is 3 (some .boolean) :: ([])
def wsJx4a65c_size_8abf5 : List Cond := .code yJx4a65c_size_8abf5 cJx4a65c_size_8abf5 1 (some .int) :: ([.fieldLink RJx4a65c 48 "java/util/ArrayList" "size" "I"] ++ wsJx4a65c0)
def wsX14_isFamily : List Cond := .code yX14_isFamily cX14_isFamily 2 (some .boolean) :: ([.fieldLink RX14 20 "TransversaryModel" "families" "Ljava/util/ArrayList;", .methodLink RX14 38 yJx4a65c_size_8abf5, .instanceMethod yJx4a65c_size_8abf5, .selects RJx4a65c yJx4a65c_size_8abf5 yJx4a65c_size_8abf5, .initialized RJx4a65c, .code yJx4a65c_size_8abf5 cJx4a65c_size_8abf5 1 (some .int), .fieldLink RJx4a65c 48 "java/util/ArrayList" "size" "I", .methodLink RX14 42 yX14_is, .static yX14_is, .initialized RX14, .code yX14_is cX14_is 3 (some .boolean)] ++ wsX140 ++ wsJx4a65c0)
def wsX14_isPoint : List Cond := .code yX14_isPoint cX14_isPoint 2 (some .boolean) :: ([.fieldLink RX14 7 "TransversaryModel" "points" "I", .methodLink RX14 42 yX14_is, .static yX14_is, .initialized RX14, .code yX14_is cX14_is 3 (some .boolean)] ++ wsX140)
def wsX14_alive : List Cond := .code yX14_alive cX14_alive 1 (some .int) :: ([.fieldLink RX14 49 "TransversaryModel" "dead" "I", .methodLink RX14 46 yX14_all, .instanceMethod yX14_all, .selects RX14 yX14_all yX14_all, .initialized RX14, .code yX14_all cX14_all 1 (some .int), .fieldLink RX14 7 "TransversaryModel" "points" "I"] ++ wsX140)
def wsX14_aliveMany : List Cond := .code yX14_aliveMany cX14_aliveMany 1 (some .int) :: ([.methodLink RX14 52 yX14_alive, .instanceMethod yX14_alive, .selects RX14 yX14_alive yX14_alive, .initialized RX14, .code yX14_alive cX14_alive 1 (some .int), .fieldLink RX14 49 "TransversaryModel" "dead" "I", .methodLink RX14 46 yX14_all, .instanceMethod yX14_all, .selects RX14 yX14_all yX14_all, .code yX14_all cX14_all 1 (some .int), .fieldLink RX14 7 "TransversaryModel" "points" "I", .methodLink RX14 55 yJ6_bitCount_0f7a4, .static yJ6_bitCount_0f7a4, .initialized RJ6, .code yJ6_bitCount_0f7a4 cJ6_bitCount_0f7a4 1 (some .int), .constant RJ6 265 (1431655765), .constant RJ6 266 (858993459), .constant RJ6 267 (252645135)] ++ wsX140)
def wsX14_empty : List Cond := .code yX14_empty cX14_empty 1 (some (.array .boolean)) :: ([.arrayClass .boolean, .methodLink RX14 46 yX14_all, .instanceMethod yX14_all, .selects RX14 yX14_all yX14_all, .initialized RX14, .code yX14_all cX14_all 1 (some .int), .fieldLink RX14 7 "TransversaryModel" "points" "I"] ++ wsX140)
def wsJx4a65c_clear_da8c8 : List Cond := .code yJx4a65c_clear_da8c8 cJx4a65c_clear_da8c8 4 none :: ([.fieldLink RJx4a65c 63 "java/util/ArrayList" "modCount" "I", .sameField "java/util/ArrayList" "java/util/AbstractList" "modCount" "I", .fieldLink RJx4a65c 9 "java/util/ArrayList" "elementData" "[Ljava/lang/Object;", .fieldLink RJx4a65c 48 "java/util/ArrayList" "size" "I"] ++ wsJx4a65c0)
def wsX14_ground_r1 : List Cond := [Cond.fieldLink RX14 35 "TransversaryModel" "thrown" "I", Cond.fieldLink RX14 7 "TransversaryModel" "points" "I", Cond.arrayClass .int, Cond.fieldLink RX14 13 "TransversaryModel" "weights" "[I", Cond.fieldLink RX14 49 "TransversaryModel" "dead" "I", Cond.fieldLink RX14 20 "TransversaryModel" "families" "Ljava/util/ArrayList;", Cond.methodLink RX14 42 yX14_is, Cond.static yX14_is, Cond.initialized RX14, Cond.code yX14_is cX14_is 3 (some .boolean), Cond.methodLink RX14 65 yX14_refuse, Cond.instanceMethod yX14_refuse, Cond.selects RX14 yX14_refuse yX14_refuse, Cond.code yX14_refuse cX14_refuse 2 (some .int), Cond.methodLink RX14 68 yJx4a65c_clear_da8c8, Cond.instanceMethod yJx4a65c_clear_da8c8, Cond.selects RJx4a65c yJx4a65c_clear_da8c8 yJx4a65c_clear_da8c8, Cond.initialized RJx4a65c, Cond.code yJx4a65c_clear_da8c8 cJx4a65c_clear_da8c8 4 none, Cond.fieldLink RJx4a65c 63 "java/util/ArrayList" "modCount" "I", Cond.sameField "java/util/ArrayList" "java/util/AbstractList" "modCount" "I", Cond.fieldLink RJx4a65c 9 "java/util/ArrayList" "elementData" "[Ljava/lang/Object;", Cond.fieldLink RJx4a65c 48 "java/util/ArrayList" "size" "I", Cond.methodLink RX14 46 yX14_all]
def wsX14_ground_r2 : List Cond := [Cond.instanceMethod yX14_all, Cond.selects RX14 yX14_all yX14_all, Cond.code yX14_all cX14_all 1 (some .int)]
def wsX14_ground : List Cond := .code yX14_ground cX14_ground 3 (some .int) :: ((wsX14_ground_r1 ++ wsX14_ground_r2) ++ wsX140 ++ wsJx4a65c0)
def wsX14_die_r1 : List Cond := [Cond.fieldLink RX14 35 "TransversaryModel" "thrown" "I", Cond.fieldLink RX14 49 "TransversaryModel" "dead" "I", Cond.methodLink RX14 71 yX14_isPoint, Cond.instanceMethod yX14_isPoint, Cond.selects RX14 yX14_isPoint yX14_isPoint, Cond.initialized RX14, Cond.code yX14_isPoint cX14_isPoint 2 (some .boolean), Cond.fieldLink RX14 7 "TransversaryModel" "points" "I", Cond.methodLink RX14 42 yX14_is, Cond.static yX14_is, Cond.code yX14_is cX14_is 3 (some .boolean), Cond.methodLink RX14 65 yX14_refuse, Cond.instanceMethod yX14_refuse, Cond.selects RX14 yX14_refuse yX14_refuse, Cond.code yX14_refuse cX14_refuse 2 (some .int), Cond.methodLink RX14 75 yX14_aliveMany, Cond.instanceMethod yX14_aliveMany, Cond.selects RX14 yX14_aliveMany yX14_aliveMany, Cond.code yX14_aliveMany cX14_aliveMany 1 (some .int), Cond.methodLink RX14 52 yX14_alive, Cond.instanceMethod yX14_alive, Cond.selects RX14 yX14_alive yX14_alive, Cond.code yX14_alive cX14_alive 1 (some .int), Cond.methodLink RX14 46 yX14_all]
def wsX14_die_r2 : List Cond := [Cond.instanceMethod yX14_all, Cond.selects RX14 yX14_all yX14_all, Cond.code yX14_all cX14_all 1 (some .int), Cond.methodLink RX14 55 yJ6_bitCount_0f7a4, Cond.static yJ6_bitCount_0f7a4, Cond.initialized RJ6, Cond.code yJ6_bitCount_0f7a4 cJ6_bitCount_0f7a4 1 (some .int), Cond.constant RJ6 265 (1431655765), Cond.constant RJ6 266 (858993459), Cond.constant RJ6 267 (252645135)]
def wsX14_die : List Cond := .code yX14_die cX14_die 3 (some .int) :: ((wsX14_die_r1 ++ wsX14_die_r2) ++ wsX140)
def wsJx4a65c_grow_92f84_r1 : List Cond := [Cond.fieldLink RJx4a65c 9 "java/util/ArrayList" "elementData" "[Ljava/lang/Object;", Cond.fieldLink RJx4a65c 39 "java/util/ArrayList" "DEFAULTCAPACITY_EMPTY_ELEMENTDATA" "[Ljava/lang/Object;", Cond.methodLink RJx4a65c 79 Lib.Math.max.name, Cond.static Lib.Math.max.name, Cond.initialized "java/lang/Math", Cond.code Lib.Math.max.name Lib.Math.max.code 2 (some .int), Cond.classLink RJx4a65c 7 "java/lang/Object", Cond.methodLink RJx4a65c 73 yJ8_newLength_cabcc, Cond.static yJ8_newLength_cabcc, Cond.initialized RJ8, Cond.code yJ8_newLength_cabcc cJ8_newLength_cabcc 4 (some .int), Cond.methodLink RJ8 194 Lib.Math.max.name, Cond.constant RJ8 200 (2147483639), Cond.methodLink RJ8 201 yJ8_hugeLength_7cf53, Cond.static yJ8_hugeLength_7cf53, Cond.code yJ8_hugeLength_7cf53 cJ8_hugeLength_7cf53 3 (some .int), Cond.methodLink RJx4a65c 66 yJ7_copyOf_1904c, Cond.static yJ7_copyOf_1904c, Cond.initialized RJ7, Cond.code yJ7_copyOf_1904c cJ7_copyOf_1904c 2 (some (.array (.object "java/lang/Object"))), Cond.methodLink RJ7 86 ⟨"java/lang/Object", "getClass", "()Ljava/lang/Class;"⟩, Cond.selects "[Ljava/lang/Object;" ⟨"java/lang/Object", "getClass", "()Ljava/lang/Class;"⟩ ⟨"java/lang/Object", "getClass", "()Ljava/lang/Class;"⟩, Cond.instanceMethod ⟨"java/lang/Object", "getClass", "()Ljava/lang/Class;"⟩, Cond.native ⟨"java/lang/Object", "getClass", "()Ljava/lang/Class;"⟩]
def wsJx4a65c_grow_92f84_r2 : List Cond := [Cond.methodLink RJ7 300 yJ7_copyOf_6403c, Cond.static yJ7_copyOf_6403c, Cond.code yJ7_copyOf_6403c cJ7_copyOf_6403c 4 (some (.array (.object "java/lang/Object"))), Cond.classLink RJ7 110 "[Ljava/lang/Object;", Cond.classLink RJ7 2 "java/lang/Object", Cond.methodLink RJ7 304 Lib.Math.min.name, Cond.static Lib.Math.min.name, Cond.code Lib.Math.min.name Lib.Math.min.code 2 (some .int), Cond.methodLink RJ7 150 arraycopyName, Cond.native arraycopyName, Cond.static arraycopyName, Cond.initialized "java/lang/System"]
def wsJx4a65c_grow_92f84 : List Cond := .code yJx4a65c_grow_92f84 cJx4a65c_grow_92f84 4 (some (.array (.object "java/lang/Object"))) :: ((wsJx4a65c_grow_92f84_r1 ++ wsJx4a65c_grow_92f84_r2) ++ wsJx4a65c0)
def wsJx4a65c_grow_d5877_r1 : List Cond := [Cond.fieldLink RJx4a65c 48 "java/util/ArrayList" "size" "I", Cond.methodLink RJx4a65c 69 yJx4a65c_grow_92f84, Cond.instanceMethod yJx4a65c_grow_92f84, Cond.selects RJx4a65c yJx4a65c_grow_92f84 yJx4a65c_grow_92f84, Cond.initialized RJx4a65c, Cond.code yJx4a65c_grow_92f84 cJx4a65c_grow_92f84 4 (some (.array (.object "java/lang/Object"))), Cond.fieldLink RJx4a65c 9 "java/util/ArrayList" "elementData" "[Ljava/lang/Object;", Cond.fieldLink RJx4a65c 39 "java/util/ArrayList" "DEFAULTCAPACITY_EMPTY_ELEMENTDATA" "[Ljava/lang/Object;", Cond.methodLink RJx4a65c 79 Lib.Math.max.name, Cond.static Lib.Math.max.name, Cond.initialized "java/lang/Math", Cond.code Lib.Math.max.name Lib.Math.max.code 2 (some .int), Cond.classLink RJx4a65c 7 "java/lang/Object", Cond.methodLink RJx4a65c 73 yJ8_newLength_cabcc, Cond.static yJ8_newLength_cabcc, Cond.initialized RJ8, Cond.code yJ8_newLength_cabcc cJ8_newLength_cabcc 4 (some .int), Cond.methodLink RJ8 194 Lib.Math.max.name, Cond.constant RJ8 200 (2147483639), Cond.methodLink RJ8 201 yJ8_hugeLength_7cf53, Cond.static yJ8_hugeLength_7cf53, Cond.code yJ8_hugeLength_7cf53 cJ8_hugeLength_7cf53 3 (some .int), Cond.methodLink RJx4a65c 66 yJ7_copyOf_1904c, Cond.static yJ7_copyOf_1904c]
def wsJx4a65c_grow_d5877_r2 : List Cond := [Cond.initialized RJ7, Cond.code yJ7_copyOf_1904c cJ7_copyOf_1904c 2 (some (.array (.object "java/lang/Object"))), Cond.methodLink RJ7 86 ⟨"java/lang/Object", "getClass", "()Ljava/lang/Class;"⟩, Cond.selects "[Ljava/lang/Object;" ⟨"java/lang/Object", "getClass", "()Ljava/lang/Class;"⟩ ⟨"java/lang/Object", "getClass", "()Ljava/lang/Class;"⟩, Cond.instanceMethod ⟨"java/lang/Object", "getClass", "()Ljava/lang/Class;"⟩, Cond.native ⟨"java/lang/Object", "getClass", "()Ljava/lang/Class;"⟩, Cond.methodLink RJ7 300 yJ7_copyOf_6403c, Cond.static yJ7_copyOf_6403c, Cond.code yJ7_copyOf_6403c cJ7_copyOf_6403c 4 (some (.array (.object "java/lang/Object"))), Cond.classLink RJ7 110 "[Ljava/lang/Object;", Cond.classLink RJ7 2 "java/lang/Object", Cond.methodLink RJ7 304 Lib.Math.min.name, Cond.static Lib.Math.min.name, Cond.code Lib.Math.min.name Lib.Math.min.code 2 (some .int), Cond.methodLink RJ7 150 arraycopyName, Cond.native arraycopyName, Cond.static arraycopyName, Cond.initialized "java/lang/System"]
def wsJx4a65c_grow_d5877 : List Cond := .code yJx4a65c_grow_d5877 cJx4a65c_grow_d5877 1 (some (.array (.object "java/lang/Object"))) :: ((wsJx4a65c_grow_d5877_r1 ++ wsJx4a65c_grow_d5877_r2) ++ wsJx4a65c0)
def wsJx4a65c_add_72be8_r1 : List Cond := [Cond.fieldLink RJx4a65c 48 "java/util/ArrayList" "size" "I", Cond.methodLink RJx4a65c 129 yJx4a65c_grow_d5877, Cond.instanceMethod yJx4a65c_grow_d5877, Cond.selects RJx4a65c yJx4a65c_grow_d5877 yJx4a65c_grow_d5877, Cond.initialized RJx4a65c, Cond.code yJx4a65c_grow_d5877 cJx4a65c_grow_d5877 1 (some (.array (.object "java/lang/Object"))), Cond.methodLink RJx4a65c 69 yJx4a65c_grow_92f84, Cond.instanceMethod yJx4a65c_grow_92f84, Cond.selects RJx4a65c yJx4a65c_grow_92f84 yJx4a65c_grow_92f84, Cond.code yJx4a65c_grow_92f84 cJx4a65c_grow_92f84 4 (some (.array (.object "java/lang/Object"))), Cond.fieldLink RJx4a65c 9 "java/util/ArrayList" "elementData" "[Ljava/lang/Object;", Cond.fieldLink RJx4a65c 39 "java/util/ArrayList" "DEFAULTCAPACITY_EMPTY_ELEMENTDATA" "[Ljava/lang/Object;", Cond.methodLink RJx4a65c 79 Lib.Math.max.name, Cond.static Lib.Math.max.name, Cond.initialized "java/lang/Math", Cond.code Lib.Math.max.name Lib.Math.max.code 2 (some .int), Cond.classLink RJx4a65c 7 "java/lang/Object", Cond.methodLink RJx4a65c 73 yJ8_newLength_cabcc, Cond.static yJ8_newLength_cabcc, Cond.initialized RJ8, Cond.code yJ8_newLength_cabcc cJ8_newLength_cabcc 4 (some .int), Cond.methodLink RJ8 194 Lib.Math.max.name, Cond.constant RJ8 200 (2147483639), Cond.methodLink RJ8 201 yJ8_hugeLength_7cf53]
def wsJx4a65c_add_72be8_r2 : List Cond := [Cond.static yJ8_hugeLength_7cf53, Cond.code yJ8_hugeLength_7cf53 cJ8_hugeLength_7cf53 3 (some .int), Cond.methodLink RJx4a65c 66 yJ7_copyOf_1904c, Cond.static yJ7_copyOf_1904c, Cond.initialized RJ7, Cond.code yJ7_copyOf_1904c cJ7_copyOf_1904c 2 (some (.array (.object "java/lang/Object"))), Cond.methodLink RJ7 86 ⟨"java/lang/Object", "getClass", "()Ljava/lang/Class;"⟩, Cond.selects "[Ljava/lang/Object;" ⟨"java/lang/Object", "getClass", "()Ljava/lang/Class;"⟩ ⟨"java/lang/Object", "getClass", "()Ljava/lang/Class;"⟩, Cond.instanceMethod ⟨"java/lang/Object", "getClass", "()Ljava/lang/Class;"⟩, Cond.native ⟨"java/lang/Object", "getClass", "()Ljava/lang/Class;"⟩, Cond.methodLink RJ7 300 yJ7_copyOf_6403c, Cond.static yJ7_copyOf_6403c, Cond.code yJ7_copyOf_6403c cJ7_copyOf_6403c 4 (some (.array (.object "java/lang/Object"))), Cond.classLink RJ7 110 "[Ljava/lang/Object;", Cond.classLink RJ7 2 "java/lang/Object", Cond.methodLink RJ7 304 Lib.Math.min.name, Cond.static Lib.Math.min.name, Cond.code Lib.Math.min.name Lib.Math.min.code 2 (some .int), Cond.methodLink RJ7 150 arraycopyName, Cond.native arraycopyName, Cond.static arraycopyName, Cond.initialized "java/lang/System"]
def wsJx4a65c_add_72be8 : List Cond := .code yJx4a65c_add_72be8 cJx4a65c_add_72be8 4 none :: ((wsJx4a65c_add_72be8_r1 ++ wsJx4a65c_add_72be8_r2) ++ wsJx4a65c0)
def wsJx4a65c_add_9ea2d_r1 : List Cond := [Cond.fieldLink RJx4a65c 63 "java/util/ArrayList" "modCount" "I", Cond.sameField "java/util/ArrayList" "java/util/AbstractList" "modCount" "I", Cond.fieldLink RJx4a65c 9 "java/util/ArrayList" "elementData" "[Ljava/lang/Object;", Cond.fieldLink RJx4a65c 48 "java/util/ArrayList" "size" "I", Cond.methodLink RJx4a65c 131 yJx4a65c_add_72be8, Cond.instanceMethod yJx4a65c_add_72be8, Cond.selects RJx4a65c yJx4a65c_add_72be8 yJx4a65c_add_72be8, Cond.initialized RJx4a65c, Cond.code yJx4a65c_add_72be8 cJx4a65c_add_72be8 4 none, Cond.methodLink RJx4a65c 129 yJx4a65c_grow_d5877, Cond.instanceMethod yJx4a65c_grow_d5877, Cond.selects RJx4a65c yJx4a65c_grow_d5877 yJx4a65c_grow_d5877, Cond.code yJx4a65c_grow_d5877 cJx4a65c_grow_d5877 1 (some (.array (.object "java/lang/Object"))), Cond.methodLink RJx4a65c 69 yJx4a65c_grow_92f84, Cond.instanceMethod yJx4a65c_grow_92f84, Cond.selects RJx4a65c yJx4a65c_grow_92f84 yJx4a65c_grow_92f84, Cond.code yJx4a65c_grow_92f84 cJx4a65c_grow_92f84 4 (some (.array (.object "java/lang/Object"))), Cond.fieldLink RJx4a65c 39 "java/util/ArrayList" "DEFAULTCAPACITY_EMPTY_ELEMENTDATA" "[Ljava/lang/Object;", Cond.methodLink RJx4a65c 79 Lib.Math.max.name, Cond.static Lib.Math.max.name, Cond.initialized "java/lang/Math", Cond.code Lib.Math.max.name Lib.Math.max.code 2 (some .int), Cond.classLink RJx4a65c 7 "java/lang/Object", Cond.methodLink RJx4a65c 73 yJ8_newLength_cabcc]
def wsJx4a65c_add_9ea2d_r2 : List Cond := [Cond.static yJ8_newLength_cabcc, Cond.initialized RJ8, Cond.code yJ8_newLength_cabcc cJ8_newLength_cabcc 4 (some .int), Cond.methodLink RJ8 194 Lib.Math.max.name, Cond.constant RJ8 200 (2147483639), Cond.methodLink RJ8 201 yJ8_hugeLength_7cf53, Cond.static yJ8_hugeLength_7cf53, Cond.code yJ8_hugeLength_7cf53 cJ8_hugeLength_7cf53 3 (some .int), Cond.methodLink RJx4a65c 66 yJ7_copyOf_1904c, Cond.static yJ7_copyOf_1904c, Cond.initialized RJ7, Cond.code yJ7_copyOf_1904c cJ7_copyOf_1904c 2 (some (.array (.object "java/lang/Object"))), Cond.methodLink RJ7 86 ⟨"java/lang/Object", "getClass", "()Ljava/lang/Class;"⟩, Cond.selects "[Ljava/lang/Object;" ⟨"java/lang/Object", "getClass", "()Ljava/lang/Class;"⟩ ⟨"java/lang/Object", "getClass", "()Ljava/lang/Class;"⟩, Cond.instanceMethod ⟨"java/lang/Object", "getClass", "()Ljava/lang/Class;"⟩, Cond.native ⟨"java/lang/Object", "getClass", "()Ljava/lang/Class;"⟩, Cond.methodLink RJ7 300 yJ7_copyOf_6403c, Cond.static yJ7_copyOf_6403c, Cond.code yJ7_copyOf_6403c cJ7_copyOf_6403c 4 (some (.array (.object "java/lang/Object"))), Cond.classLink RJ7 110 "[Ljava/lang/Object;", Cond.classLink RJ7 2 "java/lang/Object", Cond.methodLink RJ7 304 Lib.Math.min.name, Cond.static Lib.Math.min.name, Cond.code Lib.Math.min.name Lib.Math.min.code 2 (some .int)]
def wsJx4a65c_add_9ea2d_r3 : List Cond := [Cond.methodLink RJ7 150 arraycopyName, Cond.native arraycopyName, Cond.static arraycopyName, Cond.initialized "java/lang/System"]
def wsJx4a65c_add_9ea2d : List Cond := .code yJx4a65c_add_9ea2d cJx4a65c_add_9ea2d 2 (some .boolean) :: ((wsJx4a65c_add_9ea2d_r1 ++ (wsJx4a65c_add_9ea2d_r2 ++ wsJx4a65c_add_9ea2d_r3)) ++ wsJx4a65c0)
def wsX14_family_r1 : List Cond := [Cond.fieldLink RX14 35 "TransversaryModel" "thrown" "I", Cond.fieldLink RX14 20 "TransversaryModel" "families" "Ljava/util/ArrayList;", Cond.methodLink RX14 38 yJx4a65c_size_8abf5, Cond.instanceMethod yJx4a65c_size_8abf5, Cond.selects RJx4a65c yJx4a65c_size_8abf5 yJx4a65c_size_8abf5, Cond.initialized RJx4a65c, Cond.code yJx4a65c_size_8abf5 cJx4a65c_size_8abf5 1 (some .int), Cond.fieldLink RJx4a65c 48 "java/util/ArrayList" "size" "I", Cond.methodLink RX14 65 yX14_refuse, Cond.instanceMethod yX14_refuse, Cond.selects RX14 yX14_refuse yX14_refuse, Cond.initialized RX14, Cond.code yX14_refuse cX14_refuse 2 (some .int), Cond.methodLink RX14 78 yX14_empty, Cond.instanceMethod yX14_empty, Cond.selects RX14 yX14_empty yX14_empty, Cond.code yX14_empty cX14_empty 1 (some (.array .boolean)), Cond.arrayClass .boolean, Cond.methodLink RX14 46 yX14_all, Cond.instanceMethod yX14_all, Cond.selects RX14 yX14_all yX14_all, Cond.code yX14_all cX14_all 1 (some .int), Cond.fieldLink RX14 7 "TransversaryModel" "points" "I", Cond.methodLink RX14 82 yJx4a65c_add_9ea2d]
def wsX14_family_r2 : List Cond := [Cond.instanceMethod yJx4a65c_add_9ea2d, Cond.selects RJx4a65c yJx4a65c_add_9ea2d yJx4a65c_add_9ea2d, Cond.code yJx4a65c_add_9ea2d cJx4a65c_add_9ea2d 2 (some .boolean), Cond.fieldLink RJx4a65c 63 "java/util/ArrayList" "modCount" "I", Cond.sameField "java/util/ArrayList" "java/util/AbstractList" "modCount" "I", Cond.fieldLink RJx4a65c 9 "java/util/ArrayList" "elementData" "[Ljava/lang/Object;", Cond.methodLink RJx4a65c 131 yJx4a65c_add_72be8, Cond.instanceMethod yJx4a65c_add_72be8, Cond.selects RJx4a65c yJx4a65c_add_72be8 yJx4a65c_add_72be8, Cond.code yJx4a65c_add_72be8 cJx4a65c_add_72be8 4 none, Cond.methodLink RJx4a65c 129 yJx4a65c_grow_d5877, Cond.instanceMethod yJx4a65c_grow_d5877, Cond.selects RJx4a65c yJx4a65c_grow_d5877 yJx4a65c_grow_d5877, Cond.code yJx4a65c_grow_d5877 cJx4a65c_grow_d5877 1 (some (.array (.object "java/lang/Object"))), Cond.methodLink RJx4a65c 69 yJx4a65c_grow_92f84, Cond.instanceMethod yJx4a65c_grow_92f84, Cond.selects RJx4a65c yJx4a65c_grow_92f84 yJx4a65c_grow_92f84, Cond.code yJx4a65c_grow_92f84 cJx4a65c_grow_92f84 4 (some (.array (.object "java/lang/Object"))), Cond.fieldLink RJx4a65c 39 "java/util/ArrayList" "DEFAULTCAPACITY_EMPTY_ELEMENTDATA" "[Ljava/lang/Object;", Cond.methodLink RJx4a65c 79 Lib.Math.max.name, Cond.static Lib.Math.max.name, Cond.initialized "java/lang/Math", Cond.code Lib.Math.max.name Lib.Math.max.code 2 (some .int), Cond.classLink RJx4a65c 7 "java/lang/Object"]
def wsX14_family_r3 : List Cond := [Cond.methodLink RJx4a65c 73 yJ8_newLength_cabcc, Cond.static yJ8_newLength_cabcc, Cond.initialized RJ8, Cond.code yJ8_newLength_cabcc cJ8_newLength_cabcc 4 (some .int), Cond.methodLink RJ8 194 Lib.Math.max.name, Cond.constant RJ8 200 (2147483639), Cond.methodLink RJ8 201 yJ8_hugeLength_7cf53, Cond.static yJ8_hugeLength_7cf53, Cond.code yJ8_hugeLength_7cf53 cJ8_hugeLength_7cf53 3 (some .int), Cond.methodLink RJx4a65c 66 yJ7_copyOf_1904c, Cond.static yJ7_copyOf_1904c, Cond.initialized RJ7, Cond.code yJ7_copyOf_1904c cJ7_copyOf_1904c 2 (some (.array (.object "java/lang/Object"))), Cond.methodLink RJ7 86 ⟨"java/lang/Object", "getClass", "()Ljava/lang/Class;"⟩, Cond.selects "[Ljava/lang/Object;" ⟨"java/lang/Object", "getClass", "()Ljava/lang/Class;"⟩ ⟨"java/lang/Object", "getClass", "()Ljava/lang/Class;"⟩, Cond.instanceMethod ⟨"java/lang/Object", "getClass", "()Ljava/lang/Class;"⟩, Cond.native ⟨"java/lang/Object", "getClass", "()Ljava/lang/Class;"⟩, Cond.methodLink RJ7 300 yJ7_copyOf_6403c, Cond.static yJ7_copyOf_6403c, Cond.code yJ7_copyOf_6403c cJ7_copyOf_6403c 4 (some (.array (.object "java/lang/Object"))), Cond.classLink RJ7 110 "[Ljava/lang/Object;", Cond.classLink RJ7 2 "java/lang/Object", Cond.methodLink RJ7 304 Lib.Math.min.name, Cond.static Lib.Math.min.name]
def wsX14_family_r4 : List Cond := [Cond.code Lib.Math.min.name Lib.Math.min.code 2 (some .int), Cond.methodLink RJ7 150 arraycopyName, Cond.native arraycopyName, Cond.static arraycopyName, Cond.initialized "java/lang/System"]
def wsX14_family : List Cond := .code yX14_family cX14_family 1 (some .int) :: ((wsX14_family_r1 ++ (wsX14_family_r2 ++ (wsX14_family_r3 ++ wsX14_family_r4))) ++ wsX140 ++ wsJx4a65c0)
def wsJ15_checkIndex_7cf53 : List Cond := .code yJ15_checkIndex_7cf53 cJ15_checkIndex_7cf53 2 (some .int) :: ([.methodLink RJ15 105 yJ3_checkIndex_8e157, .static yJ3_checkIndex_8e157, .initialized RJ3, .code yJ3_checkIndex_8e157 cJ3_checkIndex_8e157 3 (some .int)])
def wsJx4a65c_elementData_915e3 : List Cond := .code yJx4a65c_elementData_915e3 cJx4a65c_elementData_915e3 2 (some (.object "java/lang/Object")) :: ([.fieldLink RJx4a65c 9 "java/util/ArrayList" "elementData" "[Ljava/lang/Object;"] ++ wsJx4a65c0)
def wsJx4a65c_get_915e3 : List Cond := .code yJx4a65c_get_915e3 cJx4a65c_get_915e3 2 (some (.object "java/lang/Object")) :: ([.fieldLink RJx4a65c 48 "java/util/ArrayList" "size" "I", .methodLink RJx4a65c 118 yJ15_checkIndex_7cf53, .static yJ15_checkIndex_7cf53, .initialized RJ15, .code yJ15_checkIndex_7cf53 cJ15_checkIndex_7cf53 2 (some .int), .methodLink RJ15 105 yJ3_checkIndex_8e157, .static yJ3_checkIndex_8e157, .initialized RJ3, .code yJ3_checkIndex_8e157 cJ3_checkIndex_8e157 3 (some .int), .methodLink RJx4a65c 123 yJx4a65c_elementData_915e3, .instanceMethod yJx4a65c_elementData_915e3, .selects RJx4a65c yJx4a65c_elementData_915e3 yJx4a65c_elementData_915e3, .initialized RJx4a65c, .code yJx4a65c_elementData_915e3 cJx4a65c_elementData_915e3 2 (some (.object "java/lang/Object")), .fieldLink RJx4a65c 9 "java/util/ArrayList" "elementData" "[Ljava/lang/Object;"] ++ wsJx4a65c0)
def wsX14_parts_r1 : List Cond := [Cond.fieldLink RX14 20 "TransversaryModel" "families" "Ljava/util/ArrayList;", Cond.classLink RX14 100 "[Z", Cond.fieldLink RX14 49 "TransversaryModel" "dead" "I", Cond.methodLink RX14 96 yJx4a65c_get_915e3, Cond.instanceMethod yJx4a65c_get_915e3, Cond.selects RJx4a65c yJx4a65c_get_915e3 yJx4a65c_get_915e3, Cond.initialized RJx4a65c, Cond.code yJx4a65c_get_915e3 cJx4a65c_get_915e3 2 (some (.object "java/lang/Object")), Cond.fieldLink RJx4a65c 48 "java/util/ArrayList" "size" "I", Cond.methodLink RJx4a65c 118 yJ15_checkIndex_7cf53, Cond.static yJ15_checkIndex_7cf53, Cond.initialized RJ15, Cond.code yJ15_checkIndex_7cf53 cJ15_checkIndex_7cf53 2 (some .int), Cond.methodLink RJ15 105 yJ3_checkIndex_8e157, Cond.static yJ3_checkIndex_8e157, Cond.initialized RJ3, Cond.code yJ3_checkIndex_8e157 cJ3_checkIndex_8e157 3 (some .int), Cond.methodLink RJx4a65c 123 yJx4a65c_elementData_915e3, Cond.instanceMethod yJx4a65c_elementData_915e3, Cond.selects RJx4a65c yJx4a65c_elementData_915e3 yJx4a65c_elementData_915e3, Cond.code yJx4a65c_elementData_915e3 cJx4a65c_elementData_915e3 2 (some (.object "java/lang/Object")), Cond.fieldLink RJx4a65c 9 "java/util/ArrayList" "elementData" "[Ljava/lang/Object;", Cond.methodLink RX14 78 yX14_empty, Cond.instanceMethod yX14_empty]
def wsX14_parts_r2 : List Cond := [Cond.selects RX14 yX14_empty yX14_empty, Cond.initialized RX14, Cond.code yX14_empty cX14_empty 1 (some (.array .boolean)), Cond.arrayClass .boolean, Cond.methodLink RX14 46 yX14_all, Cond.instanceMethod yX14_all, Cond.selects RX14 yX14_all yX14_all, Cond.code yX14_all cX14_all 1 (some .int), Cond.fieldLink RX14 7 "TransversaryModel" "points" "I"]
def wsX14_parts : List Cond := .code yX14_parts cX14_parts 5 (some (.array .boolean)) :: ((wsX14_parts_r1 ++ wsX14_parts_r2) ++ wsX140 ++ wsJx4a65c0)
def wsX14_game_r1 : List Cond := [Cond.fieldLink RX14 35 "TransversaryModel" "thrown" "I", Cond.arrayClass .byte, Cond.fieldLink RX14 7 "TransversaryModel" "points" "I", Cond.methodLink RX14 90 yX14_isFamily, Cond.instanceMethod yX14_isFamily, Cond.selects RX14 yX14_isFamily yX14_isFamily, Cond.initialized RX14, Cond.code yX14_isFamily cX14_isFamily 2 (some .boolean), Cond.fieldLink RX14 20 "TransversaryModel" "families" "Ljava/util/ArrayList;", Cond.methodLink RX14 38 yJx4a65c_size_8abf5, Cond.instanceMethod yJx4a65c_size_8abf5, Cond.selects RJx4a65c yJx4a65c_size_8abf5 yJx4a65c_size_8abf5, Cond.initialized RJx4a65c, Cond.code yJx4a65c_size_8abf5 cJx4a65c_size_8abf5 1 (some .int), Cond.fieldLink RJx4a65c 48 "java/util/ArrayList" "size" "I", Cond.methodLink RX14 42 yX14_is, Cond.static yX14_is, Cond.code yX14_is cX14_is 3 (some .boolean), Cond.methodLink RX14 65 yX14_refuse, Cond.instanceMethod yX14_refuse, Cond.selects RX14 yX14_refuse yX14_refuse, Cond.code yX14_refuse cX14_refuse 2 (some .int), Cond.methodLink RX14 105 yX14_parts, Cond.instanceMethod yX14_parts]
def wsX14_game_r2 : List Cond := [Cond.selects RX14 yX14_parts yX14_parts, Cond.code yX14_parts cX14_parts 5 (some (.array .boolean)), Cond.classLink RX14 100 "[Z", Cond.fieldLink RX14 49 "TransversaryModel" "dead" "I", Cond.methodLink RX14 96 yJx4a65c_get_915e3, Cond.instanceMethod yJx4a65c_get_915e3, Cond.selects RJx4a65c yJx4a65c_get_915e3 yJx4a65c_get_915e3, Cond.code yJx4a65c_get_915e3 cJx4a65c_get_915e3 2 (some (.object "java/lang/Object")), Cond.methodLink RJx4a65c 118 yJ15_checkIndex_7cf53, Cond.static yJ15_checkIndex_7cf53, Cond.initialized RJ15, Cond.code yJ15_checkIndex_7cf53 cJ15_checkIndex_7cf53 2 (some .int), Cond.methodLink RJ15 105 yJ3_checkIndex_8e157, Cond.static yJ3_checkIndex_8e157, Cond.initialized RJ3, Cond.code yJ3_checkIndex_8e157 cJ3_checkIndex_8e157 3 (some .int), Cond.methodLink RJx4a65c 123 yJx4a65c_elementData_915e3, Cond.instanceMethod yJx4a65c_elementData_915e3, Cond.selects RJx4a65c yJx4a65c_elementData_915e3 yJx4a65c_elementData_915e3, Cond.code yJx4a65c_elementData_915e3 cJx4a65c_elementData_915e3 2 (some (.object "java/lang/Object")), Cond.fieldLink RJx4a65c 9 "java/util/ArrayList" "elementData" "[Ljava/lang/Object;", Cond.methodLink RX14 78 yX14_empty, Cond.instanceMethod yX14_empty, Cond.selects RX14 yX14_empty yX14_empty]
def wsX14_game_r3 : List Cond := [Cond.code yX14_empty cX14_empty 1 (some (.array .boolean)), Cond.arrayClass .boolean, Cond.methodLink RX14 46 yX14_all, Cond.instanceMethod yX14_all, Cond.selects RX14 yX14_all yX14_all, Cond.code yX14_all cX14_all 1 (some .int), Cond.methodLink RX14 52 yX14_alive, Cond.instanceMethod yX14_alive, Cond.selects RX14 yX14_alive yX14_alive, Cond.code yX14_alive cX14_alive 1 (some .int), Cond.methodLink RX14 218 yX14_canWin, Cond.instanceMethod yX14_canWin, Cond.selects RX14 yX14_canWin yX14_canWin, Cond.code yX14_canWin cX14_canWin 10 (some .boolean), Cond.methodLink RX14 215 yX14_hasPart, Cond.instanceMethod yX14_hasPart, Cond.selects RX14 yX14_hasPart yX14_hasPart, Cond.code yX14_hasPart cX14_hasPart 4 (some .boolean), Cond.methodLink RX14 61 yX14_isIn, Cond.static yX14_isIn, Cond.code yX14_isIn cX14_isIn 2 (some .boolean)]
def wsX14_game : List Cond := .code yX14_game cX14_game 5 (some .int) :: ((wsX14_game_r1 ++ (wsX14_game_r2 ++ wsX14_game_r3)) ++ wsX140 ++ wsJx4a65c0)
def wsJ9_max_7cf53 : List Cond := .code yJ9_max_7cf53 cJ9_max_7cf53 2 (some .int) :: ([])
def wsL_ground_r1 : List Cond := [Cond.classLink RL 19 "java/lang/IllegalArgumentException", Cond.methodLink RL 7 yX11_ground, Cond.instanceMethod yX11_ground, Cond.selects RX11 yX11_ground yX11_ground, Cond.initialized RX11, Cond.code yX11_ground cX11_ground 2 (some .int), Cond.fieldLink RX11 12 "Transversary" "points" "LTransversary$Points;", Cond.fieldLink RX11 108 "Transversary" "familyCount" "I", Cond.methodLink RX11 104 yX11_checkRange, Cond.instanceMethod yX11_checkRange, Cond.selects RX11 yX11_checkRange yX11_checkRange, Cond.code yX11_checkRange cX11_checkRange 4 none, Cond.classLink RX11 213 "java/lang/IllegalArgumentException", Cond.initialized "java/lang/IllegalArgumentException", Cond.methodLink RX11 100 yX3_begin, Cond.instanceMethod yX3_begin, Cond.selects RX3 yX3_begin yX3_begin, Cond.initialized RX3, Cond.code yX3_begin cX3_begin 3 none, Cond.fieldLink RX3 15 "Transversary$Points" "many" "I", Cond.fieldLink RX3 23 "Transversary$Points" "alive" "I", Cond.fieldLink RX3 9 "Transversary$Points" "weights" "[I", Cond.methodLink RX3 19 yX3_howManySets, Cond.instanceMethod yX3_howManySets]
def wsL_ground_r2 : List Cond := [Cond.selects RX3 yX3_howManySets yX3_howManySets, Cond.code yX3_howManySets cX3_howManySets 1 (some .int), Cond.methodLink RX11 112 yX3_howManySets]
def wsL_ground : List Cond := .codeWith yL_ground cL_ground 4 (some .int) [(0, 10, 13, 19)] :: ((wsL_ground_r1 ++ wsL_ground_r2) ++ wsX120 ++ wsX110 ++ wsX30 ++ (vx_atS RX11 217 "java/lang/IllegalArgumentException" ["java/lang/RuntimeException", "java/lang/Exception"]).filter goodWord)
def wsL_die_r1 : List Cond := [Cond.classLink RL 25 "java/lang/IndexOutOfBoundsException", Cond.methodLink RL 27 yX11_die, Cond.instanceMethod yX11_die, Cond.selects RX11 yX11_die yX11_die, Cond.initialized RX11, Cond.code yX11_die cX11_die 3 (some .int), Cond.fieldLink RX11 12 "Transversary" "points" "LTransversary$Points;", Cond.methodLink RX11 116 yX11_checkPoint, Cond.instanceMethod yX11_checkPoint, Cond.selects RX11 yX11_checkPoint yX11_checkPoint, Cond.code yX11_checkPoint cX11_checkPoint 2 none, Cond.classLink RX11 386 "java/lang/IndexOutOfBoundsException", Cond.initialized "java/lang/IndexOutOfBoundsException", Cond.methodLink RX11 394 yX3_knows, Cond.instanceMethod yX3_knows, Cond.selects RX3 yX3_knows yX3_knows, Cond.initialized RX3, Cond.code yX3_knows cX3_knows 2 (some .boolean), Cond.fieldLink RX3 15 "Transversary$Points" "many" "I", Cond.fieldLink RX3 9 "Transversary$Points" "weights" "[I", Cond.methodLink RX11 127 yX3_tellDeath, Cond.instanceMethod yX3_tellDeath, Cond.selects RX3 yX3_tellDeath yX3_tellDeath, Cond.code yX3_tellDeath cX3_tellDeath 3 none]
def wsL_die_r2 : List Cond := [Cond.fieldLink RX3 23 "Transversary$Points" "alive" "I", Cond.methodLink RX3 30 yX3_knows, Cond.methodLink RX11 131 yX3_howManyAlive, Cond.instanceMethod yX3_howManyAlive, Cond.selects RX3 yX3_howManyAlive yX3_howManyAlive, Cond.code yX3_howManyAlive cX3_howManyAlive 1 (some .int), Cond.static yX11_sizeOf, Cond.code yX11_sizeOf cX11_sizeOf 1 (some .int), Cond.methodLink RX11 487 yJ6_bitCount_0f7a4, Cond.static yJ6_bitCount_0f7a4, Cond.initialized RJ6, Cond.code yJ6_bitCount_0f7a4 cJ6_bitCount_0f7a4 1 (some .int), Cond.constant RJ6 265 (1431655765), Cond.constant RJ6 266 (858993459), Cond.constant RJ6 267 (252645135)]
def wsL_die : List Cond := .codeWith yL_die cL_die 5 (some .int) [(0, 11, 14, 25)] :: ((wsL_die_r1 ++ wsL_die_r2) ++ wsX120 ++ wsX110 ++ wsX30 ++ (vx_atS RX11 390 "java/lang/IndexOutOfBoundsException" ["java/lang/RuntimeException", "java/lang/Exception"]).filter goodWord)
def wsL_family_r1 : List Cond := [Cond.classLink RL 35 "java/lang/IllegalStateException", Cond.methodLink RL 31 yX11_family, Cond.instanceMethod yX11_family, Cond.selects RX11 yX11_family yX11_family, Cond.initialized RX11, Cond.code yX11_family cX11_family 1 (some .int), Cond.fieldLink RX11 30 "Transversary" "made" "LTransversary$Sets;", Cond.methodLink RX11 134 yX11_checkRoom, Cond.instanceMethod yX11_checkRoom, Cond.selects RX11 yX11_checkRoom yX11_checkRoom, Cond.code yX11_checkRoom cX11_checkRoom 1 none, Cond.classLink RX11 158 "java/lang/IllegalStateException", Cond.initialized "java/lang/IllegalStateException", Cond.fieldLink RX11 108 "Transversary" "familyCount" "I", Cond.methodLink RX11 137 yX7_clear, Cond.instanceMethod yX7_clear, Cond.selects RX7 yX7_clear yX7_clear, Cond.initialized RX7, Cond.code yX7_clear cX7_clear 2 none, Cond.fieldLink RX7 9 "Transversary$Sets" "isHeld" "[Z", Cond.fieldLink RX7 19 "Transversary$Sets" "many" "I", Cond.methodLink RX11 140 yX11_keep, Cond.instanceMethod yX11_keep, Cond.selects RX11 yX11_keep yX11_keep]
def wsL_family_r2 : List Cond := [Cond.code yX11_keep cX11_keep 2 (some .int), Cond.fieldLink RX11 18 "Transversary" "families" "[LTransversary$Sets;", Cond.methodLink RX11 155 yX7_many, Cond.instanceMethod yX7_many, Cond.selects RX7 yX7_many yX7_many, Cond.code yX7_many cX7_many 1 (some .int), Cond.methodLink RX11 403 yX7_copy, Cond.instanceMethod yX7_copy, Cond.selects RX7 yX7_copy yX7_copy, Cond.code yX7_copy cX7_copy 3 none, Cond.methodLink RX7 23 yX7_clear, Cond.methodLink RX7 26 yX7_many, Cond.methodLink RX7 29 yX7_at, Cond.instanceMethod yX7_at, Cond.selects RX7 yX7_at yX7_at, Cond.code yX7_at cX7_at 2 (some .int), Cond.fieldLink RX7 15 "Transversary$Sets" "row" "[I", Cond.methodLink RX7 33 yX7_put, Cond.instanceMethod yX7_put, Cond.selects RX7 yX7_put yX7_put, Cond.code yX7_put cX7_put 3 none]
def wsL_family : List Cond := .codeWith yL_family cL_family 3 (some .int) [(0, 9, 12, 35)] :: ((wsL_family_r1 ++ wsL_family_r2) ++ wsX120 ++ wsX110 ++ wsX70 ++ (vx_atS RX11 162 "java/lang/IllegalStateException" ["java/lang/RuntimeException", "java/lang/Exception"]).filter goodWord)
def wsL_game_r1 : List Cond := [Cond.classLink RL 25 "java/lang/IndexOutOfBoundsException", Cond.methodLink RL 93 yX11_game, Cond.instanceMethod yX11_game, Cond.selects RX11 yX11_game yX11_game, Cond.initialized RX11, Cond.code yX11_game cX11_game 2 (some .int), Cond.fieldLink RX11 52 "Transversary" "rings" "LTransversary$Rings;", Cond.fieldLink RX11 12 "Transversary" "points" "LTransversary$Points;", Cond.methodLink RX11 168 yX11_partsOf, Cond.instanceMethod yX11_partsOf, Cond.selects RX11 yX11_partsOf yX11_partsOf, Cond.code yX11_partsOf cX11_partsOf 2 (some (.object "Transversary$Sets")), Cond.fieldLink RX11 68 "Transversary" "makers" "LTransversary$Makers;", Cond.fieldLink RX11 23 "Transversary" "parts" "LTransversary$Sets;", Cond.methodLink RX11 144 yX11_familyOf, Cond.instanceMethod yX11_familyOf, Cond.selects RX11 yX11_familyOf yX11_familyOf, Cond.code yX11_familyOf cX11_familyOf 2 (some (.object "Transversary$Sets")), Cond.classLink RX11 386 "java/lang/IndexOutOfBoundsException", Cond.initialized "java/lang/IndexOutOfBoundsException", Cond.fieldLink RX11 108 "Transversary" "familyCount" "I", Cond.fieldLink RX11 18 "Transversary" "families" "[LTransversary$Sets;", Cond.methodLink RX11 171 yX3_alive, Cond.instanceMethod yX3_alive]
def wsL_game_r2 : List Cond := [Cond.selects RX3 yX3_alive yX3_alive, Cond.initialized RX3, Cond.code yX3_alive cX3_alive 1 (some .int), Cond.fieldLink RX3 23 "Transversary$Points" "alive" "I", Cond.methodLink RX11 391 yX1_partsInto, Cond.instanceMethod yX1_partsInto, Cond.selects RX1 yX1_partsInto yX1_partsInto, Cond.initialized RX1, Cond.code yX1_partsInto cX1_partsInto 5 none, Cond.methodLink RX1 22 yX7_clear, Cond.instanceMethod yX7_clear, Cond.selects RX7 yX7_clear yX7_clear, Cond.initialized RX7, Cond.code yX7_clear cX7_clear 2 none, Cond.fieldLink RX7 9 "Transversary$Sets" "isHeld" "[Z", Cond.fieldLink RX7 19 "Transversary$Sets" "many" "I", Cond.methodLink RX1 25 yX7_many, Cond.instanceMethod yX7_many, Cond.selects RX7 yX7_many yX7_many, Cond.code yX7_many cX7_many 1 (some .int), Cond.methodLink RX1 29 yX7_at, Cond.instanceMethod yX7_at, Cond.selects RX7 yX7_at yX7_at, Cond.code yX7_at cX7_at 2 (some .int)]
def wsL_game_r3 : List Cond := [Cond.fieldLink RX7 15 "Transversary$Sets" "row" "[I", Cond.methodLink RX1 33 yX7_put, Cond.instanceMethod yX7_put, Cond.selects RX7 yX7_put yX7_put, Cond.code yX7_put cX7_put 3 none, Cond.methodLink RX11 265 yX5_winningPoint, Cond.instanceMethod yX5_winningPoint, Cond.selects RX5 yX5_winningPoint yX5_winningPoint, Cond.initialized RX5, Cond.code yX5_winningPoint cX5_winningPoint 4 (some .int), Cond.methodLink RX5 85 yX5_playBackwards, Cond.instanceMethod yX5_playBackwards, Cond.selects RX5 yX5_playBackwards yX5_playBackwards, Cond.code yX5_playBackwards cX5_playBackwards 6 none, Cond.fieldLink RX5 21 "Transversary$Rings" "wins" "[J", Cond.static yX11_isIn, Cond.code yX11_isIn cX11_isIn 2 (some .boolean), Cond.methodLink RX5 91 yX7_hasWithin, Cond.instanceMethod yX7_hasWithin, Cond.selects RX7 yX7_hasWithin yX7_hasWithin, Cond.code yX7_hasWithin cX7_hasWithin 4 (some .boolean), Cond.methodLink RX7 29 yX7_at, Cond.static yX11_sizeOf, Cond.code yX11_sizeOf cX11_sizeOf 1 (some .int)]
def wsL_game_r4 : List Cond := [Cond.methodLink RX11 487 yJ6_bitCount_0f7a4, Cond.static yJ6_bitCount_0f7a4, Cond.initialized RJ6, Cond.code yJ6_bitCount_0f7a4 cJ6_bitCount_0f7a4 1 (some .int), Cond.constant RJ6 265 (1431655765), Cond.constant RJ6 266 (858993459), Cond.constant RJ6 267 (252645135), Cond.methodLink RX5 94 yX5_canWin, Cond.instanceMethod yX5_canWin, Cond.selects RX5 yX5_canWin yX5_canWin, Cond.code yX5_canWin cX5_canWin 10 (some .boolean), Cond.methodLink RX5 88 yX5_isWin, Cond.instanceMethod yX5_isWin, Cond.selects RX5 yX5_isWin yX5_isWin, Cond.code yX5_isWin cX5_isWin 3 (some .boolean), Cond.methodLink RX5 98 yX5_placeOf, Cond.static yX5_placeOf, Cond.code yX5_placeOf cX5_placeOf 2 (some .int)]
def wsL_game : List Cond := .codeWith yL_game cL_game 4 (some .int) [(0, 10, 13, 25)] :: ((wsL_game_r1 ++ (wsL_game_r2 ++ (wsL_game_r3 ++ wsL_game_r4))) ++ wsX120 ++ wsX110 ++ wsX30 ++ wsX70 ++ wsX50 ++ (vx_atS RX11 390 "java/lang/IndexOutOfBoundsException" ["java/lang/RuntimeException", "java/lang/Exception"]).filter goodWord)
theorem dX0_init_0 : decode cX0_init 0 = .ok (.aload_n 0, 1) := by decide +kernel
theorem dX0_init_1 : decode cX0_init 1 = .ok (.invokespecial 3, 3) := by decide +kernel
theorem dX0_init_4 : decode cX0_init 4 = .ok (.aload_n 0, 1) := by decide +kernel
theorem dX0_init_5 : decode cX0_init 5 = .ok (.new 9, 3) := by decide +kernel
theorem dX0_init_8 : decode cX0_init 8 = .ok (.dup, 1) := by decide +kernel
theorem dX0_init_9 : decode cX0_init 9 = .ok (.invokespecial 11, 3) := by decide +kernel
theorem dX0_init_12 : decode cX0_init 12 = .ok (.putfield 12, 3) := by decide +kernel
theorem dX0_init_15 : decode cX0_init 15 = .ok (.aload_n 0, 1) := by decide +kernel
theorem dX0_init_16 : decode cX0_init 16 = .ok (.new 9, 3) := by decide +kernel
theorem dX0_init_19 : decode cX0_init 19 = .ok (.dup, 1) := by decide +kernel
theorem dX0_init_20 : decode cX0_init 20 = .ok (.invokespecial 11, 3) := by decide +kernel
theorem dX0_init_23 : decode cX0_init 23 = .ok (.putfield 18, 3) := by decide +kernel
theorem dX0_init_26 : decode cX0_init 26 = .ok (.aload_n 0, 1) := by decide +kernel
theorem dX0_init_27 : decode cX0_init 27 = .ok (.new 9, 3) := by decide +kernel
theorem dX0_init_30 : decode cX0_init 30 = .ok (.dup, 1) := by decide +kernel
theorem dX0_init_31 : decode cX0_init 31 = .ok (.invokespecial 11, 3) := by decide +kernel
theorem dX0_init_34 : decode cX0_init 34 = .ok (.putfield 21, 3) := by decide +kernel
theorem dX0_init_37 : decode cX0_init 37 = .ok (.aload_n 0, 1) := by decide +kernel
theorem dX0_init_38 : decode cX0_init 38 = .ok (.sipush 128, 3) := by decide +kernel
theorem dX0_init_41 : decode cX0_init 41 = .ok (.newarray .boolean, 2) := by decide +kernel
theorem dX0_init_43 : decode cX0_init 43 = .ok (.putfield 24, 3) := by decide +kernel
theorem dX0_init_46 : decode cX0_init 46 = .ok (.aload_n 0, 1) := by decide +kernel
theorem dX0_init_47 : decode cX0_init 47 = .ok (.sipush 128, 3) := by decide +kernel
theorem dX0_init_50 : decode cX0_init 50 = .ok (.newarray .int, 2) := by decide +kernel
theorem dX0_init_52 : decode cX0_init 52 = .ok (.putfield 28, 3) := by decide +kernel
theorem dX0_init_55 : decode cX0_init 55 = .ok (.return_, 1) := by decide +kernel
theorem dX1_init_0 : decode cX1_init 0 = .ok (.aload_n 0, 1) := by decide +kernel
theorem dX1_init_1 : decode cX1_init 1 = .ok (.invokespecial 3, 3) := by decide +kernel
theorem dX1_init_4 : decode cX1_init 4 = .ok (.aload_n 0, 1) := by decide +kernel
theorem dX1_init_5 : decode cX1_init 5 = .ok (.new 9, 3) := by decide +kernel
theorem dX1_init_8 : decode cX1_init 8 = .ok (.dup, 1) := by decide +kernel
theorem dX1_init_9 : decode cX1_init 9 = .ok (.invokespecial 11, 3) := by decide +kernel
theorem dX1_init_12 : decode cX1_init 12 = .ok (.putfield 12, 3) := by decide +kernel
theorem dX1_init_15 : decode cX1_init 15 = .ok (.aload_n 0, 1) := by decide +kernel
theorem dX1_init_16 : decode cX1_init 16 = .ok (.aload_n 1, 1) := by decide +kernel
theorem dX1_init_17 : decode cX1_init 17 = .ok (.putfield 18, 3) := by decide +kernel
theorem dX1_init_20 : decode cX1_init 20 = .ok (.return_, 1) := by decide +kernel
set_option maxRecDepth 20000 in
theorem ggX1_partsInto_X7_clear : GoodIn wsX1_partsInto wsX7_clear := goodIn_r _ [5, 6, 7, 21, 22, 23] (by decide +kernel) (by decide +kernel)
set_option maxRecDepth 20000 in
theorem gX1_partsInto_X7_clear : GoodIn wsX1_partsInto (wsV RX1 22 RX7 yX7_clear wsX7_clear) := goodIn_app (goodIn_of _ (by decide +kernel)) ggX1_partsInto_X7_clear
set_option maxRecDepth 20000 in
theorem ggX1_partsInto_X7_many : GoodIn wsX1_partsInto wsX7_many := goodIn_r _ [11, 7, 21, 22, 23] (by decide +kernel) (by decide +kernel)
set_option maxRecDepth 20000 in
theorem gX1_partsInto_X7_many : GoodIn wsX1_partsInto (wsV RX1 25 RX7 yX7_many wsX7_many) := goodIn_app (goodIn_of _ (by decide +kernel)) ggX1_partsInto_X7_many
theorem dX1_partsInto_0 : decode cX1_partsInto 0 = .ok (.aload_n 1, 1) := by decide +kernel
theorem dX1_partsInto_1 : decode cX1_partsInto 1 = .ok (.invokevirtual 22, 3) := by decide +kernel
theorem dX1_partsInto_4 : decode cX1_partsInto 4 = .ok (.iconst 0, 1) := by decide +kernel
theorem dX1_partsInto_5 : decode cX1_partsInto 5 = .ok (.istore 4, 2) := by decide +kernel
theorem dX1_partsInto_7 : decode cX1_partsInto 7 = .ok (.iload 4, 2) := by decide +kernel
theorem dX1_partsInto_9 : decode cX1_partsInto 9 = .ok (.aload_n 2, 1) := by decide +kernel
theorem dX1_partsInto_10 : decode cX1_partsInto 10 = .ok (.invokevirtual 25, 3) := by decide +kernel
theorem dX1_partsInto_13 : decode cX1_partsInto 13 = .ok (.if_icmp .ge 21, 3) := by decide +kernel
theorem dX1_partsInto_16 : decode cX1_partsInto 16 = .ok (.aload_n 1, 1) := by decide +kernel
theorem dX1_partsInto_17 : decode cX1_partsInto 17 = .ok (.aload_n 2, 1) := by decide +kernel
theorem dX1_partsInto_18 : decode cX1_partsInto 18 = .ok (.iload 4, 2) := by decide +kernel
theorem dX1_partsInto_20 : decode cX1_partsInto 20 = .ok (.invokevirtual 29, 3) := by decide +kernel
theorem dX1_partsInto_23 : decode cX1_partsInto 23 = .ok (.iload_n 3, 1) := by decide +kernel
theorem dX1_partsInto_24 : decode cX1_partsInto 24 = .ok (.iand, 1) := by decide +kernel
theorem dX1_partsInto_25 : decode cX1_partsInto 25 = .ok (.invokevirtual 33, 3) := by decide +kernel
theorem dX1_partsInto_28 : decode cX1_partsInto 28 = .ok (.iinc 4 1, 3) := by decide +kernel
theorem dX1_partsInto_31 : decode cX1_partsInto 31 = .ok (.goto (-24), 3) := by decide +kernel
theorem dX1_partsInto_34 : decode cX1_partsInto 34 = .ok (.return_, 1) := by decide +kernel
theorem dX2_init_0 : decode cX2_init 0 = .ok (.aload_n 0, 1) := by decide +kernel
theorem dX2_init_1 : decode cX2_init 1 = .ok (.invokespecial 3, 3) := by decide +kernel
theorem dX2_init_4 : decode cX2_init 4 = .ok (.aload_n 0, 1) := by decide +kernel
theorem dX2_init_5 : decode cX2_init 5 = .ok (.bipush 40, 2) := by decide +kernel
theorem dX2_init_7 : decode cX2_init 7 = .ok (.newarray .int, 2) := by decide +kernel
theorem dX2_init_9 : decode cX2_init 9 = .ok (.putfield 9, 3) := by decide +kernel
theorem dX2_init_12 : decode cX2_init 12 = .ok (.aload_n 0, 1) := by decide +kernel
theorem dX2_init_13 : decode cX2_init 13 = .ok (.bipush 40, 2) := by decide +kernel
theorem dX2_init_15 : decode cX2_init 15 = .ok (.newarray .int, 2) := by decide +kernel
theorem dX2_init_17 : decode cX2_init 17 = .ok (.putfield 15, 3) := by decide +kernel
theorem dX2_init_20 : decode cX2_init 20 = .ok (.aload_n 0, 1) := by decide +kernel
theorem dX2_init_21 : decode cX2_init 21 = .ok (.bipush 40, 2) := by decide +kernel
theorem dX2_init_23 : decode cX2_init 23 = .ok (.newarray .int, 2) := by decide +kernel
theorem dX2_init_25 : decode cX2_init 25 = .ok (.putfield 18, 3) := by decide +kernel
theorem dX2_init_28 : decode cX2_init 28 = .ok (.aload_n 0, 1) := by decide +kernel
theorem dX2_init_29 : decode cX2_init 29 = .ok (.bipush 40, 2) := by decide +kernel
theorem dX2_init_31 : decode cX2_init 31 = .ok (.newarray .int, 2) := by decide +kernel
theorem dX2_init_33 : decode cX2_init 33 = .ok (.putfield 21, 3) := by decide +kernel
theorem dX2_init_36 : decode cX2_init 36 = .ok (.aload_n 0, 1) := by decide +kernel
theorem dX2_init_37 : decode cX2_init 37 = .ok (.bipush 40, 2) := by decide +kernel
theorem dX2_init_39 : decode cX2_init 39 = .ok (.newarray .int, 2) := by decide +kernel
theorem dX2_init_41 : decode cX2_init 41 = .ok (.putfield 24, 3) := by decide +kernel
theorem dX2_init_44 : decode cX2_init 44 = .ok (.return_, 1) := by decide +kernel
theorem dX3_init_0 : decode cX3_init 0 = .ok (.aload_n 0, 1) := by decide +kernel
theorem dX3_init_1 : decode cX3_init 1 = .ok (.invokespecial 3, 3) := by decide +kernel
theorem dX3_init_4 : decode cX3_init 4 = .ok (.aload_n 0, 1) := by decide +kernel
theorem dX3_init_5 : decode cX3_init 5 = .ok (.bipush 7, 2) := by decide +kernel
theorem dX3_init_7 : decode cX3_init 7 = .ok (.newarray .int, 2) := by decide +kernel
theorem dX3_init_9 : decode cX3_init 9 = .ok (.putfield 9, 3) := by decide +kernel
theorem dX3_init_12 : decode cX3_init 12 = .ok (.return_, 1) := by decide +kernel
set_option maxRecDepth 20000 in
theorem ggX3_begin_X3_howManySets : GoodIn wsX3_begin wsX3_howManySets := goodIn_r _ [8, 1, 9, 10, 11] (by decide +kernel) (by decide +kernel)
set_option maxRecDepth 20000 in
theorem gX3_begin_X3_howManySets : GoodIn wsX3_begin (wsV RX3 19 RX3 yX3_howManySets wsX3_howManySets) := goodIn_app (goodIn_of _ (by decide +kernel)) ggX3_begin_X3_howManySets
theorem dX3_begin_0 : decode cX3_begin 0 = .ok (.aload_n 0, 1) := by decide +kernel
theorem dX3_begin_1 : decode cX3_begin 1 = .ok (.iload_n 1, 1) := by decide +kernel
theorem dX3_begin_2 : decode cX3_begin 2 = .ok (.putfield 15, 3) := by decide +kernel
theorem dX3_begin_5 : decode cX3_begin 5 = .ok (.aload_n 0, 1) := by decide +kernel
theorem dX3_begin_6 : decode cX3_begin 6 = .ok (.aload_n 0, 1) := by decide +kernel
theorem dX3_begin_7 : decode cX3_begin 7 = .ok (.invokevirtual 19, 3) := by decide +kernel
theorem dX3_begin_10 : decode cX3_begin 10 = .ok (.iconst 1, 1) := by decide +kernel
theorem dX3_begin_11 : decode cX3_begin 11 = .ok (.isub, 1) := by decide +kernel
theorem dX3_begin_12 : decode cX3_begin 12 = .ok (.putfield 23, 3) := by decide +kernel
theorem dX3_begin_15 : decode cX3_begin 15 = .ok (.iconst 0, 1) := by decide +kernel
theorem dX3_begin_16 : decode cX3_begin 16 = .ok (.istore_n 2, 1) := by decide +kernel
theorem dX3_begin_17 : decode cX3_begin 17 = .ok (.iload_n 2, 1) := by decide +kernel
theorem dX3_begin_18 : decode cX3_begin 18 = .ok (.aload_n 0, 1) := by decide +kernel
theorem dX3_begin_19 : decode cX3_begin 19 = .ok (.getfield 9, 3) := by decide +kernel
theorem dX3_begin_22 : decode cX3_begin 22 = .ok (.arraylength, 1) := by decide +kernel
theorem dX3_begin_23 : decode cX3_begin 23 = .ok (.if_icmp .ge 16, 3) := by decide +kernel
theorem dX3_begin_26 : decode cX3_begin 26 = .ok (.aload_n 0, 1) := by decide +kernel
theorem dX3_begin_27 : decode cX3_begin 27 = .ok (.getfield 9, 3) := by decide +kernel
theorem dX3_begin_30 : decode cX3_begin 30 = .ok (.iload_n 2, 1) := by decide +kernel
theorem dX3_begin_31 : decode cX3_begin 31 = .ok (.iconst 1, 1) := by decide +kernel
theorem dX3_begin_32 : decode cX3_begin 32 = .ok (.iastore, 1) := by decide +kernel
theorem dX3_begin_33 : decode cX3_begin 33 = .ok (.iinc 2 1, 3) := by decide +kernel
theorem dX3_begin_36 : decode cX3_begin 36 = .ok (.goto (-19), 3) := by decide +kernel
theorem dX3_begin_39 : decode cX3_begin 39 = .ok (.return_, 1) := by decide +kernel
theorem dX3_alive_0 : decode cX3_alive 0 = .ok (.aload_n 0, 1) := by decide +kernel
theorem dX3_alive_1 : decode cX3_alive 1 = .ok (.getfield 23, 3) := by decide +kernel
theorem dX3_alive_4 : decode cX3_alive 4 = .ok (.ireturn, 1) := by decide +kernel
theorem dX3_howManySets_0 : decode cX3_howManySets 0 = .ok (.iconst 1, 1) := by decide +kernel
theorem dX3_howManySets_1 : decode cX3_howManySets 1 = .ok (.aload_n 0, 1) := by decide +kernel
theorem dX3_howManySets_2 : decode cX3_howManySets 2 = .ok (.getfield 15, 3) := by decide +kernel
theorem dX3_howManySets_5 : decode cX3_howManySets 5 = .ok (.ishl, 1) := by decide +kernel
theorem dX3_howManySets_6 : decode cX3_howManySets 6 = .ok (.ireturn, 1) := by decide +kernel
theorem dX3_howManyAlive_0 : decode cX3_howManyAlive 0 = .ok (.aload_n 0, 1) := by decide +kernel
theorem dX3_howManyAlive_1 : decode cX3_howManyAlive 1 = .ok (.getfield 23, 3) := by decide +kernel
theorem dX3_howManyAlive_4 : decode cX3_howManyAlive 4 = .ok (.invokestatic 26, 3) := by decide +kernel
theorem dX3_howManyAlive_7 : decode cX3_howManyAlive 7 = .ok (.ireturn, 1) := by decide +kernel
theorem dX3_knows_0 : decode cX3_knows 0 = .ok (.iload_n 1, 1) := by decide +kernel
theorem dX3_knows_1 : decode cX3_knows 1 = .ok (.ifCond .lt 24, 3) := by decide +kernel
theorem dX3_knows_4 : decode cX3_knows 4 = .ok (.iload_n 1, 1) := by decide +kernel
theorem dX3_knows_5 : decode cX3_knows 5 = .ok (.aload_n 0, 1) := by decide +kernel
theorem dX3_knows_6 : decode cX3_knows 6 = .ok (.getfield 15, 3) := by decide +kernel
theorem dX3_knows_9 : decode cX3_knows 9 = .ok (.if_icmp .ge 16, 3) := by decide +kernel
theorem dX3_knows_12 : decode cX3_knows 12 = .ok (.iload_n 1, 1) := by decide +kernel
theorem dX3_knows_13 : decode cX3_knows 13 = .ok (.aload_n 0, 1) := by decide +kernel
theorem dX3_knows_14 : decode cX3_knows 14 = .ok (.getfield 9, 3) := by decide +kernel
theorem dX3_knows_17 : decode cX3_knows 17 = .ok (.arraylength, 1) := by decide +kernel
theorem dX3_knows_18 : decode cX3_knows 18 = .ok (.if_icmp .ge 7, 3) := by decide +kernel
theorem dX3_knows_21 : decode cX3_knows 21 = .ok (.iconst 1, 1) := by decide +kernel
theorem dX3_knows_22 : decode cX3_knows 22 = .ok (.goto 4, 3) := by decide +kernel
theorem dX3_knows_25 : decode cX3_knows 25 = .ok (.iconst 0, 1) := by decide +kernel
theorem dX3_knows_26 : decode cX3_knows 26 = .ok (.ireturn, 1) := by decide +kernel
set_option maxRecDepth 20000 in
theorem ggX3_tellDeath_X3_knows : GoodIn wsX3_tellDeath wsX3_knows := goodIn_r _ [6, 7, 8, 9, 10, 11] (by decide +kernel) (by decide +kernel)
set_option maxRecDepth 20000 in
theorem gX3_tellDeath_X3_knows : GoodIn wsX3_tellDeath (wsV RX3 30 RX3 yX3_knows wsX3_knows) := goodIn_app (goodIn_of _ (by decide +kernel)) ggX3_tellDeath_X3_knows
theorem dX3_tellDeath_0 : decode cX3_tellDeath 0 = .ok (.aload_n 0, 1) := by decide +kernel
theorem dX3_tellDeath_1 : decode cX3_tellDeath 1 = .ok (.iload_n 1, 1) := by decide +kernel
theorem dX3_tellDeath_2 : decode cX3_tellDeath 2 = .ok (.invokevirtual 30, 3) := by decide +kernel
theorem dX3_tellDeath_5 : decode cX3_tellDeath 5 = .ok (.ifCond .eq 32, 3) := by decide +kernel
theorem dX3_tellDeath_8 : decode cX3_tellDeath 8 = .ok (.aload_n 0, 1) := by decide +kernel
theorem dX3_tellDeath_9 : decode cX3_tellDeath 9 = .ok (.iload_n 2, 1) := by decide +kernel
theorem dX3_tellDeath_10 : decode cX3_tellDeath 10 = .ok (.ifCond .eq 16, 3) := by decide +kernel
theorem dX3_tellDeath_13 : decode cX3_tellDeath 13 = .ok (.aload_n 0, 1) := by decide +kernel
theorem dX3_tellDeath_14 : decode cX3_tellDeath 14 = .ok (.getfield 23, 3) := by decide +kernel
theorem dX3_tellDeath_17 : decode cX3_tellDeath 17 = .ok (.iconst 1, 1) := by decide +kernel
theorem dX3_tellDeath_18 : decode cX3_tellDeath 18 = .ok (.iload_n 1, 1) := by decide +kernel
theorem dX3_tellDeath_19 : decode cX3_tellDeath 19 = .ok (.ishl, 1) := by decide +kernel
theorem dX3_tellDeath_20 : decode cX3_tellDeath 20 = .ok (.iconst (-1), 1) := by decide +kernel
theorem dX3_tellDeath_21 : decode cX3_tellDeath 21 = .ok (.ixor, 1) := by decide +kernel
theorem dX3_tellDeath_22 : decode cX3_tellDeath 22 = .ok (.iand, 1) := by decide +kernel
theorem dX3_tellDeath_23 : decode cX3_tellDeath 23 = .ok (.goto 11, 3) := by decide +kernel
theorem dX3_tellDeath_26 : decode cX3_tellDeath 26 = .ok (.aload_n 0, 1) := by decide +kernel
theorem dX3_tellDeath_27 : decode cX3_tellDeath 27 = .ok (.getfield 23, 3) := by decide +kernel
theorem dX3_tellDeath_30 : decode cX3_tellDeath 30 = .ok (.iconst 1, 1) := by decide +kernel
theorem dX3_tellDeath_31 : decode cX3_tellDeath 31 = .ok (.iload_n 1, 1) := by decide +kernel
theorem dX3_tellDeath_32 : decode cX3_tellDeath 32 = .ok (.ishl, 1) := by decide +kernel
theorem dX3_tellDeath_33 : decode cX3_tellDeath 33 = .ok (.ior, 1) := by decide +kernel
theorem dX3_tellDeath_34 : decode cX3_tellDeath 34 = .ok (.putfield 23, 3) := by decide +kernel
theorem dX3_tellDeath_37 : decode cX3_tellDeath 37 = .ok (.return_, 1) := by decide +kernel
theorem dX4_init_0 : decode cX4_init 0 = .ok (.aload_n 0, 1) := by decide +kernel
theorem dX4_init_1 : decode cX4_init 1 = .ok (.invokespecial 3, 3) := by decide +kernel
theorem dX4_init_4 : decode cX4_init 4 = .ok (.aload_n 0, 1) := by decide +kernel
theorem dX4_init_5 : decode cX4_init 5 = .ok (.bipush 8, 2) := by decide +kernel
theorem dX4_init_7 : decode cX4_init 7 = .ok (.bipush 48, 2) := by decide +kernel
theorem dX4_init_9 : decode cX4_init 9 = .ok (.multianewarray 9 2, 4) := by decide +kernel
theorem dX4_init_13 : decode cX4_init 13 = .ok (.putfield 11, 3) := by decide +kernel
theorem dX4_init_16 : decode cX4_init 16 = .ok (.aload_n 0, 1) := by decide +kernel
theorem dX4_init_17 : decode cX4_init 17 = .ok (.bipush 7, 2) := by decide +kernel
theorem dX4_init_19 : decode cX4_init 19 = .ok (.newarray .int, 2) := by decide +kernel
theorem dX4_init_21 : decode cX4_init 21 = .ok (.putfield 16, 3) := by decide +kernel
theorem dX4_init_24 : decode cX4_init 24 = .ok (.return_, 1) := by decide +kernel
theorem dX5_init_0 : decode cX5_init 0 = .ok (.aload_n 0, 1) := by decide +kernel
theorem dX5_init_1 : decode cX5_init 1 = .ok (.invokespecial 3, 3) := by decide +kernel
theorem dX5_init_4 : decode cX5_init 4 = .ok (.aload_n 0, 1) := by decide +kernel
theorem dX5_init_5 : decode cX5_init 5 = .ok (.bipush 7, 2) := by decide +kernel
theorem dX5_init_7 : decode cX5_init 7 = .ok (.newarray .int, 2) := by decide +kernel
theorem dX5_init_9 : decode cX5_init 9 = .ok (.putfield 9, 3) := by decide +kernel
theorem dX5_init_12 : decode cX5_init 12 = .ok (.aload_n 0, 1) := by decide +kernel
theorem dX5_init_13 : decode cX5_init 13 = .ok (.sipush 128, 3) := by decide +kernel
theorem dX5_init_16 : decode cX5_init 16 = .ok (.newarray .int, 2) := by decide +kernel
theorem dX5_init_18 : decode cX5_init 18 = .ok (.putfield 15, 3) := by decide +kernel
theorem dX5_init_21 : decode cX5_init 21 = .ok (.aload_n 0, 1) := by decide +kernel
theorem dX5_init_22 : decode cX5_init 22 = .ok (.sipush 128, 3) := by decide +kernel
theorem dX5_init_25 : decode cX5_init 25 = .ok (.newarray .int, 2) := by decide +kernel
theorem dX5_init_27 : decode cX5_init 27 = .ok (.putfield 18, 3) := by decide +kernel
theorem dX5_init_30 : decode cX5_init 30 = .ok (.aload_n 0, 1) := by decide +kernel
theorem dX5_init_31 : decode cX5_init 31 = .ok (.sipush 256, 3) := by decide +kernel
theorem dX5_init_34 : decode cX5_init 34 = .ok (.newarray .long, 2) := by decide +kernel
theorem dX5_init_36 : decode cX5_init 36 = .ok (.putfield 21, 3) := by decide +kernel
theorem dX5_init_39 : decode cX5_init 39 = .ok (.aload_n 0, 1) := by decide +kernel
theorem dX5_init_40 : decode cX5_init 40 = .ok (.aload_n 1, 1) := by decide +kernel
theorem dX5_init_41 : decode cX5_init 41 = .ok (.putfield 25, 3) := by decide +kernel
theorem dX5_init_44 : decode cX5_init 44 = .ok (.return_, 1) := by decide +kernel
set_option maxRecDepth 20000 in
theorem ggX5_winningPoint_X5_playBackwards : GoodIn wsX5_winningPoint wsX5_playBackwards := goodIn_r _ [5, 6, 7, 8, 9, 10, 11, 12, 13, 14, 15, 16, 17, 18, 19, 20, 21, 22, 23, 24, 25, 26, 27, 28, 29, 30, 31, 32, 4, 33, 34, 35, 36, 37, 38, 39, 40, 41, 42, 43, 44, 45, 46, 47, 48] (by decide +kernel) (by decide +kernel)
set_option maxRecDepth 20000 in
theorem gX5_winningPoint_X5_playBackwards : GoodIn wsX5_winningPoint (wsV RX5 85 RX5 yX5_playBackwards wsX5_playBackwards) := goodIn_app (goodIn_of _ (by decide +kernel)) ggX5_winningPoint_X5_playBackwards
theorem dX5_winningPoint_0 : decode cX5_winningPoint 0 = .ok (.aload_n 0, 1) := by decide +kernel
theorem dX5_winningPoint_1 : decode cX5_winningPoint 1 = .ok (.aload_n 1, 1) := by decide +kernel
theorem dX5_winningPoint_2 : decode cX5_winningPoint 2 = .ok (.iload_n 2, 1) := by decide +kernel
theorem dX5_winningPoint_3 : decode cX5_winningPoint 3 = .ok (.invokevirtual 85, 3) := by decide +kernel
theorem dX5_winningPoint_6 : decode cX5_winningPoint 6 = .ok (.iconst 0, 1) := by decide +kernel
theorem dX5_winningPoint_7 : decode cX5_winningPoint 7 = .ok (.istore_n 3, 1) := by decide +kernel
theorem dX5_winningPoint_8 : decode cX5_winningPoint 8 = .ok (.iload_n 3, 1) := by decide +kernel
theorem dX5_winningPoint_9 : decode cX5_winningPoint 9 = .ok (.bipush 7, 2) := by decide +kernel
theorem dX5_winningPoint_11 : decode cX5_winningPoint 11 = .ok (.if_icmp .ge 30, 3) := by decide +kernel
theorem dX5_winningPoint_14 : decode cX5_winningPoint 14 = .ok (.iload_n 2, 1) := by decide +kernel
theorem dX5_winningPoint_15 : decode cX5_winningPoint 15 = .ok (.iconst 1, 1) := by decide +kernel
theorem dX5_winningPoint_16 : decode cX5_winningPoint 16 = .ok (.iload_n 3, 1) := by decide +kernel
theorem dX5_winningPoint_17 : decode cX5_winningPoint 17 = .ok (.ishl, 1) := by decide +kernel
theorem dX5_winningPoint_18 : decode cX5_winningPoint 18 = .ok (.iand, 1) := by decide +kernel
theorem dX5_winningPoint_19 : decode cX5_winningPoint 19 = .ok (.ifCond .eq 16, 3) := by decide +kernel
theorem dX5_winningPoint_22 : decode cX5_winningPoint 22 = .ok (.aload_n 0, 1) := by decide +kernel
theorem dX5_winningPoint_23 : decode cX5_winningPoint 23 = .ok (.iconst 1, 1) := by decide +kernel
theorem dX5_winningPoint_24 : decode cX5_winningPoint 24 = .ok (.iload_n 3, 1) := by decide +kernel
theorem dX5_winningPoint_25 : decode cX5_winningPoint 25 = .ok (.ishl, 1) := by decide +kernel
theorem dX5_winningPoint_26 : decode cX5_winningPoint 26 = .ok (.iconst 0, 1) := by decide +kernel
theorem dX5_winningPoint_27 : decode cX5_winningPoint 27 = .ok (.invokevirtual 88, 3) := by decide +kernel
theorem dX5_winningPoint_30 : decode cX5_winningPoint 30 = .ok (.ifCond .eq 5, 3) := by decide +kernel
theorem dX5_winningPoint_33 : decode cX5_winningPoint 33 = .ok (.iload_n 3, 1) := by decide +kernel
theorem dX5_winningPoint_34 : decode cX5_winningPoint 34 = .ok (.ireturn, 1) := by decide +kernel
theorem dX5_winningPoint_35 : decode cX5_winningPoint 35 = .ok (.iinc 3 1, 3) := by decide +kernel
theorem dX5_winningPoint_38 : decode cX5_winningPoint 38 = .ok (.goto (-30), 3) := by decide +kernel
theorem dX5_winningPoint_41 : decode cX5_winningPoint 41 = .ok (.iconst (-1), 1) := by decide +kernel
theorem dX5_winningPoint_42 : decode cX5_winningPoint 42 = .ok (.ireturn, 1) := by decide +kernel
set_option maxRecDepth 20000 in
theorem ggX5_playBackwards_X7_hasWithin : GoodIn wsX5_playBackwards wsX7_hasWithin := goodIn_r _ [9, 10, 11, 12, 13, 8, 14, 15, 2, 3, 4, 16, 17, 18, 19, 20, 21, 22, 23, 24, 42, 43, 44] (by decide +kernel) (by decide +kernel)
set_option maxRecDepth 20000 in
theorem gX5_playBackwards_X7_hasWithin : GoodIn wsX5_playBackwards (wsV RX5 91 RX7 yX7_hasWithin wsX7_hasWithin) := goodIn_app (goodIn_of _ (by decide +kernel)) ggX5_playBackwards_X7_hasWithin
set_option maxRecDepth 20000 in
theorem ggX5_playBackwards_X5_canWin : GoodIn wsX5_playBackwards wsX5_canWin := goodIn_r _ [29, 16, 3, 17, 18, 19, 20, 21, 22, 23, 24, 30, 31, 32, 28, 33, 1, 34, 35, 36, 37, 38, 39, 40, 41] (by decide +kernel) (by decide +kernel)
set_option maxRecDepth 20000 in
theorem gX5_playBackwards_X5_canWin : GoodIn wsX5_playBackwards (wsV RX5 94 RX5 yX5_canWin wsX5_canWin) := goodIn_app (goodIn_of _ (by decide +kernel)) ggX5_playBackwards_X5_canWin
theorem dX5_playBackwards_0 : decode cX5_playBackwards 0 = .ok (.iconst 0, 1) := by decide +kernel
theorem dX5_playBackwards_1 : decode cX5_playBackwards 1 = .ok (.istore_n 3, 1) := by decide +kernel
theorem dX5_playBackwards_2 : decode cX5_playBackwards 2 = .ok (.iload_n 3, 1) := by decide +kernel
theorem dX5_playBackwards_3 : decode cX5_playBackwards 3 = .ok (.aload_n 0, 1) := by decide +kernel
theorem dX5_playBackwards_4 : decode cX5_playBackwards 4 = .ok (.getfield 21, 3) := by decide +kernel
theorem dX5_playBackwards_7 : decode cX5_playBackwards 7 = .ok (.arraylength, 1) := by decide +kernel
theorem dX5_playBackwards_8 : decode cX5_playBackwards 8 = .ok (.if_icmp .ge 16, 3) := by decide +kernel
theorem dX5_playBackwards_11 : decode cX5_playBackwards 11 = .ok (.aload_n 0, 1) := by decide +kernel
theorem dX5_playBackwards_12 : decode cX5_playBackwards 12 = .ok (.getfield 21, 3) := by decide +kernel
theorem dX5_playBackwards_15 : decode cX5_playBackwards 15 = .ok (.iload_n 3, 1) := by decide +kernel
theorem dX5_playBackwards_16 : decode cX5_playBackwards 16 = .ok (.lconst 0, 1) := by decide +kernel
theorem dX5_playBackwards_17 : decode cX5_playBackwards 17 = .ok (.lastore, 1) := by decide +kernel
theorem dX5_playBackwards_18 : decode cX5_playBackwards 18 = .ok (.iinc 3 1, 3) := by decide +kernel
theorem dX5_playBackwards_21 : decode cX5_playBackwards 21 = .ok (.goto (-19), 3) := by decide +kernel
theorem dX5_playBackwards_24 : decode cX5_playBackwards 24 = .ok (.bipush 127, 2) := by decide +kernel
theorem dX5_playBackwards_26 : decode cX5_playBackwards 26 = .ok (.istore_n 3, 1) := by decide +kernel
theorem dX5_playBackwards_27 : decode cX5_playBackwards 27 = .ok (.iload_n 3, 1) := by decide +kernel
theorem dX5_playBackwards_28 : decode cX5_playBackwards 28 = .ok (.ifCond .lt 87, 3) := by decide +kernel
theorem dX5_playBackwards_31 : decode cX5_playBackwards 31 = .ok (.iload_n 3, 1) := by decide +kernel
theorem dX5_playBackwards_32 : decode cX5_playBackwards 32 = .ok (.iload_n 2, 1) := by decide +kernel
theorem dX5_playBackwards_33 : decode cX5_playBackwards 33 = .ok (.invokestatic 29, 3) := by decide +kernel
theorem dX5_playBackwards_36 : decode cX5_playBackwards 36 = .ok (.ifCond .eq 73, 3) := by decide +kernel
theorem dX5_playBackwards_39 : decode cX5_playBackwards 39 = .ok (.aload_n 1, 1) := by decide +kernel
theorem dX5_playBackwards_40 : decode cX5_playBackwards 40 = .ok (.iload_n 3, 1) := by decide +kernel
theorem dX5_playBackwards_41 : decode cX5_playBackwards 41 = .ok (.iconst 0, 1) := by decide +kernel
theorem dX5_playBackwards_42 : decode cX5_playBackwards 42 = .ok (.invokevirtual 91, 3) := by decide +kernel
theorem dX5_playBackwards_45 : decode cX5_playBackwards 45 = .ok (.istore 4, 2) := by decide +kernel
theorem dX5_playBackwards_47 : decode cX5_playBackwards 47 = .ok (.bipush 127, 2) := by decide +kernel
theorem dX5_playBackwards_49 : decode cX5_playBackwards 49 = .ok (.istore 5, 2) := by decide +kernel
theorem dX5_playBackwards_51 : decode cX5_playBackwards 51 = .ok (.iload 5, 2) := by decide +kernel
theorem dX5_playBackwards_53 : decode cX5_playBackwards 53 = .ok (.ifCond .lt 56, 3) := by decide +kernel
theorem dX5_playBackwards_56 : decode cX5_playBackwards 56 = .ok (.iload 5, 2) := by decide +kernel
theorem dX5_playBackwards_58 : decode cX5_playBackwards 58 = .ok (.iload_n 2, 1) := by decide +kernel
theorem dX5_playBackwards_59 : decode cX5_playBackwards 59 = .ok (.iload_n 3, 1) := by decide +kernel
theorem dX5_playBackwards_60 : decode cX5_playBackwards 60 = .ok (.iconst (-1), 1) := by decide +kernel
theorem dX5_playBackwards_61 : decode cX5_playBackwards 61 = .ok (.ixor, 1) := by decide +kernel
theorem dX5_playBackwards_62 : decode cX5_playBackwards 62 = .ok (.iand, 1) := by decide +kernel
theorem dX5_playBackwards_63 : decode cX5_playBackwards 63 = .ok (.invokestatic 29, 3) := by decide +kernel
theorem dX5_playBackwards_66 : decode cX5_playBackwards 66 = .ok (.ifCond .eq 37, 3) := by decide +kernel
theorem dX5_playBackwards_69 : decode cX5_playBackwards 69 = .ok (.aload_n 0, 1) := by decide +kernel
theorem dX5_playBackwards_70 : decode cX5_playBackwards 70 = .ok (.iload_n 3, 1) := by decide +kernel
theorem dX5_playBackwards_71 : decode cX5_playBackwards 71 = .ok (.iload 5, 2) := by decide +kernel
theorem dX5_playBackwards_73 : decode cX5_playBackwards 73 = .ok (.iload_n 2, 1) := by decide +kernel
theorem dX5_playBackwards_74 : decode cX5_playBackwards 74 = .ok (.iload 4, 2) := by decide +kernel
theorem dX5_playBackwards_76 : decode cX5_playBackwards 76 = .ok (.invokevirtual 94, 3) := by decide +kernel
theorem dX5_playBackwards_79 : decode cX5_playBackwards 79 = .ok (.ifCond .eq 24, 3) := by decide +kernel
theorem dX5_playBackwards_82 : decode cX5_playBackwards 82 = .ok (.aload_n 0, 1) := by decide +kernel
theorem dX5_playBackwards_83 : decode cX5_playBackwards 83 = .ok (.getfield 21, 3) := by decide +kernel
theorem dX5_playBackwards_86 : decode cX5_playBackwards 86 = .ok (.iload_n 3, 1) := by decide +kernel
theorem dX5_playBackwards_87 : decode cX5_playBackwards 87 = .ok (.iload 5, 2) := by decide +kernel
theorem dX5_playBackwards_89 : decode cX5_playBackwards 89 = .ok (.invokestatic 98, 3) := by decide +kernel
theorem dX5_playBackwards_92 : decode cX5_playBackwards 92 = .ok (.dup2, 1) := by decide +kernel
theorem dX5_playBackwards_93 : decode cX5_playBackwards 93 = .ok (.laload, 1) := by decide +kernel
theorem dX5_playBackwards_94 : decode cX5_playBackwards 94 = .ok (.lconst 1, 1) := by decide +kernel
theorem dX5_playBackwards_95 : decode cX5_playBackwards 95 = .ok (.iload 5, 2) := by decide +kernel
theorem dX5_playBackwards_97 : decode cX5_playBackwards 97 = .ok (.bipush 63, 2) := by decide +kernel
theorem dX5_playBackwards_99 : decode cX5_playBackwards 99 = .ok (.iand, 1) := by decide +kernel
theorem dX5_playBackwards_100 : decode cX5_playBackwards 100 = .ok (.lshl, 1) := by decide +kernel
theorem dX5_playBackwards_101 : decode cX5_playBackwards 101 = .ok (.lor, 1) := by decide +kernel
theorem dX5_playBackwards_102 : decode cX5_playBackwards 102 = .ok (.lastore, 1) := by decide +kernel
theorem dX5_playBackwards_103 : decode cX5_playBackwards 103 = .ok (.iinc 5 (-1), 3) := by decide +kernel
theorem dX5_playBackwards_106 : decode cX5_playBackwards 106 = .ok (.goto (-55), 3) := by decide +kernel
theorem dX5_playBackwards_109 : decode cX5_playBackwards 109 = .ok (.iinc 3 (-1), 3) := by decide +kernel
theorem dX5_playBackwards_112 : decode cX5_playBackwards 112 = .ok (.goto (-85), 3) := by decide +kernel
theorem dX5_playBackwards_115 : decode cX5_playBackwards 115 = .ok (.return_, 1) := by decide +kernel
theorem dX5_canWin_0 : decode cX5_canWin 0 = .ok (.iload_n 3, 1) := by decide +kernel
theorem dX5_canWin_1 : decode cX5_canWin 1 = .ok (.iload_n 1, 1) := by decide +kernel
theorem dX5_canWin_2 : decode cX5_canWin 2 = .ok (.iconst (-1), 1) := by decide +kernel
theorem dX5_canWin_3 : decode cX5_canWin 3 = .ok (.ixor, 1) := by decide +kernel
theorem dX5_canWin_4 : decode cX5_canWin 4 = .ok (.iand, 1) := by decide +kernel
theorem dX5_canWin_5 : decode cX5_canWin 5 = .ok (.iload_n 2, 1) := by decide +kernel
theorem dX5_canWin_6 : decode cX5_canWin 6 = .ok (.iconst (-1), 1) := by decide +kernel
theorem dX5_canWin_7 : decode cX5_canWin 7 = .ok (.ixor, 1) := by decide +kernel
theorem dX5_canWin_8 : decode cX5_canWin 8 = .ok (.iand, 1) := by decide +kernel
theorem dX5_canWin_9 : decode cX5_canWin 9 = .ok (.istore 5, 2) := by decide +kernel
theorem dX5_canWin_11 : decode cX5_canWin 11 = .ok (.iload_n 1, 1) := by decide +kernel
theorem dX5_canWin_12 : decode cX5_canWin 12 = .ok (.invokestatic 33, 3) := by decide +kernel
theorem dX5_canWin_15 : decode cX5_canWin 15 = .ok (.iload_n 2, 1) := by decide +kernel
theorem dX5_canWin_16 : decode cX5_canWin 16 = .ok (.invokestatic 33, 3) := by decide +kernel
theorem dX5_canWin_19 : decode cX5_canWin 19 = .ok (.isub, 1) := by decide +kernel
theorem dX5_canWin_20 : decode cX5_canWin 20 = .ok (.istore 6, 2) := by decide +kernel
theorem dX5_canWin_22 : decode cX5_canWin 22 = .ok (.iload 5, 2) := by decide +kernel
theorem dX5_canWin_24 : decode cX5_canWin 24 = .ok (.ifCond .eq 8, 3) := by decide +kernel
theorem dX5_canWin_27 : decode cX5_canWin 27 = .ok (.iload 4, 2) := by decide +kernel
theorem dX5_canWin_29 : decode cX5_canWin 29 = .ok (.ifCond .eq 6, 3) := by decide +kernel
theorem dX5_canWin_32 : decode cX5_canWin 32 = .ok (.iload 4, 2) := by decide +kernel
theorem dX5_canWin_34 : decode cX5_canWin 34 = .ok (.ireturn, 1) := by decide +kernel
theorem dX5_canWin_35 : decode cX5_canWin 35 = .ok (.iload 6, 2) := by decide +kernel
theorem dX5_canWin_37 : decode cX5_canWin 37 = .ok (.ifCond .ne 7, 3) := by decide +kernel
theorem dX5_canWin_40 : decode cX5_canWin 40 = .ok (.iconst 1, 1) := by decide +kernel
theorem dX5_canWin_41 : decode cX5_canWin 41 = .ok (.goto 4, 3) := by decide +kernel
theorem dX5_canWin_44 : decode cX5_canWin 44 = .ok (.iconst 0, 1) := by decide +kernel
theorem dX5_canWin_45 : decode cX5_canWin 45 = .ok (.istore 7, 2) := by decide +kernel
theorem dX5_canWin_47 : decode cX5_canWin 47 = .ok (.iload 7, 2) := by decide +kernel
theorem dX5_canWin_49 : decode cX5_canWin 49 = .ok (.ifCond .ne 11, 3) := by decide +kernel
theorem dX5_canWin_52 : decode cX5_canWin 52 = .ok (.iload 6, 2) := by decide +kernel
theorem dX5_canWin_54 : decode cX5_canWin 54 = .ok (.iconst 1, 1) := by decide +kernel
theorem dX5_canWin_55 : decode cX5_canWin 55 = .ok (.if_icmp .eq 5, 3) := by decide +kernel
theorem dX5_canWin_58 : decode cX5_canWin 58 = .ok (.iconst 0, 1) := by decide +kernel
theorem dX5_canWin_59 : decode cX5_canWin 59 = .ok (.ireturn, 1) := by decide +kernel
theorem dX5_canWin_60 : decode cX5_canWin 60 = .ok (.iconst 0, 1) := by decide +kernel
theorem dX5_canWin_61 : decode cX5_canWin 61 = .ok (.istore 8, 2) := by decide +kernel
theorem dX5_canWin_63 : decode cX5_canWin 63 = .ok (.iload 8, 2) := by decide +kernel
theorem dX5_canWin_65 : decode cX5_canWin 65 = .ok (.bipush 7, 2) := by decide +kernel
theorem dX5_canWin_67 : decode cX5_canWin 67 = .ok (.if_icmp .ge 66, 3) := by decide +kernel
theorem dX5_canWin_70 : decode cX5_canWin 70 = .ok (.iload 5, 2) := by decide +kernel
theorem dX5_canWin_72 : decode cX5_canWin 72 = .ok (.iconst 1, 1) := by decide +kernel
theorem dX5_canWin_73 : decode cX5_canWin 73 = .ok (.iload 8, 2) := by decide +kernel
theorem dX5_canWin_75 : decode cX5_canWin 75 = .ok (.ishl, 1) := by decide +kernel
theorem dX5_canWin_76 : decode cX5_canWin 76 = .ok (.iand, 1) := by decide +kernel
theorem dX5_canWin_77 : decode cX5_canWin 77 = .ok (.istore 9, 2) := by decide +kernel
theorem dX5_canWin_79 : decode cX5_canWin 79 = .ok (.iload 9, 2) := by decide +kernel
theorem dX5_canWin_81 : decode cX5_canWin 81 = .ok (.ifCond .eq 22, 3) := by decide +kernel
theorem dX5_canWin_84 : decode cX5_canWin 84 = .ok (.iload 7, 2) := by decide +kernel
theorem dX5_canWin_86 : decode cX5_canWin 86 = .ok (.ifCond .eq 17, 3) := by decide +kernel
theorem dX5_canWin_89 : decode cX5_canWin 89 = .ok (.aload_n 0, 1) := by decide +kernel
theorem dX5_canWin_90 : decode cX5_canWin 90 = .ok (.iload_n 1, 1) := by decide +kernel
theorem dX5_canWin_91 : decode cX5_canWin 91 = .ok (.iload 9, 2) := by decide +kernel
theorem dX5_canWin_93 : decode cX5_canWin 93 = .ok (.ior, 1) := by decide +kernel
theorem dX5_canWin_94 : decode cX5_canWin 94 = .ok (.iload_n 2, 1) := by decide +kernel
theorem dX5_canWin_95 : decode cX5_canWin 95 = .ok (.invokevirtual 88, 3) := by decide +kernel
theorem dX5_canWin_98 : decode cX5_canWin 98 = .ok (.ifCond .eq 5, 3) := by decide +kernel
theorem dX5_canWin_101 : decode cX5_canWin 101 = .ok (.iconst 1, 1) := by decide +kernel
theorem dX5_canWin_102 : decode cX5_canWin 102 = .ok (.ireturn, 1) := by decide +kernel
theorem dX5_canWin_103 : decode cX5_canWin 103 = .ok (.iload 9, 2) := by decide +kernel
theorem dX5_canWin_105 : decode cX5_canWin 105 = .ok (.ifCond .eq 22, 3) := by decide +kernel
theorem dX5_canWin_108 : decode cX5_canWin 108 = .ok (.iload 7, 2) := by decide +kernel
theorem dX5_canWin_110 : decode cX5_canWin 110 = .ok (.ifCond .ne 17, 3) := by decide +kernel
theorem dX5_canWin_113 : decode cX5_canWin 113 = .ok (.aload_n 0, 1) := by decide +kernel
theorem dX5_canWin_114 : decode cX5_canWin 114 = .ok (.iload_n 1, 1) := by decide +kernel
theorem dX5_canWin_115 : decode cX5_canWin 115 = .ok (.iload_n 2, 1) := by decide +kernel
theorem dX5_canWin_116 : decode cX5_canWin 116 = .ok (.iload 9, 2) := by decide +kernel
theorem dX5_canWin_118 : decode cX5_canWin 118 = .ok (.ior, 1) := by decide +kernel
theorem dX5_canWin_119 : decode cX5_canWin 119 = .ok (.invokevirtual 88, 3) := by decide +kernel
theorem dX5_canWin_122 : decode cX5_canWin 122 = .ok (.ifCond .ne 5, 3) := by decide +kernel
theorem dX5_canWin_125 : decode cX5_canWin 125 = .ok (.iconst 0, 1) := by decide +kernel
theorem dX5_canWin_126 : decode cX5_canWin 126 = .ok (.ireturn, 1) := by decide +kernel
theorem dX5_canWin_127 : decode cX5_canWin 127 = .ok (.iinc 8 1, 3) := by decide +kernel
theorem dX5_canWin_130 : decode cX5_canWin 130 = .ok (.goto (-67), 3) := by decide +kernel
theorem dX5_canWin_133 : decode cX5_canWin 133 = .ok (.iload 7, 2) := by decide +kernel
theorem dX5_canWin_135 : decode cX5_canWin 135 = .ok (.ifCond .ne 7, 3) := by decide +kernel
theorem dX5_canWin_138 : decode cX5_canWin 138 = .ok (.iconst 1, 1) := by decide +kernel
theorem dX5_canWin_139 : decode cX5_canWin 139 = .ok (.goto 4, 3) := by decide +kernel
theorem dX5_canWin_142 : decode cX5_canWin 142 = .ok (.iconst 0, 1) := by decide +kernel
theorem dX5_canWin_143 : decode cX5_canWin 143 = .ok (.ireturn, 1) := by decide +kernel
theorem dX6_init_0 : decode cX6_init 0 = .ok (.aload_n 0, 1) := by decide +kernel
theorem dX6_init_1 : decode cX6_init 1 = .ok (.invokespecial 3, 3) := by decide +kernel
theorem dX6_init_4 : decode cX6_init 4 = .ok (.aload_n 0, 1) := by decide +kernel
theorem dX6_init_5 : decode cX6_init 5 = .ok (.new 9, 3) := by decide +kernel
theorem dX6_init_8 : decode cX6_init 8 = .ok (.dup, 1) := by decide +kernel
theorem dX6_init_9 : decode cX6_init 9 = .ok (.invokespecial 11, 3) := by decide +kernel
theorem dX6_init_12 : decode cX6_init 12 = .ok (.putfield 12, 3) := by decide +kernel
theorem dX6_init_15 : decode cX6_init 15 = .ok (.aload_n 0, 1) := by decide +kernel
theorem dX6_init_16 : decode cX6_init 16 = .ok (.sipush 128, 3) := by decide +kernel
theorem dX6_init_19 : decode cX6_init 19 = .ok (.newarray .long, 2) := by decide +kernel
theorem dX6_init_21 : decode cX6_init 21 = .ok (.putfield 18, 3) := by decide +kernel
theorem dX6_init_24 : decode cX6_init 24 = .ok (.aload_n 0, 1) := by decide +kernel
theorem dX6_init_25 : decode cX6_init 25 = .ok (.aload_n 1, 1) := by decide +kernel
theorem dX6_init_26 : decode cX6_init 26 = .ok (.putfield 22, 3) := by decide +kernel
theorem dX6_init_29 : decode cX6_init 29 = .ok (.return_, 1) := by decide +kernel
theorem dX7_init_0 : decode cX7_init 0 = .ok (.aload_n 0, 1) := by decide +kernel
theorem dX7_init_1 : decode cX7_init 1 = .ok (.invokespecial 3, 3) := by decide +kernel
theorem dX7_init_4 : decode cX7_init 4 = .ok (.aload_n 0, 1) := by decide +kernel
theorem dX7_init_5 : decode cX7_init 5 = .ok (.sipush 128, 3) := by decide +kernel
theorem dX7_init_8 : decode cX7_init 8 = .ok (.newarray .boolean, 2) := by decide +kernel
theorem dX7_init_10 : decode cX7_init 10 = .ok (.putfield 9, 3) := by decide +kernel
theorem dX7_init_13 : decode cX7_init 13 = .ok (.aload_n 0, 1) := by decide +kernel
theorem dX7_init_14 : decode cX7_init 14 = .ok (.sipush 128, 3) := by decide +kernel
theorem dX7_init_17 : decode cX7_init 17 = .ok (.newarray .int, 2) := by decide +kernel
theorem dX7_init_19 : decode cX7_init 19 = .ok (.putfield 15, 3) := by decide +kernel
theorem dX7_init_22 : decode cX7_init 22 = .ok (.return_, 1) := by decide +kernel
theorem dX7_many_0 : decode cX7_many 0 = .ok (.aload_n 0, 1) := by decide +kernel
theorem dX7_many_1 : decode cX7_many 1 = .ok (.getfield 19, 3) := by decide +kernel
theorem dX7_many_4 : decode cX7_many 4 = .ok (.ireturn, 1) := by decide +kernel
theorem dX7_clear_0 : decode cX7_clear 0 = .ok (.iconst 0, 1) := by decide +kernel
theorem dX7_clear_1 : decode cX7_clear 1 = .ok (.istore_n 1, 1) := by decide +kernel
theorem dX7_clear_2 : decode cX7_clear 2 = .ok (.iload_n 1, 1) := by decide +kernel
theorem dX7_clear_3 : decode cX7_clear 3 = .ok (.aload_n 0, 1) := by decide +kernel
theorem dX7_clear_4 : decode cX7_clear 4 = .ok (.getfield 9, 3) := by decide +kernel
theorem dX7_clear_7 : decode cX7_clear 7 = .ok (.arraylength, 1) := by decide +kernel
theorem dX7_clear_8 : decode cX7_clear 8 = .ok (.if_icmp .ge 16, 3) := by decide +kernel
theorem dX7_clear_11 : decode cX7_clear 11 = .ok (.aload_n 0, 1) := by decide +kernel
theorem dX7_clear_12 : decode cX7_clear 12 = .ok (.getfield 9, 3) := by decide +kernel
theorem dX7_clear_15 : decode cX7_clear 15 = .ok (.iload_n 1, 1) := by decide +kernel
theorem dX7_clear_16 : decode cX7_clear 16 = .ok (.iconst 0, 1) := by decide +kernel
theorem dX7_clear_17 : decode cX7_clear 17 = .ok (.bastore, 1) := by decide +kernel
theorem dX7_clear_18 : decode cX7_clear 18 = .ok (.iinc 1 1, 3) := by decide +kernel
theorem dX7_clear_21 : decode cX7_clear 21 = .ok (.goto (-19), 3) := by decide +kernel
theorem dX7_clear_24 : decode cX7_clear 24 = .ok (.aload_n 0, 1) := by decide +kernel
theorem dX7_clear_25 : decode cX7_clear 25 = .ok (.iconst 0, 1) := by decide +kernel
theorem dX7_clear_26 : decode cX7_clear 26 = .ok (.putfield 19, 3) := by decide +kernel
theorem dX7_clear_29 : decode cX7_clear 29 = .ok (.return_, 1) := by decide +kernel
set_option maxRecDepth 20000 in
theorem ggX7_copy_X7_clear : GoodIn wsX7_copy wsX7_clear := goodIn_r _ [5, 6, 7, 21, 22, 23] (by decide +kernel) (by decide +kernel)
set_option maxRecDepth 20000 in
theorem gX7_copy_X7_clear : GoodIn wsX7_copy (wsV RX7 23 RX7 yX7_clear wsX7_clear) := goodIn_app (goodIn_of _ (by decide +kernel)) ggX7_copy_X7_clear
set_option maxRecDepth 20000 in
theorem ggX7_copy_X7_many : GoodIn wsX7_copy wsX7_many := goodIn_r _ [11, 7, 21, 22, 23] (by decide +kernel) (by decide +kernel)
set_option maxRecDepth 20000 in
theorem gX7_copy_X7_many : GoodIn wsX7_copy (wsV RX7 26 RX7 yX7_many wsX7_many) := goodIn_app (goodIn_of _ (by decide +kernel)) ggX7_copy_X7_many
theorem dX7_copy_0 : decode cX7_copy 0 = .ok (.aload_n 0, 1) := by decide +kernel
theorem dX7_copy_1 : decode cX7_copy 1 = .ok (.invokevirtual 23, 3) := by decide +kernel
theorem dX7_copy_4 : decode cX7_copy 4 = .ok (.iconst 0, 1) := by decide +kernel
theorem dX7_copy_5 : decode cX7_copy 5 = .ok (.istore_n 2, 1) := by decide +kernel
theorem dX7_copy_6 : decode cX7_copy 6 = .ok (.iload_n 2, 1) := by decide +kernel
theorem dX7_copy_7 : decode cX7_copy 7 = .ok (.aload_n 1, 1) := by decide +kernel
theorem dX7_copy_8 : decode cX7_copy 8 = .ok (.invokevirtual 26, 3) := by decide +kernel
theorem dX7_copy_11 : decode cX7_copy 11 = .ok (.if_icmp .ge 18, 3) := by decide +kernel
theorem dX7_copy_14 : decode cX7_copy 14 = .ok (.aload_n 0, 1) := by decide +kernel
theorem dX7_copy_15 : decode cX7_copy 15 = .ok (.aload_n 1, 1) := by decide +kernel
theorem dX7_copy_16 : decode cX7_copy 16 = .ok (.iload_n 2, 1) := by decide +kernel
theorem dX7_copy_17 : decode cX7_copy 17 = .ok (.invokevirtual 29, 3) := by decide +kernel
theorem dX7_copy_20 : decode cX7_copy 20 = .ok (.invokevirtual 33, 3) := by decide +kernel
theorem dX7_copy_23 : decode cX7_copy 23 = .ok (.iinc 2 1, 3) := by decide +kernel
theorem dX7_copy_26 : decode cX7_copy 26 = .ok (.goto (-20), 3) := by decide +kernel
theorem dX7_copy_29 : decode cX7_copy 29 = .ok (.return_, 1) := by decide +kernel
theorem dX7_hasWithin_0 : decode cX7_hasWithin 0 = .ok (.iconst 0, 1) := by decide +kernel
theorem dX7_hasWithin_1 : decode cX7_hasWithin 1 = .ok (.istore_n 3, 1) := by decide +kernel
theorem dX7_hasWithin_2 : decode cX7_hasWithin 2 = .ok (.iload_n 3, 1) := by decide +kernel
theorem dX7_hasWithin_3 : decode cX7_hasWithin 3 = .ok (.aload_n 0, 1) := by decide +kernel
theorem dX7_hasWithin_4 : decode cX7_hasWithin 4 = .ok (.getfield 19, 3) := by decide +kernel
theorem dX7_hasWithin_7 : decode cX7_hasWithin 7 = .ok (.if_icmp .ge 35, 3) := by decide +kernel
theorem dX7_hasWithin_10 : decode cX7_hasWithin 10 = .ok (.aload_n 0, 1) := by decide +kernel
theorem dX7_hasWithin_11 : decode cX7_hasWithin 11 = .ok (.iload_n 3, 1) := by decide +kernel
theorem dX7_hasWithin_12 : decode cX7_hasWithin 12 = .ok (.invokevirtual 29, 3) := by decide +kernel
theorem dX7_hasWithin_15 : decode cX7_hasWithin 15 = .ok (.iload_n 1, 1) := by decide +kernel
theorem dX7_hasWithin_16 : decode cX7_hasWithin 16 = .ok (.invokestatic 56, 3) := by decide +kernel
theorem dX7_hasWithin_19 : decode cX7_hasWithin 19 = .ok (.ifCond .eq 17, 3) := by decide +kernel
theorem dX7_hasWithin_22 : decode cX7_hasWithin 22 = .ok (.aload_n 0, 1) := by decide +kernel
theorem dX7_hasWithin_23 : decode cX7_hasWithin 23 = .ok (.iload_n 3, 1) := by decide +kernel
theorem dX7_hasWithin_24 : decode cX7_hasWithin 24 = .ok (.invokevirtual 29, 3) := by decide +kernel
theorem dX7_hasWithin_27 : decode cX7_hasWithin 27 = .ok (.invokestatic 41, 3) := by decide +kernel
theorem dX7_hasWithin_30 : decode cX7_hasWithin 30 = .ok (.iload_n 2, 1) := by decide +kernel
theorem dX7_hasWithin_31 : decode cX7_hasWithin 31 = .ok (.if_icmp .lt 5, 3) := by decide +kernel
theorem dX7_hasWithin_34 : decode cX7_hasWithin 34 = .ok (.iconst 1, 1) := by decide +kernel
theorem dX7_hasWithin_35 : decode cX7_hasWithin 35 = .ok (.ireturn, 1) := by decide +kernel
theorem dX7_hasWithin_36 : decode cX7_hasWithin 36 = .ok (.iinc 3 1, 3) := by decide +kernel
theorem dX7_hasWithin_39 : decode cX7_hasWithin 39 = .ok (.goto (-37), 3) := by decide +kernel
theorem dX7_hasWithin_42 : decode cX7_hasWithin 42 = .ok (.iconst 0, 1) := by decide +kernel
theorem dX7_hasWithin_43 : decode cX7_hasWithin 43 = .ok (.ireturn, 1) := by decide +kernel
theorem dX8_init_0 : decode cX8_init 0 = .ok (.aload_n 0, 1) := by decide +kernel
theorem dX8_init_1 : decode cX8_init 1 = .ok (.invokespecial 3, 3) := by decide +kernel
theorem dX8_init_4 : decode cX8_init 4 = .ok (.aload_n 0, 1) := by decide +kernel
theorem dX8_init_5 : decode cX8_init 5 = .ok (.sipush 128, 3) := by decide +kernel
theorem dX8_init_8 : decode cX8_init 8 = .ok (.newarray .boolean, 2) := by decide +kernel
theorem dX8_init_10 : decode cX8_init 10 = .ok (.putfield 9, 3) := by decide +kernel
theorem dX8_init_13 : decode cX8_init 13 = .ok (.aload_n 0, 1) := by decide +kernel
theorem dX8_init_14 : decode cX8_init 14 = .ok (.sipush 128, 3) := by decide +kernel
theorem dX8_init_17 : decode cX8_init 17 = .ok (.newarray .int, 2) := by decide +kernel
theorem dX8_init_19 : decode cX8_init 19 = .ok (.putfield 15, 3) := by decide +kernel
theorem dX8_init_22 : decode cX8_init 22 = .ok (.return_, 1) := by decide +kernel
theorem dX9_init_0 : decode cX9_init 0 = .ok (.aload_n 0, 1) := by decide +kernel
theorem dX9_init_1 : decode cX9_init 1 = .ok (.invokespecial 3, 3) := by decide +kernel
theorem dX9_init_4 : decode cX9_init 4 = .ok (.aload_n 0, 1) := by decide +kernel
theorem dX9_init_5 : decode cX9_init 5 = .ok (.sipush 128, 3) := by decide +kernel
theorem dX9_init_8 : decode cX9_init 8 = .ok (.newarray .boolean, 2) := by decide +kernel
theorem dX9_init_10 : decode cX9_init 10 = .ok (.putfield 9, 3) := by decide +kernel
theorem dX9_init_13 : decode cX9_init 13 = .ok (.aload_n 0, 1) := by decide +kernel
theorem dX9_init_14 : decode cX9_init 14 = .ok (.sipush 128, 3) := by decide +kernel
theorem dX9_init_17 : decode cX9_init 17 = .ok (.newarray .int, 2) := by decide +kernel
theorem dX9_init_19 : decode cX9_init 19 = .ok (.putfield 15, 3) := by decide +kernel
theorem dX9_init_22 : decode cX9_init 22 = .ok (.aload_n 0, 1) := by decide +kernel
theorem dX9_init_23 : decode cX9_init 23 = .ok (.bipush 64, 2) := by decide +kernel
theorem dX9_init_25 : decode cX9_init 25 = .ok (.newarray .long, 2) := by decide +kernel
theorem dX9_init_27 : decode cX9_init 27 = .ok (.putfield 19, 3) := by decide +kernel
theorem dX9_init_30 : decode cX9_init 30 = .ok (.aload_n 0, 1) := by decide +kernel
theorem dX9_init_31 : decode cX9_init 31 = .ok (.bipush 7, 2) := by decide +kernel
theorem dX9_init_33 : decode cX9_init 33 = .ok (.bipush 7, 2) := by decide +kernel
theorem dX9_init_35 : decode cX9_init 35 = .ok (.multianewarray 23 2, 4) := by decide +kernel
theorem dX9_init_39 : decode cX9_init 39 = .ok (.putfield 25, 3) := by decide +kernel
theorem dX9_init_42 : decode cX9_init 42 = .ok (.aload_n 0, 1) := by decide +kernel
theorem dX9_init_43 : decode cX9_init 43 = .ok (.bipush 7, 2) := by decide +kernel
theorem dX9_init_45 : decode cX9_init 45 = .ok (.newarray .int, 2) := by decide +kernel
theorem dX9_init_47 : decode cX9_init 47 = .ok (.putfield 28, 3) := by decide +kernel
theorem dX9_init_50 : decode cX9_init 50 = .ok (.return_, 1) := by decide +kernel
theorem dX10_init_0 : decode cX10_init 0 = .ok (.aload_n 0, 1) := by decide +kernel
theorem dX10_init_1 : decode cX10_init 1 = .ok (.invokespecial 3, 3) := by decide +kernel
theorem dX10_init_4 : decode cX10_init 4 = .ok (.aload_n 0, 1) := by decide +kernel
theorem dX10_init_5 : decode cX10_init 5 = .ok (.new 9, 3) := by decide +kernel
theorem dX10_init_8 : decode cX10_init 8 = .ok (.dup, 1) := by decide +kernel
theorem dX10_init_9 : decode cX10_init 9 = .ok (.invokespecial 11, 3) := by decide +kernel
theorem dX10_init_12 : decode cX10_init 12 = .ok (.putfield 12, 3) := by decide +kernel
theorem dX10_init_15 : decode cX10_init 15 = .ok (.aload_n 0, 1) := by decide +kernel
theorem dX10_init_16 : decode cX10_init 16 = .ok (.bipush 7, 2) := by decide +kernel
theorem dX10_init_18 : decode cX10_init 18 = .ok (.newarray .int, 2) := by decide +kernel
theorem dX10_init_20 : decode cX10_init 20 = .ok (.putfield 18, 3) := by decide +kernel
theorem dX10_init_23 : decode cX10_init 23 = .ok (.aload_n 0, 1) := by decide +kernel
theorem dX10_init_24 : decode cX10_init 24 = .ok (.sipush 128, 3) := by decide +kernel
theorem dX10_init_27 : decode cX10_init 27 = .ok (.newarray .int, 2) := by decide +kernel
theorem dX10_init_29 : decode cX10_init 29 = .ok (.putfield 22, 3) := by decide +kernel
theorem dX10_init_32 : decode cX10_init 32 = .ok (.return_, 1) := by decide +kernel
set_option maxRecDepth 20000 in
theorem ggX11_init_X5_init : GoodIn wsX11_init wsX5_init := goodIn_r _ [80, 81, 2, 3, 54, 82, 83, 84, 75, 85, 86, 172, 173, 174, 175, 176] (by decide +kernel) (by decide +kernel)
set_option maxRecDepth 20000 in
theorem gX11_init_X5_init : GoodIn wsX11_init (wsX5_init) := ggX11_init_X5_init
set_option maxRecDepth 20000 in
theorem ggX11_init_X6_init : GoodIn wsX11_init wsX6_init := goodIn_r _ [89, 90, 2, 3, 91, 10, 11, 92, 75, 93, 94, 56, 57, 58, 59, 60, 54, 61, 159, 160, 161, 177, 178, 179, 180, 181] (by decide +kernel) (by decide +kernel)
set_option maxRecDepth 20000 in
theorem gX11_init_X6_init : GoodIn wsX11_init (wsX6_init) := ggX11_init_X6_init
set_option maxRecDepth 20000 in
theorem ggX11_init_X1_init : GoodIn wsX11_init wsX1_init := goodIn_r _ [97, 98, 2, 3, 99, 10, 11, 100, 101, 56, 57, 58, 59, 60, 54, 61, 159, 160, 161, 182, 183] (by decide +kernel) (by decide +kernel)
set_option maxRecDepth 20000 in
theorem gX11_init_X1_init : GoodIn wsX11_init (wsX1_init) := ggX11_init_X1_init
set_option maxRecDepth 20000 in
theorem ggX11_init_X3_begin : GoodIn wsX11_init wsX3_begin := goodIn_r _ [134, 135, 136, 55, 137, 138, 139, 6, 140, 141, 142, 143] (by decide +kernel) (by decide +kernel)
set_option maxRecDepth 20000 in
theorem gX11_init_X3_begin : GoodIn wsX11_init (wsV RX11 100 RX3 yX3_begin wsX3_begin) := goodIn_app (goodIn_of _ (by decide +kernel)) ggX11_init_X3_begin
theorem dX11_init_0 : decode cX11_init 0 = .ok (.aload_n 0, 1) := by decide +kernel
theorem dX11_init_1 : decode cX11_init 1 = .ok (.invokespecial 3, 3) := by decide +kernel
theorem dX11_init_4 : decode cX11_init 4 = .ok (.aload_n 0, 1) := by decide +kernel
theorem dX11_init_5 : decode cX11_init 5 = .ok (.new 9, 3) := by decide +kernel
theorem dX11_init_8 : decode cX11_init 8 = .ok (.dup, 1) := by decide +kernel
theorem dX11_init_9 : decode cX11_init 9 = .ok (.invokespecial 11, 3) := by decide +kernel
theorem dX11_init_12 : decode cX11_init 12 = .ok (.putfield 12, 3) := by decide +kernel
theorem dX11_init_15 : decode cX11_init 15 = .ok (.aload_n 0, 1) := by decide +kernel
theorem dX11_init_16 : decode cX11_init 16 = .ok (.iconst 5, 1) := by decide +kernel
theorem dX11_init_17 : decode cX11_init 17 = .ok (.anewarray 16, 3) := by decide +kernel
theorem dX11_init_20 : decode cX11_init 20 = .ok (.putfield 18, 3) := by decide +kernel
theorem dX11_init_23 : decode cX11_init 23 = .ok (.aload_n 0, 1) := by decide +kernel
theorem dX11_init_24 : decode cX11_init 24 = .ok (.new 16, 3) := by decide +kernel
theorem dX11_init_27 : decode cX11_init 27 = .ok (.dup, 1) := by decide +kernel
theorem dX11_init_28 : decode cX11_init 28 = .ok (.invokespecial 22, 3) := by decide +kernel
theorem dX11_init_31 : decode cX11_init 31 = .ok (.putfield 23, 3) := by decide +kernel
theorem dX11_init_34 : decode cX11_init 34 = .ok (.aload_n 0, 1) := by decide +kernel
theorem dX11_init_35 : decode cX11_init 35 = .ok (.new 16, 3) := by decide +kernel
theorem dX11_init_38 : decode cX11_init 38 = .ok (.dup, 1) := by decide +kernel
theorem dX11_init_39 : decode cX11_init 39 = .ok (.invokespecial 22, 3) := by decide +kernel
theorem dX11_init_42 : decode cX11_init 42 = .ok (.putfield 27, 3) := by decide +kernel
theorem dX11_init_45 : decode cX11_init 45 = .ok (.aload_n 0, 1) := by decide +kernel
theorem dX11_init_46 : decode cX11_init 46 = .ok (.new 16, 3) := by decide +kernel
theorem dX11_init_49 : decode cX11_init 49 = .ok (.dup, 1) := by decide +kernel
theorem dX11_init_50 : decode cX11_init 50 = .ok (.invokespecial 22, 3) := by decide +kernel
theorem dX11_init_53 : decode cX11_init 53 = .ok (.putfield 30, 3) := by decide +kernel
theorem dX11_init_56 : decode cX11_init 56 = .ok (.aload_n 0, 1) := by decide +kernel
theorem dX11_init_57 : decode cX11_init 57 = .ok (.new 33, 3) := by decide +kernel
theorem dX11_init_60 : decode cX11_init 60 = .ok (.dup, 1) := by decide +kernel
theorem dX11_init_61 : decode cX11_init 61 = .ok (.invokespecial 35, 3) := by decide +kernel
theorem dX11_init_64 : decode cX11_init 64 = .ok (.putfield 36, 3) := by decide +kernel
theorem dX11_init_67 : decode cX11_init 67 = .ok (.aload_n 0, 1) := by decide +kernel
theorem dX11_init_68 : decode cX11_init 68 = .ok (.new 40, 3) := by decide +kernel
theorem dX11_init_71 : decode cX11_init 71 = .ok (.dup, 1) := by decide +kernel
theorem dX11_init_72 : decode cX11_init 72 = .ok (.invokespecial 42, 3) := by decide +kernel
theorem dX11_init_75 : decode cX11_init 75 = .ok (.putfield 43, 3) := by decide +kernel
theorem dX11_init_78 : decode cX11_init 78 = .ok (.aload_n 0, 1) := by decide +kernel
theorem dX11_init_79 : decode cX11_init 79 = .ok (.new 47, 3) := by decide +kernel
theorem dX11_init_82 : decode cX11_init 82 = .ok (.dup, 1) := by decide +kernel
theorem dX11_init_83 : decode cX11_init 83 = .ok (.aload_n 0, 1) := by decide +kernel
theorem dX11_init_84 : decode cX11_init 84 = .ok (.getfield 36, 3) := by decide +kernel
theorem dX11_init_87 : decode cX11_init 87 = .ok (.invokespecial 49, 3) := by decide +kernel
theorem dX11_init_90 : decode cX11_init 90 = .ok (.putfield 52, 3) := by decide +kernel
theorem dX11_init_93 : decode cX11_init 93 = .ok (.aload_n 0, 1) := by decide +kernel
theorem dX11_init_94 : decode cX11_init 94 = .ok (.new 56, 3) := by decide +kernel
theorem dX11_init_97 : decode cX11_init 97 = .ok (.dup, 1) := by decide +kernel
theorem dX11_init_98 : decode cX11_init 98 = .ok (.aload_n 0, 1) := by decide +kernel
theorem dX11_init_99 : decode cX11_init 99 = .ok (.getfield 36, 3) := by decide +kernel
theorem dX11_init_102 : decode cX11_init 102 = .ok (.invokespecial 58, 3) := by decide +kernel
theorem dX11_init_105 : decode cX11_init 105 = .ok (.putfield 59, 3) := by decide +kernel
theorem dX11_init_108 : decode cX11_init 108 = .ok (.aload_n 0, 1) := by decide +kernel
theorem dX11_init_109 : decode cX11_init 109 = .ok (.new 63, 3) := by decide +kernel
theorem dX11_init_112 : decode cX11_init 112 = .ok (.dup, 1) := by decide +kernel
theorem dX11_init_113 : decode cX11_init 113 = .ok (.aload_n 0, 1) := by decide +kernel
theorem dX11_init_114 : decode cX11_init 114 = .ok (.getfield 59, 3) := by decide +kernel
theorem dX11_init_117 : decode cX11_init 117 = .ok (.invokespecial 65, 3) := by decide +kernel
theorem dX11_init_120 : decode cX11_init 120 = .ok (.putfield 68, 3) := by decide +kernel
theorem dX11_init_123 : decode cX11_init 123 = .ok (.aload_n 0, 1) := by decide +kernel
theorem dX11_init_124 : decode cX11_init 124 = .ok (.new 72, 3) := by decide +kernel
theorem dX11_init_127 : decode cX11_init 127 = .ok (.dup, 1) := by decide +kernel
theorem dX11_init_128 : decode cX11_init 128 = .ok (.invokespecial 74, 3) := by decide +kernel
theorem dX11_init_131 : decode cX11_init 131 = .ok (.putfield 75, 3) := by decide +kernel
theorem dX11_init_134 : decode cX11_init 134 = .ok (.aload_n 0, 1) := by decide +kernel
theorem dX11_init_135 : decode cX11_init 135 = .ok (.new 79, 3) := by decide +kernel
theorem dX11_init_138 : decode cX11_init 138 = .ok (.dup, 1) := by decide +kernel
theorem dX11_init_139 : decode cX11_init 139 = .ok (.invokespecial 81, 3) := by decide +kernel
theorem dX11_init_142 : decode cX11_init 142 = .ok (.putfield 82, 3) := by decide +kernel
theorem dX11_init_145 : decode cX11_init 145 = .ok (.aload_n 0, 1) := by decide +kernel
theorem dX11_init_146 : decode cX11_init 146 = .ok (.new 86, 3) := by decide +kernel
theorem dX11_init_149 : decode cX11_init 149 = .ok (.dup, 1) := by decide +kernel
theorem dX11_init_150 : decode cX11_init 150 = .ok (.invokespecial 88, 3) := by decide +kernel
theorem dX11_init_153 : decode cX11_init 153 = .ok (.putfield 89, 3) := by decide +kernel
theorem dX11_init_156 : decode cX11_init 156 = .ok (.aload_n 0, 1) := by decide +kernel
theorem dX11_init_157 : decode cX11_init 157 = .ok (.new 93, 3) := by decide +kernel
theorem dX11_init_160 : decode cX11_init 160 = .ok (.dup, 1) := by decide +kernel
theorem dX11_init_161 : decode cX11_init 161 = .ok (.invokespecial 95, 3) := by decide +kernel
theorem dX11_init_164 : decode cX11_init 164 = .ok (.putfield 96, 3) := by decide +kernel
theorem dX11_init_167 : decode cX11_init 167 = .ok (.iconst 0, 1) := by decide +kernel
theorem dX11_init_168 : decode cX11_init 168 = .ok (.istore_n 1, 1) := by decide +kernel
theorem dX11_init_169 : decode cX11_init 169 = .ok (.iload_n 1, 1) := by decide +kernel
theorem dX11_init_170 : decode cX11_init 170 = .ok (.aload_n 0, 1) := by decide +kernel
theorem dX11_init_171 : decode cX11_init 171 = .ok (.getfield 18, 3) := by decide +kernel
theorem dX11_init_174 : decode cX11_init 174 = .ok (.arraylength, 1) := by decide +kernel
theorem dX11_init_175 : decode cX11_init 175 = .ok (.if_icmp .ge 22, 3) := by decide +kernel
theorem dX11_init_178 : decode cX11_init 178 = .ok (.aload_n 0, 1) := by decide +kernel
theorem dX11_init_179 : decode cX11_init 179 = .ok (.getfield 18, 3) := by decide +kernel
theorem dX11_init_182 : decode cX11_init 182 = .ok (.iload_n 1, 1) := by decide +kernel
theorem dX11_init_183 : decode cX11_init 183 = .ok (.new 16, 3) := by decide +kernel
theorem dX11_init_186 : decode cX11_init 186 = .ok (.dup, 1) := by decide +kernel
theorem dX11_init_187 : decode cX11_init 187 = .ok (.invokespecial 22, 3) := by decide +kernel
theorem dX11_init_190 : decode cX11_init 190 = .ok (.aastore, 1) := by decide +kernel
theorem dX11_init_191 : decode cX11_init 191 = .ok (.iinc 1 1, 3) := by decide +kernel
theorem dX11_init_194 : decode cX11_init 194 = .ok (.goto (-25), 3) := by decide +kernel
theorem dX11_init_197 : decode cX11_init 197 = .ok (.aload_n 0, 1) := by decide +kernel
theorem dX11_init_198 : decode cX11_init 198 = .ok (.getfield 12, 3) := by decide +kernel
theorem dX11_init_201 : decode cX11_init 201 = .ok (.iconst 4, 1) := by decide +kernel
theorem dX11_init_202 : decode cX11_init 202 = .ok (.invokevirtual 100, 3) := by decide +kernel
theorem dX11_init_205 : decode cX11_init 205 = .ok (.return_, 1) := by decide +kernel
set_option maxRecDepth 20000 in
theorem ggX11_ground_X11_checkRange : GoodIn wsX11_ground wsX11_checkRange := goodIn_ca (goodIn_r _ [7, 8, 9] (by decide +kernel) (by decide +kernel)) (goodIn_sub (fun _ h => List.mem_cons_of_mem _ (List.mem_append_right _ h)) (by decide +kernel))
set_option maxRecDepth 20000 in
theorem gX11_ground_X11_checkRange : GoodIn wsX11_ground (wsV RX11 104 RX11 yX11_checkRange wsX11_checkRange) := goodIn_app (goodIn_of _ (by decide +kernel)) ggX11_ground_X11_checkRange
set_option maxRecDepth 20000 in
theorem ggX11_ground_X3_begin : GoodIn wsX11_ground wsX3_begin := goodIn_r _ [14, 15, 16, 17, 18, 19, 20, 13, 21, 38, 39, 40] (by decide +kernel) (by decide +kernel)
set_option maxRecDepth 20000 in
theorem gX11_ground_X3_begin : GoodIn wsX11_ground (wsV RX11 100 RX3 yX3_begin wsX3_begin) := goodIn_app (goodIn_of _ (by decide +kernel)) ggX11_ground_X3_begin
set_option maxRecDepth 20000 in
theorem ggX11_ground_X3_howManySets : GoodIn wsX11_ground wsX3_howManySets := goodIn_r _ [21, 15, 38, 39, 40] (by decide +kernel) (by decide +kernel)
set_option maxRecDepth 20000 in
theorem gX11_ground_X3_howManySets : GoodIn wsX11_ground (wsV RX11 112 RX3 yX3_howManySets wsX3_howManySets) := goodIn_app (goodIn_of _ (by decide +kernel)) ggX11_ground_X3_howManySets
theorem dX11_ground_0 : decode cX11_ground 0 = .ok (.aload_n 0, 1) := by decide +kernel
theorem dX11_ground_1 : decode cX11_ground 1 = .ok (.iload_n 1, 1) := by decide +kernel
theorem dX11_ground_2 : decode cX11_ground 2 = .ok (.iconst 2, 1) := by decide +kernel
theorem dX11_ground_3 : decode cX11_ground 3 = .ok (.bipush 7, 2) := by decide +kernel
theorem dX11_ground_5 : decode cX11_ground 5 = .ok (.invokevirtual 104, 3) := by decide +kernel
theorem dX11_ground_8 : decode cX11_ground 8 = .ok (.aload_n 0, 1) := by decide +kernel
theorem dX11_ground_9 : decode cX11_ground 9 = .ok (.getfield 12, 3) := by decide +kernel
theorem dX11_ground_12 : decode cX11_ground 12 = .ok (.iload_n 1, 1) := by decide +kernel
theorem dX11_ground_13 : decode cX11_ground 13 = .ok (.invokevirtual 100, 3) := by decide +kernel
theorem dX11_ground_16 : decode cX11_ground 16 = .ok (.aload_n 0, 1) := by decide +kernel
theorem dX11_ground_17 : decode cX11_ground 17 = .ok (.iconst 0, 1) := by decide +kernel
theorem dX11_ground_18 : decode cX11_ground 18 = .ok (.putfield 108, 3) := by decide +kernel
theorem dX11_ground_21 : decode cX11_ground 21 = .ok (.aload_n 0, 1) := by decide +kernel
theorem dX11_ground_22 : decode cX11_ground 22 = .ok (.getfield 12, 3) := by decide +kernel
theorem dX11_ground_25 : decode cX11_ground 25 = .ok (.invokevirtual 112, 3) := by decide +kernel
theorem dX11_ground_28 : decode cX11_ground 28 = .ok (.ireturn, 1) := by decide +kernel
set_option maxRecDepth 20000 in
theorem ggX11_die_X11_checkPoint : GoodIn wsX11_die wsX11_checkPoint := goodIn_ca (goodIn_r _ [6, 7, 8, 1, 9, 10, 11, 12, 13, 14, 15, 35, 36, 37, 38, 39, 40, 41, 42, 43, 44, 45, 46, 47, 48, 49, 50, 51, 52] (by decide +kernel) (by decide +kernel)) (goodIn_sub (fun _ h => List.mem_cons_of_mem _ (List.mem_append_right _ h)) (by decide +kernel))
set_option maxRecDepth 20000 in
theorem gX11_die_X11_checkPoint : GoodIn wsX11_die (wsV RX11 116 RX11 yX11_checkPoint wsX11_checkPoint) := goodIn_app (goodIn_of _ (by decide +kernel)) ggX11_die_X11_checkPoint
set_option maxRecDepth 20000 in
theorem ggX11_die_X3_tellDeath : GoodIn wsX11_die wsX3_tellDeath := goodIn_r _ [19, 20, 21, 10, 11, 12, 13, 14, 15, 50, 51, 52] (by decide +kernel) (by decide +kernel)
set_option maxRecDepth 20000 in
theorem gX11_die_X3_tellDeath : GoodIn wsX11_die (wsV RX11 127 RX3 yX3_tellDeath wsX3_tellDeath) := goodIn_app (goodIn_of _ (by decide +kernel)) ggX11_die_X3_tellDeath
set_option maxRecDepth 20000 in
theorem ggX11_die_X3_howManyAlive : GoodIn wsX11_die wsX3_howManyAlive := goodIn_r _ [25, 20, 26, 5, 27, 28, 29, 30, 31, 32, 33, 34, 50, 51, 52] (by decide +kernel) (by decide +kernel)
set_option maxRecDepth 20000 in
theorem gX11_die_X3_howManyAlive : GoodIn wsX11_die (wsV RX11 131 RX3 yX3_howManyAlive wsX3_howManyAlive) := goodIn_app (goodIn_of _ (by decide +kernel)) ggX11_die_X3_howManyAlive
theorem dX11_die_0 : decode cX11_die 0 = .ok (.aload_n 0, 1) := by decide +kernel
theorem dX11_die_1 : decode cX11_die 1 = .ok (.iload_n 1, 1) := by decide +kernel
theorem dX11_die_2 : decode cX11_die 2 = .ok (.invokevirtual 116, 3) := by decide +kernel
theorem dX11_die_5 : decode cX11_die 5 = .ok (.aload_n 0, 1) := by decide +kernel
theorem dX11_die_6 : decode cX11_die 6 = .ok (.getfield 12, 3) := by decide +kernel
theorem dX11_die_9 : decode cX11_die 9 = .ok (.iload_n 1, 1) := by decide +kernel
theorem dX11_die_10 : decode cX11_die 10 = .ok (.iload_n 2, 1) := by decide +kernel
theorem dX11_die_11 : decode cX11_die 11 = .ok (.invokevirtual 127, 3) := by decide +kernel
theorem dX11_die_14 : decode cX11_die 14 = .ok (.aload_n 0, 1) := by decide +kernel
theorem dX11_die_15 : decode cX11_die 15 = .ok (.getfield 12, 3) := by decide +kernel
theorem dX11_die_18 : decode cX11_die 18 = .ok (.invokevirtual 131, 3) := by decide +kernel
theorem dX11_die_21 : decode cX11_die 21 = .ok (.ireturn, 1) := by decide +kernel
set_option maxRecDepth 20000 in
theorem ggX11_family_X11_checkRoom : GoodIn wsX11_family wsX11_checkRoom := goodIn_ca (goodIn_r _ [6, 7, 8, 9, 41, 42, 43, 44, 45, 46, 47, 48, 49, 50, 51, 52, 53, 54, 55] (by decide +kernel) (by decide +kernel)) (goodIn_sub (fun _ h => List.mem_cons_of_mem _ (List.mem_append_right _ h)) (by decide +kernel))
set_option maxRecDepth 20000 in
theorem gX11_family_X11_checkRoom : GoodIn wsX11_family (wsV RX11 134 RX11 yX11_checkRoom wsX11_checkRoom) := goodIn_app (goodIn_of _ (by decide +kernel)) ggX11_family_X11_checkRoom
set_option maxRecDepth 20000 in
theorem ggX11_family_X7_clear : GoodIn wsX11_family wsX7_clear := goodIn_r _ [14, 15, 16, 56, 57, 58] (by decide +kernel) (by decide +kernel)
set_option maxRecDepth 20000 in
theorem gX11_family_X7_clear : GoodIn wsX11_family (wsV RX11 137 RX7 yX7_clear wsX7_clear) := goodIn_app (goodIn_of _ (by decide +kernel)) ggX11_family_X7_clear
set_option maxRecDepth 20000 in
theorem ggX11_family_X11_keep : GoodIn wsX11_family wsX11_keep := goodIn_r _ [20, 9, 21, 22, 23, 24, 13, 25, 16, 26, 27, 28, 29, 30, 11, 12, 14, 15, 31, 32, 33, 34, 35, 36, 37, 38, 39, 40, 41, 42, 43, 44, 45, 46, 47, 48, 49, 50, 51, 52, 53, 54, 55, 56, 57, 58] (by decide +kernel) (by decide +kernel)
set_option maxRecDepth 20000 in
theorem gX11_family_X11_keep : GoodIn wsX11_family (wsV RX11 140 RX11 yX11_keep wsX11_keep) := goodIn_app (goodIn_of _ (by decide +kernel)) ggX11_family_X11_keep
theorem dX11_family_0 : decode cX11_family 0 = .ok (.aload_n 0, 1) := by decide +kernel
theorem dX11_family_1 : decode cX11_family 1 = .ok (.invokevirtual 134, 3) := by decide +kernel
theorem dX11_family_4 : decode cX11_family 4 = .ok (.aload_n 0, 1) := by decide +kernel
theorem dX11_family_5 : decode cX11_family 5 = .ok (.getfield 30, 3) := by decide +kernel
theorem dX11_family_8 : decode cX11_family 8 = .ok (.invokevirtual 137, 3) := by decide +kernel
theorem dX11_family_11 : decode cX11_family 11 = .ok (.aload_n 0, 1) := by decide +kernel
theorem dX11_family_12 : decode cX11_family 12 = .ok (.aload_n 0, 1) := by decide +kernel
theorem dX11_family_13 : decode cX11_family 13 = .ok (.getfield 30, 3) := by decide +kernel
theorem dX11_family_16 : decode cX11_family 16 = .ok (.invokevirtual 140, 3) := by decide +kernel
theorem dX11_family_19 : decode cX11_family 19 = .ok (.ireturn, 1) := by decide +kernel
set_option maxRecDepth 20000 in
theorem ggX11_game_X11_partsOf : GoodIn wsX11_game wsX11_partsOf := goodIn_ca (goodIn_r _ [7, 8, 9, 2, 10, 11, 12, 6, 13, 14, 15, 16, 17, 18, 19, 20, 21, 22, 23, 24, 25, 26, 27, 28, 29, 30, 31, 32, 33, 34, 35, 36, 37, 38, 39, 40, 41, 42, 43, 44, 45, 46, 47, 48, 86, 87, 88, 89, 90, 91, 92, 93, 94, 95, 96, 97, 98, 99, 100, 101, 102, 103, 104, 105, 106] (by decide +kernel) (by decide +kernel)) (goodIn_sub (fun _ h => List.mem_cons_of_mem _ (List.mem_append_right _ h)) (by decide +kernel))
set_option maxRecDepth 20000 in
theorem gX11_game_X11_partsOf : GoodIn wsX11_game (wsV RX11 168 RX11 yX11_partsOf wsX11_partsOf) := goodIn_app (goodIn_of _ (by decide +kernel)) ggX11_game_X11_partsOf
set_option maxRecDepth 20000 in
theorem ggX11_game_X3_alive : GoodIn wsX11_game wsX3_alive := goodIn_r _ [22, 23, 101, 102, 103] (by decide +kernel) (by decide +kernel)
set_option maxRecDepth 20000 in
theorem gX11_game_X3_alive : GoodIn wsX11_game (wsV RX11 171 RX3 yX3_alive wsX3_alive) := goodIn_app (goodIn_of _ (by decide +kernel)) ggX11_game_X3_alive
set_option maxRecDepth 20000 in
theorem ggX11_game_X5_winningPoint : GoodIn wsX11_game wsX5_winningPoint := goodIn_r _ [53, 54, 55, 56, 52, 57, 58, 59, 6, 60, 61, 62, 63, 32, 64, 35, 65, 41, 42, 43, 44, 66, 67, 68, 69, 70, 71, 72, 73, 74, 75, 76, 77, 78, 79, 80, 81, 82, 83, 84, 85, 107, 108, 109, 110, 111, 104, 105, 106] (by decide +kernel) (by decide +kernel)
set_option maxRecDepth 20000 in
theorem gX11_game_X5_winningPoint : GoodIn wsX11_game (wsV RX11 265 RX5 yX5_winningPoint wsX5_winningPoint) := goodIn_app (goodIn_of _ (by decide +kernel)) ggX11_game_X5_winningPoint
theorem dX11_game_0 : decode cX11_game 0 = .ok (.aload_n 0, 1) := by decide +kernel
theorem dX11_game_1 : decode cX11_game 1 = .ok (.getfield 52, 3) := by decide +kernel
theorem dX11_game_4 : decode cX11_game 4 = .ok (.aload_n 0, 1) := by decide +kernel
theorem dX11_game_5 : decode cX11_game 5 = .ok (.iload_n 1, 1) := by decide +kernel
theorem dX11_game_6 : decode cX11_game 6 = .ok (.invokevirtual 168, 3) := by decide +kernel
theorem dX11_game_9 : decode cX11_game 9 = .ok (.aload_n 0, 1) := by decide +kernel
theorem dX11_game_10 : decode cX11_game 10 = .ok (.getfield 12, 3) := by decide +kernel
theorem dX11_game_13 : decode cX11_game 13 = .ok (.invokevirtual 171, 3) := by decide +kernel
theorem dX11_game_16 : decode cX11_game 16 = .ok (.invokevirtual 265, 3) := by decide +kernel
theorem dX11_game_19 : decode cX11_game 19 = .ok (.ireturn, 1) := by decide +kernel
theorem dX11_familyOf_0 : decode cX11_familyOf 0 = .ok (.iload_n 1, 1) := by decide +kernel
theorem dX11_familyOf_1 : decode cX11_familyOf 1 = .ok (.ifCond .lt 20, 3) := by decide +kernel
theorem dX11_familyOf_4 : decode cX11_familyOf 4 = .ok (.iload_n 1, 1) := by decide +kernel
theorem dX11_familyOf_5 : decode cX11_familyOf 5 = .ok (.aload_n 0, 1) := by decide +kernel
theorem dX11_familyOf_6 : decode cX11_familyOf 6 = .ok (.getfield 108, 3) := by decide +kernel
theorem dX11_familyOf_9 : decode cX11_familyOf 9 = .ok (.if_icmp .ge 12, 3) := by decide +kernel
theorem dX11_familyOf_12 : decode cX11_familyOf 12 = .ok (.iload_n 1, 1) := by decide +kernel
theorem dX11_familyOf_13 : decode cX11_familyOf 13 = .ok (.aload_n 0, 1) := by decide +kernel
theorem dX11_familyOf_14 : decode cX11_familyOf 14 = .ok (.getfield 18, 3) := by decide +kernel
theorem dX11_familyOf_17 : decode cX11_familyOf 17 = .ok (.arraylength, 1) := by decide +kernel
theorem dX11_familyOf_18 : decode cX11_familyOf 18 = .ok (.if_icmp .lt 14, 3) := by decide +kernel
theorem dX11_familyOf_21 : decode cX11_familyOf 21 = .ok (.new 386, 3) := by decide +kernel
theorem dX11_familyOf_24 : decode cX11_familyOf 24 = .ok (.dup, 1) := by decide +kernel
theorem dX11_familyOf_25 : decode cX11_familyOf 25 = .ok (.ldc_w 388, 3) := by decide +kernel
theorem dX11_familyOf_28 : decode cX11_familyOf 28 = .ok (.invokespecial 390, 3) := by decide +kernel
theorem dX11_familyOf_31 : decode cX11_familyOf 31 = .ok (.athrow, 1) := by decide +kernel
theorem dX11_familyOf_32 : decode cX11_familyOf 32 = .ok (.aload_n 0, 1) := by decide +kernel
theorem dX11_familyOf_33 : decode cX11_familyOf 33 = .ok (.getfield 18, 3) := by decide +kernel
theorem dX11_familyOf_36 : decode cX11_familyOf 36 = .ok (.iload_n 1, 1) := by decide +kernel
theorem dX11_familyOf_37 : decode cX11_familyOf 37 = .ok (.aaload, 1) := by decide +kernel
theorem dX11_familyOf_38 : decode cX11_familyOf 38 = .ok (.areturn, 1) := by decide +kernel
set_option maxRecDepth 20000 in
theorem ggX11_partsOf_X11_familyOf : GoodIn wsX11_partsOf wsX11_familyOf := goodIn_ca (goodIn_r _ [8, 9, 10, 11, 12, 44, 45, 46, 47, 48, 49, 50, 51, 52, 53, 54, 55, 56, 57, 58] (by decide +kernel) (by decide +kernel)) (goodIn_sub (fun _ h => List.mem_cons_of_mem _ (List.mem_append_right _ h)) (by decide +kernel))
set_option maxRecDepth 20000 in
theorem gX11_partsOf_X11_familyOf : GoodIn wsX11_partsOf (wsV RX11 144 RX11 yX11_familyOf wsX11_familyOf) := goodIn_app (goodIn_of _ (by decide +kernel)) ggX11_partsOf_X11_familyOf
set_option maxRecDepth 20000 in
theorem ggX11_partsOf_X3_alive : GoodIn wsX11_partsOf wsX3_alive := goodIn_r _ [17, 18, 59, 60, 61] (by decide +kernel) (by decide +kernel)
set_option maxRecDepth 20000 in
theorem gX11_partsOf_X3_alive : GoodIn wsX11_partsOf (wsV RX11 171 RX3 yX3_alive wsX3_alive) := goodIn_app (goodIn_of _ (by decide +kernel)) ggX11_partsOf_X3_alive
set_option maxRecDepth 20000 in
theorem ggX11_partsOf_X1_partsInto : GoodIn wsX11_partsOf wsX1_partsInto := goodIn_r _ [23, 24, 25, 26, 27, 28, 29, 30, 31, 32, 33, 34, 35, 36, 37, 38, 39, 40, 41, 42, 43, 62, 63, 64] (by decide +kernel) (by decide +kernel)
set_option maxRecDepth 20000 in
theorem gX11_partsOf_X1_partsInto : GoodIn wsX11_partsOf (wsV RX11 391 RX1 yX1_partsInto wsX1_partsInto) := goodIn_app (goodIn_of _ (by decide +kernel)) ggX11_partsOf_X1_partsInto
theorem dX11_partsOf_0 : decode cX11_partsOf 0 = .ok (.aload_n 0, 1) := by decide +kernel
theorem dX11_partsOf_1 : decode cX11_partsOf 1 = .ok (.getfield 68, 3) := by decide +kernel
theorem dX11_partsOf_4 : decode cX11_partsOf 4 = .ok (.aload_n 0, 1) := by decide +kernel
theorem dX11_partsOf_5 : decode cX11_partsOf 5 = .ok (.getfield 23, 3) := by decide +kernel
theorem dX11_partsOf_8 : decode cX11_partsOf 8 = .ok (.aload_n 0, 1) := by decide +kernel
theorem dX11_partsOf_9 : decode cX11_partsOf 9 = .ok (.iload_n 1, 1) := by decide +kernel
theorem dX11_partsOf_10 : decode cX11_partsOf 10 = .ok (.invokevirtual 144, 3) := by decide +kernel
theorem dX11_partsOf_13 : decode cX11_partsOf 13 = .ok (.aload_n 0, 1) := by decide +kernel
theorem dX11_partsOf_14 : decode cX11_partsOf 14 = .ok (.getfield 12, 3) := by decide +kernel
theorem dX11_partsOf_17 : decode cX11_partsOf 17 = .ok (.invokevirtual 171, 3) := by decide +kernel
theorem dX11_partsOf_20 : decode cX11_partsOf 20 = .ok (.invokevirtual 391, 3) := by decide +kernel
theorem dX11_partsOf_23 : decode cX11_partsOf 23 = .ok (.aload_n 0, 1) := by decide +kernel
theorem dX11_partsOf_24 : decode cX11_partsOf 24 = .ok (.getfield 23, 3) := by decide +kernel
theorem dX11_partsOf_27 : decode cX11_partsOf 27 = .ok (.areturn, 1) := by decide +kernel
set_option maxRecDepth 20000 in
theorem ggX11_checkPoint_X3_knows : GoodIn wsX11_checkPoint wsX3_knows := goodIn_r _ [8, 9, 10, 26, 27, 28] (by decide +kernel) (by decide +kernel)
set_option maxRecDepth 20000 in
theorem gX11_checkPoint_X3_knows : GoodIn wsX11_checkPoint (wsV RX11 394 RX3 yX3_knows wsX3_knows) := goodIn_app (goodIn_of _ (by decide +kernel)) ggX11_checkPoint_X3_knows
theorem dX11_checkPoint_0 : decode cX11_checkPoint 0 = .ok (.aload_n 0, 1) := by decide +kernel
theorem dX11_checkPoint_1 : decode cX11_checkPoint 1 = .ok (.getfield 12, 3) := by decide +kernel
theorem dX11_checkPoint_4 : decode cX11_checkPoint 4 = .ok (.iload_n 1, 1) := by decide +kernel
theorem dX11_checkPoint_5 : decode cX11_checkPoint 5 = .ok (.invokevirtual 394, 3) := by decide +kernel
theorem dX11_checkPoint_8 : decode cX11_checkPoint 8 = .ok (.ifCond .ne 14, 3) := by decide +kernel
theorem dX11_checkPoint_11 : decode cX11_checkPoint 11 = .ok (.new 386, 3) := by decide +kernel
theorem dX11_checkPoint_14 : decode cX11_checkPoint 14 = .ok (.dup, 1) := by decide +kernel
theorem dX11_checkPoint_15 : decode cX11_checkPoint 15 = .ok (.ldc_w 397, 3) := by decide +kernel
theorem dX11_checkPoint_18 : decode cX11_checkPoint 18 = .ok (.invokespecial 390, 3) := by decide +kernel
theorem dX11_checkPoint_21 : decode cX11_checkPoint 21 = .ok (.athrow, 1) := by decide +kernel
theorem dX11_checkPoint_22 : decode cX11_checkPoint 22 = .ok (.return_, 1) := by decide +kernel
theorem dX11_checkRange_0 : decode cX11_checkRange 0 = .ok (.iload_n 1, 1) := by decide +kernel
theorem dX11_checkRange_1 : decode cX11_checkRange 1 = .ok (.iload_n 2, 1) := by decide +kernel
theorem dX11_checkRange_2 : decode cX11_checkRange 2 = .ok (.if_icmp .lt 8, 3) := by decide +kernel
theorem dX11_checkRange_5 : decode cX11_checkRange 5 = .ok (.iload_n 1, 1) := by decide +kernel
theorem dX11_checkRange_6 : decode cX11_checkRange 6 = .ok (.iload_n 3, 1) := by decide +kernel
theorem dX11_checkRange_7 : decode cX11_checkRange 7 = .ok (.if_icmp .le 14, 3) := by decide +kernel
theorem dX11_checkRange_10 : decode cX11_checkRange 10 = .ok (.new 213, 3) := by decide +kernel
theorem dX11_checkRange_13 : decode cX11_checkRange 13 = .ok (.dup, 1) := by decide +kernel
theorem dX11_checkRange_14 : decode cX11_checkRange 14 = .ok (.ldc_w 399, 3) := by decide +kernel
theorem dX11_checkRange_17 : decode cX11_checkRange 17 = .ok (.invokespecial 217, 3) := by decide +kernel
theorem dX11_checkRange_20 : decode cX11_checkRange 20 = .ok (.athrow, 1) := by decide +kernel
theorem dX11_checkRange_21 : decode cX11_checkRange 21 = .ok (.return_, 1) := by decide +kernel
theorem dX11_checkRoom_0 : decode cX11_checkRoom 0 = .ok (.aload_n 0, 1) := by decide +kernel
theorem dX11_checkRoom_1 : decode cX11_checkRoom 1 = .ok (.getfield 108, 3) := by decide +kernel
theorem dX11_checkRoom_4 : decode cX11_checkRoom 4 = .ok (.iconst 5, 1) := by decide +kernel
theorem dX11_checkRoom_5 : decode cX11_checkRoom 5 = .ok (.if_icmp .lt 14, 3) := by decide +kernel
theorem dX11_checkRoom_8 : decode cX11_checkRoom 8 = .ok (.new 158, 3) := by decide +kernel
theorem dX11_checkRoom_11 : decode cX11_checkRoom 11 = .ok (.dup, 1) := by decide +kernel
theorem dX11_checkRoom_12 : decode cX11_checkRoom 12 = .ok (.ldc_w 401, 3) := by decide +kernel
theorem dX11_checkRoom_15 : decode cX11_checkRoom 15 = .ok (.invokespecial 162, 3) := by decide +kernel
theorem dX11_checkRoom_18 : decode cX11_checkRoom 18 = .ok (.athrow, 1) := by decide +kernel
theorem dX11_checkRoom_19 : decode cX11_checkRoom 19 = .ok (.return_, 1) := by decide +kernel
set_option maxRecDepth 20000 in
theorem ggX11_keep_X7_many : GoodIn wsX11_keep wsX7_many := goodIn_r _ [7, 8, 43, 44, 45] (by decide +kernel) (by decide +kernel)
set_option maxRecDepth 20000 in
theorem gX11_keep_X7_many : GoodIn wsX11_keep (wsV RX11 155 RX7 yX7_many wsX7_many) := goodIn_app (goodIn_of _ (by decide +kernel)) ggX11_keep_X7_many
set_option maxRecDepth 20000 in
theorem ggX11_keep_X7_copy : GoodIn wsX11_keep wsX7_copy := goodIn_r _ [12, 13, 14, 15, 6, 16, 17, 8, 18, 4, 5, 7, 19, 20, 21, 22, 23, 24, 25, 26, 27, 43, 44, 45] (by decide +kernel) (by decide +kernel)
set_option maxRecDepth 20000 in
theorem gX11_keep_X7_copy : GoodIn wsX11_keep (wsV RX11 403 RX7 yX7_copy wsX7_copy) := goodIn_app (goodIn_of _ (by decide +kernel)) ggX11_keep_X7_copy
theorem dX11_keep_0 : decode cX11_keep 0 = .ok (.aload_n 0, 1) := by decide +kernel
theorem dX11_keep_1 : decode cX11_keep 1 = .ok (.getfield 108, 3) := by decide +kernel
theorem dX11_keep_4 : decode cX11_keep 4 = .ok (.ifCond .lt 24, 3) := by decide +kernel
theorem dX11_keep_7 : decode cX11_keep 7 = .ok (.aload_n 0, 1) := by decide +kernel
theorem dX11_keep_8 : decode cX11_keep 8 = .ok (.getfield 108, 3) := by decide +kernel
theorem dX11_keep_11 : decode cX11_keep 11 = .ok (.aload_n 0, 1) := by decide +kernel
theorem dX11_keep_12 : decode cX11_keep 12 = .ok (.getfield 18, 3) := by decide +kernel
theorem dX11_keep_15 : decode cX11_keep 15 = .ok (.arraylength, 1) := by decide +kernel
theorem dX11_keep_16 : decode cX11_keep 16 = .ok (.if_icmp .ge 12, 3) := by decide +kernel
theorem dX11_keep_19 : decode cX11_keep 19 = .ok (.aload_n 1, 1) := by decide +kernel
theorem dX11_keep_20 : decode cX11_keep 20 = .ok (.invokevirtual 155, 3) := by decide +kernel
theorem dX11_keep_23 : decode cX11_keep 23 = .ok (.bipush 40, 2) := by decide +kernel
theorem dX11_keep_25 : decode cX11_keep 25 = .ok (.if_icmp .le 6, 3) := by decide +kernel
theorem dX11_keep_28 : decode cX11_keep 28 = .ok (.bipush (-2), 2) := by decide +kernel
theorem dX11_keep_30 : decode cX11_keep 30 = .ok (.ireturn, 1) := by decide +kernel
theorem dX11_keep_31 : decode cX11_keep 31 = .ok (.aload_n 0, 1) := by decide +kernel
theorem dX11_keep_32 : decode cX11_keep 32 = .ok (.getfield 18, 3) := by decide +kernel
theorem dX11_keep_35 : decode cX11_keep 35 = .ok (.aload_n 0, 1) := by decide +kernel
theorem dX11_keep_36 : decode cX11_keep 36 = .ok (.getfield 108, 3) := by decide +kernel
theorem dX11_keep_39 : decode cX11_keep 39 = .ok (.aaload, 1) := by decide +kernel
theorem dX11_keep_40 : decode cX11_keep 40 = .ok (.aload_n 1, 1) := by decide +kernel
theorem dX11_keep_41 : decode cX11_keep 41 = .ok (.invokevirtual 403, 3) := by decide +kernel
theorem dX11_keep_44 : decode cX11_keep 44 = .ok (.aload_n 0, 1) := by decide +kernel
theorem dX11_keep_45 : decode cX11_keep 45 = .ok (.dup, 1) := by decide +kernel
theorem dX11_keep_46 : decode cX11_keep 46 = .ok (.getfield 108, 3) := by decide +kernel
theorem dX11_keep_49 : decode cX11_keep 49 = .ok (.iconst 1, 1) := by decide +kernel
theorem dX11_keep_50 : decode cX11_keep 50 = .ok (.iadd, 1) := by decide +kernel
theorem dX11_keep_51 : decode cX11_keep 51 = .ok (.putfield 108, 3) := by decide +kernel
theorem dX11_keep_54 : decode cX11_keep 54 = .ok (.aload_n 0, 1) := by decide +kernel
theorem dX11_keep_55 : decode cX11_keep 55 = .ok (.getfield 108, 3) := by decide +kernel
theorem dX11_keep_58 : decode cX11_keep 58 = .ok (.iconst 1, 1) := by decide +kernel
theorem dX11_keep_59 : decode cX11_keep 59 = .ok (.isub, 1) := by decide +kernel
theorem dX11_keep_60 : decode cX11_keep 60 = .ok (.ireturn, 1) := by decide +kernel
set_option maxRecDepth 20000 in
theorem ggX11_sizeOf_J6_bitCount_0f7a4 : GoodIn wsX11_sizeOf wsJ6_bitCount_0f7a4 := goodIn_r _ [4, 5, 6, 7] (by decide +kernel) (by decide +kernel)
set_option maxRecDepth 20000 in
theorem gX11_sizeOf_J6_bitCount_0f7a4 : GoodIn wsX11_sizeOf (va_wsS RX11 487 yJ6_bitCount_0f7a4 wsJ6_bitCount_0f7a4) := goodIn_app (goodIn_of _ (by decide +kernel)) ggX11_sizeOf_J6_bitCount_0f7a4
theorem dX11_sizeOf_0 : decode cX11_sizeOf 0 = .ok (.iload_n 0, 1) := by decide +kernel
theorem dX11_sizeOf_1 : decode cX11_sizeOf 1 = .ok (.invokestatic 487, 3) := by decide +kernel
theorem dX11_sizeOf_4 : decode cX11_sizeOf 4 = .ok (.ireturn, 1) := by decide +kernel
theorem dX11_isIn_0 : decode cX11_isIn 0 = .ok (.iload_n 0, 1) := by decide +kernel
theorem dX11_isIn_1 : decode cX11_isIn 1 = .ok (.iload_n 1, 1) := by decide +kernel
theorem dX11_isIn_2 : decode cX11_isIn 2 = .ok (.iconst (-1), 1) := by decide +kernel
theorem dX11_isIn_3 : decode cX11_isIn 3 = .ok (.ixor, 1) := by decide +kernel
theorem dX11_isIn_4 : decode cX11_isIn 4 = .ok (.iand, 1) := by decide +kernel
theorem dX11_isIn_5 : decode cX11_isIn 5 = .ok (.ifCond .ne 7, 3) := by decide +kernel
theorem dX11_isIn_8 : decode cX11_isIn 8 = .ok (.iconst 1, 1) := by decide +kernel
theorem dX11_isIn_9 : decode cX11_isIn 9 = .ok (.goto 4, 3) := by decide +kernel
theorem dX11_isIn_12 : decode cX11_isIn 12 = .ok (.iconst 0, 1) := by decide +kernel
theorem dX11_isIn_13 : decode cX11_isIn 13 = .ok (.ireturn, 1) := by decide +kernel
theorem dX12_init_0 : decode cX12_init 0 = .ok (.aload_n 0, 1) := by decide +kernel
theorem dX12_init_1 : decode cX12_init 1 = .ok (.invokespecial 1, 3) := by decide +kernel
theorem dX12_init_4 : decode cX12_init 4 = .ok (.return_, 1) := by decide +kernel
set_option maxRecDepth 20000 in
theorem ggX14_init_Jx4a65c_init_da8c8 : GoodIn wsX14_init wsJx4a65c_init_da8c8 := goodIn_r _ [18, 19, 20, 21, 22, 23, 24, 25, 26, 27, 28, 29, 30, 2, 3, 40, 41, 42] (by decide +kernel) (by decide +kernel)
set_option maxRecDepth 20000 in
theorem gX14_init_Jx4a65c_init_da8c8 : GoodIn wsX14_init (wsJx4a65c_init_da8c8) := ggX14_init_Jx4a65c_init_da8c8
theorem dX14_init_0 : decode cX14_init 0 = .ok (.aload_n 0, 1) := by decide +kernel
theorem dX14_init_1 : decode cX14_init 1 = .ok (.invokespecial 1, 3) := by decide +kernel
theorem dX14_init_4 : decode cX14_init 4 = .ok (.aload_n 0, 1) := by decide +kernel
theorem dX14_init_5 : decode cX14_init 5 = .ok (.iconst 4, 1) := by decide +kernel
theorem dX14_init_6 : decode cX14_init 6 = .ok (.putfield 7, 3) := by decide +kernel
theorem dX14_init_9 : decode cX14_init 9 = .ok (.aload_n 0, 1) := by decide +kernel
theorem dX14_init_10 : decode cX14_init 10 = .ok (.iconst 4, 1) := by decide +kernel
theorem dX14_init_11 : decode cX14_init 11 = .ok (.newarray .int, 2) := by decide +kernel
theorem dX14_init_13 : decode cX14_init 13 = .ok (.dup, 1) := by decide +kernel
theorem dX14_init_14 : decode cX14_init 14 = .ok (.iconst 0, 1) := by decide +kernel
theorem dX14_init_15 : decode cX14_init 15 = .ok (.iconst 1, 1) := by decide +kernel
theorem dX14_init_16 : decode cX14_init 16 = .ok (.iastore, 1) := by decide +kernel
theorem dX14_init_17 : decode cX14_init 17 = .ok (.dup, 1) := by decide +kernel
theorem dX14_init_18 : decode cX14_init 18 = .ok (.iconst 1, 1) := by decide +kernel
theorem dX14_init_19 : decode cX14_init 19 = .ok (.iconst 1, 1) := by decide +kernel
theorem dX14_init_20 : decode cX14_init 20 = .ok (.iastore, 1) := by decide +kernel
theorem dX14_init_21 : decode cX14_init 21 = .ok (.dup, 1) := by decide +kernel
theorem dX14_init_22 : decode cX14_init 22 = .ok (.iconst 2, 1) := by decide +kernel
theorem dX14_init_23 : decode cX14_init 23 = .ok (.iconst 1, 1) := by decide +kernel
theorem dX14_init_24 : decode cX14_init 24 = .ok (.iastore, 1) := by decide +kernel
theorem dX14_init_25 : decode cX14_init 25 = .ok (.dup, 1) := by decide +kernel
theorem dX14_init_26 : decode cX14_init 26 = .ok (.iconst 3, 1) := by decide +kernel
theorem dX14_init_27 : decode cX14_init 27 = .ok (.iconst 1, 1) := by decide +kernel
theorem dX14_init_28 : decode cX14_init 28 = .ok (.iastore, 1) := by decide +kernel
theorem dX14_init_29 : decode cX14_init 29 = .ok (.putfield 13, 3) := by decide +kernel
theorem dX14_init_32 : decode cX14_init 32 = .ok (.aload_n 0, 1) := by decide +kernel
theorem dX14_init_33 : decode cX14_init 33 = .ok (.new 17, 3) := by decide +kernel
theorem dX14_init_36 : decode cX14_init 36 = .ok (.dup, 1) := by decide +kernel
theorem dX14_init_37 : decode cX14_init 37 = .ok (.invokespecial 19, 3) := by decide +kernel
theorem dX14_init_40 : decode cX14_init 40 = .ok (.putfield 20, 3) := by decide +kernel
theorem dX14_init_43 : decode cX14_init 43 = .ok (.aload_n 0, 1) := by decide +kernel
theorem dX14_init_44 : decode cX14_init 44 = .ok (.sipush 128, 3) := by decide +kernel
theorem dX14_init_47 : decode cX14_init 47 = .ok (.newarray .boolean, 2) := by decide +kernel
theorem dX14_init_49 : decode cX14_init 49 = .ok (.putfield 24, 3) := by decide +kernel
theorem dX14_init_52 : decode cX14_init 52 = .ok (.aload_n 0, 1) := by decide +kernel
theorem dX14_init_53 : decode cX14_init 53 = .ok (.sipush 128, 3) := by decide +kernel
theorem dX14_init_56 : decode cX14_init 56 = .ok (.newarray .long, 2) := by decide +kernel
theorem dX14_init_58 : decode cX14_init 58 = .ok (.putfield 28, 3) := by decide +kernel
theorem dX14_init_61 : decode cX14_init 61 = .ok (.aload_n 0, 1) := by decide +kernel
theorem dX14_init_62 : decode cX14_init 62 = .ok (.sipush 128, 3) := by decide +kernel
theorem dX14_init_65 : decode cX14_init 65 = .ok (.newarray .long, 2) := by decide +kernel
theorem dX14_init_67 : decode cX14_init 67 = .ok (.putfield 32, 3) := by decide +kernel
theorem dX14_init_70 : decode cX14_init 70 = .ok (.return_, 1) := by decide +kernel
theorem dX14_thrown_0 : decode cX14_thrown 0 = .ok (.aload_n 0, 1) := by decide +kernel
theorem dX14_thrown_1 : decode cX14_thrown 1 = .ok (.getfield 35, 3) := by decide +kernel
theorem dX14_thrown_4 : decode cX14_thrown 4 = .ok (.ireturn, 1) := by decide +kernel
theorem dX14_is_0 : decode cX14_is 0 = .ok (.iload_n 0, 1) := by decide +kernel
theorem dX14_is_1 : decode cX14_is 1 = .ok (.iload_n 1, 1) := by decide +kernel
theorem dX14_is_2 : decode cX14_is 2 = .ok (.if_icmp .lt 12, 3) := by decide +kernel
theorem dX14_is_5 : decode cX14_is 5 = .ok (.iload_n 0, 1) := by decide +kernel
theorem dX14_is_6 : decode cX14_is 6 = .ok (.iload_n 2, 1) := by decide +kernel
theorem dX14_is_7 : decode cX14_is 7 = .ok (.if_icmp .gt 7, 3) := by decide +kernel
theorem dX14_is_10 : decode cX14_is 10 = .ok (.iconst 1, 1) := by decide +kernel
theorem dX14_is_11 : decode cX14_is 11 = .ok (.goto 4, 3) := by decide +kernel
theorem dX14_is_14 : decode cX14_is 14 = .ok (.iconst 0, 1) := by decide +kernel
theorem dX14_is_15 : decode cX14_is 15 = .ok (.ireturn, 1) := by decide +kernel
set_option maxRecDepth 20000 in
theorem ggX14_isFamily_Jx4a65c_size_8abf5 : GoodIn wsX14_isFamily wsJx4a65c_size_8abf5 := goodIn_r _ [6, 7, 21, 22, 23] (by decide +kernel) (by decide +kernel)
set_option maxRecDepth 20000 in
theorem gX14_isFamily_Jx4a65c_size_8abf5 : GoodIn wsX14_isFamily (wsV RX14 38 RJx4a65c yJx4a65c_size_8abf5 wsJx4a65c_size_8abf5) := goodIn_app (goodIn_of _ (by decide +kernel)) ggX14_isFamily_Jx4a65c_size_8abf5
set_option maxRecDepth 20000 in
theorem ggX14_isFamily_X14_is : GoodIn wsX14_isFamily wsX14_is := goodIn_r _ [11] (by decide +kernel) (by decide +kernel)
set_option maxRecDepth 20000 in
theorem gX14_isFamily_X14_is : GoodIn wsX14_isFamily (va_wsS RX14 42 yX14_is wsX14_is) := goodIn_app (goodIn_of _ (by decide +kernel)) ggX14_isFamily_X14_is
theorem dX14_isFamily_0 : decode cX14_isFamily 0 = .ok (.iload_n 1, 1) := by decide +kernel
theorem dX14_isFamily_1 : decode cX14_isFamily 1 = .ok (.iconst 0, 1) := by decide +kernel
theorem dX14_isFamily_2 : decode cX14_isFamily 2 = .ok (.aload_n 0, 1) := by decide +kernel
theorem dX14_isFamily_3 : decode cX14_isFamily 3 = .ok (.getfield 20, 3) := by decide +kernel
theorem dX14_isFamily_6 : decode cX14_isFamily 6 = .ok (.invokevirtual 38, 3) := by decide +kernel
theorem dX14_isFamily_9 : decode cX14_isFamily 9 = .ok (.iconst 1, 1) := by decide +kernel
theorem dX14_isFamily_10 : decode cX14_isFamily 10 = .ok (.isub, 1) := by decide +kernel
theorem dX14_isFamily_11 : decode cX14_isFamily 11 = .ok (.invokestatic 42, 3) := by decide +kernel
theorem dX14_isFamily_14 : decode cX14_isFamily 14 = .ok (.ireturn, 1) := by decide +kernel
theorem dX14_all_0 : decode cX14_all 0 = .ok (.iconst 1, 1) := by decide +kernel
theorem dX14_all_1 : decode cX14_all 1 = .ok (.aload_n 0, 1) := by decide +kernel
theorem dX14_all_2 : decode cX14_all 2 = .ok (.getfield 7, 3) := by decide +kernel
theorem dX14_all_5 : decode cX14_all 5 = .ok (.ishl, 1) := by decide +kernel
theorem dX14_all_6 : decode cX14_all 6 = .ok (.ireturn, 1) := by decide +kernel
set_option maxRecDepth 20000 in
theorem ggX14_isPoint_X14_is : GoodIn wsX14_isPoint wsX14_is := goodIn_r _ [5] (by decide +kernel) (by decide +kernel)
set_option maxRecDepth 20000 in
theorem gX14_isPoint_X14_is : GoodIn wsX14_isPoint (va_wsS RX14 42 yX14_is wsX14_is) := goodIn_app (goodIn_of _ (by decide +kernel)) ggX14_isPoint_X14_is
theorem dX14_isPoint_0 : decode cX14_isPoint 0 = .ok (.iload_n 1, 1) := by decide +kernel
theorem dX14_isPoint_1 : decode cX14_isPoint 1 = .ok (.iconst 0, 1) := by decide +kernel
theorem dX14_isPoint_2 : decode cX14_isPoint 2 = .ok (.aload_n 0, 1) := by decide +kernel
theorem dX14_isPoint_3 : decode cX14_isPoint 3 = .ok (.getfield 7, 3) := by decide +kernel
theorem dX14_isPoint_6 : decode cX14_isPoint 6 = .ok (.iconst 1, 1) := by decide +kernel
theorem dX14_isPoint_7 : decode cX14_isPoint 7 = .ok (.isub, 1) := by decide +kernel
theorem dX14_isPoint_8 : decode cX14_isPoint 8 = .ok (.invokestatic 42, 3) := by decide +kernel
theorem dX14_isPoint_11 : decode cX14_isPoint 11 = .ok (.ireturn, 1) := by decide +kernel
set_option maxRecDepth 20000 in
theorem ggX14_alive_X14_all : GoodIn wsX14_alive wsX14_all := goodIn_r _ [6, 7, 8, 9, 10, 11, 12, 13, 14, 15, 16] (by decide +kernel) (by decide +kernel)
set_option maxRecDepth 20000 in
theorem gX14_alive_X14_all : GoodIn wsX14_alive (wsV RX14 46 RX14 yX14_all wsX14_all) := goodIn_app (goodIn_of _ (by decide +kernel)) ggX14_alive_X14_all
theorem dX14_alive_0 : decode cX14_alive 0 = .ok (.aload_n 0, 1) := by decide +kernel
theorem dX14_alive_1 : decode cX14_alive 1 = .ok (.invokevirtual 46, 3) := by decide +kernel
theorem dX14_alive_4 : decode cX14_alive 4 = .ok (.iconst 1, 1) := by decide +kernel
theorem dX14_alive_5 : decode cX14_alive 5 = .ok (.isub, 1) := by decide +kernel
theorem dX14_alive_6 : decode cX14_alive 6 = .ok (.aload_n 0, 1) := by decide +kernel
theorem dX14_alive_7 : decode cX14_alive 7 = .ok (.getfield 49, 3) := by decide +kernel
theorem dX14_alive_10 : decode cX14_alive 10 = .ok (.iconst (-1), 1) := by decide +kernel
theorem dX14_alive_11 : decode cX14_alive 11 = .ok (.ixor, 1) := by decide +kernel
theorem dX14_alive_12 : decode cX14_alive 12 = .ok (.iand, 1) := by decide +kernel
theorem dX14_alive_13 : decode cX14_alive 13 = .ok (.ireturn, 1) := by decide +kernel
set_option maxRecDepth 20000 in
theorem ggX14_aliveMany_X14_alive : GoodIn wsX14_aliveMany wsX14_alive := goodIn_r _ [5, 6, 7, 8, 9, 4, 10, 11, 19, 20, 21, 22, 23, 24, 25, 26, 27] (by decide +kernel) (by decide +kernel)
set_option maxRecDepth 20000 in
theorem gX14_aliveMany_X14_alive : GoodIn wsX14_aliveMany (wsV RX14 52 RX14 yX14_alive wsX14_alive) := goodIn_app (goodIn_of _ (by decide +kernel)) ggX14_aliveMany_X14_alive
set_option maxRecDepth 20000 in
theorem ggX14_aliveMany_J6_bitCount_0f7a4 : GoodIn wsX14_aliveMany wsJ6_bitCount_0f7a4 := goodIn_r _ [15, 16, 17, 18] (by decide +kernel) (by decide +kernel)
set_option maxRecDepth 20000 in
theorem gX14_aliveMany_J6_bitCount_0f7a4 : GoodIn wsX14_aliveMany (va_wsS RX14 55 yJ6_bitCount_0f7a4 wsJ6_bitCount_0f7a4) := goodIn_app (goodIn_of _ (by decide +kernel)) ggX14_aliveMany_J6_bitCount_0f7a4
theorem dX14_aliveMany_0 : decode cX14_aliveMany 0 = .ok (.aload_n 0, 1) := by decide +kernel
theorem dX14_aliveMany_1 : decode cX14_aliveMany 1 = .ok (.invokevirtual 52, 3) := by decide +kernel
theorem dX14_aliveMany_4 : decode cX14_aliveMany 4 = .ok (.invokestatic 55, 3) := by decide +kernel
theorem dX14_aliveMany_7 : decode cX14_aliveMany 7 = .ok (.ireturn, 1) := by decide +kernel
set_option maxRecDepth 20000 in
theorem ggX14_empty_X14_all : GoodIn wsX14_empty wsX14_all := goodIn_r _ [6, 7, 8, 9, 10, 11, 12, 13, 14, 15, 16] (by decide +kernel) (by decide +kernel)
set_option maxRecDepth 20000 in
theorem gX14_empty_X14_all : GoodIn wsX14_empty (wsV RX14 46 RX14 yX14_all wsX14_all) := goodIn_app (goodIn_of _ (by decide +kernel)) ggX14_empty_X14_all
theorem dX14_empty_0 : decode cX14_empty 0 = .ok (.aload_n 0, 1) := by decide +kernel
theorem dX14_empty_1 : decode cX14_empty 1 = .ok (.invokevirtual 46, 3) := by decide +kernel
theorem dX14_empty_4 : decode cX14_empty 4 = .ok (.newarray .boolean, 2) := by decide +kernel
theorem dX14_empty_6 : decode cX14_empty 6 = .ok (.areturn, 1) := by decide +kernel
set_option maxRecDepth 20000 in
theorem ggX14_ground_X14_is : GoodIn wsX14_ground wsX14_is := goodIn_r _ [10] (by decide +kernel) (by decide +kernel)
set_option maxRecDepth 20000 in
theorem gX14_ground_X14_is : GoodIn wsX14_ground (va_wsS RX14 42 yX14_is wsX14_is) := goodIn_app (goodIn_of _ (by decide +kernel)) ggX14_ground_X14_is
set_option maxRecDepth 20000 in
theorem ggX14_ground_Jx4a65c_clear_da8c8 : GoodIn wsX14_ground wsJx4a65c_clear_da8c8 := goodIn_r _ [19, 20, 21, 22, 23, 37, 38, 39] (by decide +kernel) (by decide +kernel)
set_option maxRecDepth 20000 in
theorem gX14_ground_Jx4a65c_clear_da8c8 : GoodIn wsX14_ground (wsV RX14 68 RJx4a65c yJx4a65c_clear_da8c8 wsJx4a65c_clear_da8c8) := goodIn_app (goodIn_of _ (by decide +kernel)) ggX14_ground_Jx4a65c_clear_da8c8
set_option maxRecDepth 20000 in
theorem ggX14_ground_X14_all : GoodIn wsX14_ground wsX14_all := goodIn_r _ [27, 2, 28, 29, 30, 31, 32, 33, 34, 35, 36] (by decide +kernel) (by decide +kernel)
set_option maxRecDepth 20000 in
theorem gX14_ground_X14_all : GoodIn wsX14_ground (wsV RX14 46 RX14 yX14_all wsX14_all) := goodIn_app (goodIn_of _ (by decide +kernel)) ggX14_ground_X14_all
theorem dX14_ground_0 : decode cX14_ground 0 = .ok (.aload_n 0, 1) := by decide +kernel
theorem dX14_ground_1 : decode cX14_ground 1 = .ok (.iconst 0, 1) := by decide +kernel
theorem dX14_ground_2 : decode cX14_ground 2 = .ok (.putfield 35, 3) := by decide +kernel
theorem dX14_ground_5 : decode cX14_ground 5 = .ok (.iload_n 1, 1) := by decide +kernel
theorem dX14_ground_6 : decode cX14_ground 6 = .ok (.iconst 2, 1) := by decide +kernel
theorem dX14_ground_7 : decode cX14_ground 7 = .ok (.bipush 7, 2) := by decide +kernel
theorem dX14_ground_9 : decode cX14_ground 9 = .ok (.invokestatic 42, 3) := by decide +kernel
theorem dX14_ground_12 : decode cX14_ground 12 = .ok (.ifCond .ne 9, 3) := by decide +kernel
theorem dX14_ground_15 : decode cX14_ground 15 = .ok (.aload_n 0, 1) := by decide +kernel
theorem dX14_ground_16 : decode cX14_ground 16 = .ok (.iconst 1, 1) := by decide +kernel
theorem dX14_ground_17 : decode cX14_ground 17 = .ok (.invokevirtual 65, 3) := by decide +kernel
theorem dX14_ground_20 : decode cX14_ground 20 = .ok (.ireturn, 1) := by decide +kernel
theorem dX14_ground_21 : decode cX14_ground 21 = .ok (.aload_n 0, 1) := by decide +kernel
theorem dX14_ground_22 : decode cX14_ground 22 = .ok (.iload_n 1, 1) := by decide +kernel
theorem dX14_ground_23 : decode cX14_ground 23 = .ok (.putfield 7, 3) := by decide +kernel
theorem dX14_ground_26 : decode cX14_ground 26 = .ok (.aload_n 0, 1) := by decide +kernel
theorem dX14_ground_27 : decode cX14_ground 27 = .ok (.iload_n 1, 1) := by decide +kernel
theorem dX14_ground_28 : decode cX14_ground 28 = .ok (.newarray .int, 2) := by decide +kernel
theorem dX14_ground_30 : decode cX14_ground 30 = .ok (.putfield 13, 3) := by decide +kernel
theorem dX14_ground_33 : decode cX14_ground 33 = .ok (.iconst 0, 1) := by decide +kernel
theorem dX14_ground_34 : decode cX14_ground 34 = .ok (.istore_n 2, 1) := by decide +kernel
theorem dX14_ground_35 : decode cX14_ground 35 = .ok (.iload_n 2, 1) := by decide +kernel
theorem dX14_ground_36 : decode cX14_ground 36 = .ok (.iload_n 1, 1) := by decide +kernel
theorem dX14_ground_37 : decode cX14_ground 37 = .ok (.if_icmp .ge 16, 3) := by decide +kernel
theorem dX14_ground_40 : decode cX14_ground 40 = .ok (.aload_n 0, 1) := by decide +kernel
theorem dX14_ground_41 : decode cX14_ground 41 = .ok (.getfield 13, 3) := by decide +kernel
theorem dX14_ground_44 : decode cX14_ground 44 = .ok (.iload_n 2, 1) := by decide +kernel
theorem dX14_ground_45 : decode cX14_ground 45 = .ok (.iconst 1, 1) := by decide +kernel
theorem dX14_ground_46 : decode cX14_ground 46 = .ok (.iastore, 1) := by decide +kernel
theorem dX14_ground_47 : decode cX14_ground 47 = .ok (.iinc 2 1, 3) := by decide +kernel
theorem dX14_ground_50 : decode cX14_ground 50 = .ok (.goto (-15), 3) := by decide +kernel
theorem dX14_ground_53 : decode cX14_ground 53 = .ok (.aload_n 0, 1) := by decide +kernel
theorem dX14_ground_54 : decode cX14_ground 54 = .ok (.iconst 0, 1) := by decide +kernel
theorem dX14_ground_55 : decode cX14_ground 55 = .ok (.putfield 49, 3) := by decide +kernel
theorem dX14_ground_58 : decode cX14_ground 58 = .ok (.aload_n 0, 1) := by decide +kernel
theorem dX14_ground_59 : decode cX14_ground 59 = .ok (.getfield 20, 3) := by decide +kernel
theorem dX14_ground_62 : decode cX14_ground 62 = .ok (.invokevirtual 68, 3) := by decide +kernel
theorem dX14_ground_65 : decode cX14_ground 65 = .ok (.aload_n 0, 1) := by decide +kernel
theorem dX14_ground_66 : decode cX14_ground 66 = .ok (.invokevirtual 46, 3) := by decide +kernel
theorem dX14_ground_69 : decode cX14_ground 69 = .ok (.ireturn, 1) := by decide +kernel
set_option maxRecDepth 20000 in
theorem ggX14_die_X14_isPoint : GoodIn wsX14_die wsX14_isPoint := goodIn_r _ [7, 8, 9, 10, 6, 11, 35, 36, 37, 38, 39, 40, 41, 42, 43] (by decide +kernel) (by decide +kernel)
set_option maxRecDepth 20000 in
theorem gX14_die_X14_isPoint : GoodIn wsX14_die (wsV RX14 71 RX14 yX14_isPoint wsX14_isPoint) := goodIn_app (goodIn_of _ (by decide +kernel)) ggX14_die_X14_isPoint
set_option maxRecDepth 20000 in
theorem ggX14_die_X14_aliveMany : GoodIn wsX14_die wsX14_aliveMany := goodIn_r _ [19, 20, 21, 22, 6, 23, 2, 24, 25, 26, 27, 8, 28, 29, 30, 31, 32, 33, 34, 35, 36, 37, 38, 39, 40, 41, 42, 43] (by decide +kernel) (by decide +kernel)
set_option maxRecDepth 20000 in
theorem gX14_die_X14_aliveMany : GoodIn wsX14_die (wsV RX14 75 RX14 yX14_aliveMany wsX14_aliveMany) := goodIn_app (goodIn_of _ (by decide +kernel)) ggX14_die_X14_aliveMany
theorem dX14_die_0 : decode cX14_die 0 = .ok (.aload_n 0, 1) := by decide +kernel
theorem dX14_die_1 : decode cX14_die 1 = .ok (.iconst 0, 1) := by decide +kernel
theorem dX14_die_2 : decode cX14_die 2 = .ok (.putfield 35, 3) := by decide +kernel
theorem dX14_die_5 : decode cX14_die 5 = .ok (.aload_n 0, 1) := by decide +kernel
theorem dX14_die_6 : decode cX14_die 6 = .ok (.iload_n 1, 1) := by decide +kernel
theorem dX14_die_7 : decode cX14_die 7 = .ok (.invokevirtual 71, 3) := by decide +kernel
theorem dX14_die_10 : decode cX14_die 10 = .ok (.ifCond .ne 9, 3) := by decide +kernel
theorem dX14_die_13 : decode cX14_die 13 = .ok (.aload_n 0, 1) := by decide +kernel
theorem dX14_die_14 : decode cX14_die 14 = .ok (.iconst 1, 1) := by decide +kernel
theorem dX14_die_15 : decode cX14_die 15 = .ok (.invokevirtual 65, 3) := by decide +kernel
theorem dX14_die_18 : decode cX14_die 18 = .ok (.ireturn, 1) := by decide +kernel
theorem dX14_die_19 : decode cX14_die 19 = .ok (.aload_n 0, 1) := by decide +kernel
theorem dX14_die_20 : decode cX14_die 20 = .ok (.iload_n 2, 1) := by decide +kernel
theorem dX14_die_21 : decode cX14_die 21 = .ok (.ifCond .eq 14, 3) := by decide +kernel
theorem dX14_die_24 : decode cX14_die 24 = .ok (.aload_n 0, 1) := by decide +kernel
theorem dX14_die_25 : decode cX14_die 25 = .ok (.getfield 49, 3) := by decide +kernel
theorem dX14_die_28 : decode cX14_die 28 = .ok (.iconst 1, 1) := by decide +kernel
theorem dX14_die_29 : decode cX14_die 29 = .ok (.iload_n 1, 1) := by decide +kernel
theorem dX14_die_30 : decode cX14_die 30 = .ok (.ishl, 1) := by decide +kernel
theorem dX14_die_31 : decode cX14_die 31 = .ok (.ior, 1) := by decide +kernel
theorem dX14_die_32 : decode cX14_die 32 = .ok (.goto 13, 3) := by decide +kernel
theorem dX14_die_35 : decode cX14_die 35 = .ok (.aload_n 0, 1) := by decide +kernel
theorem dX14_die_36 : decode cX14_die 36 = .ok (.getfield 49, 3) := by decide +kernel
theorem dX14_die_39 : decode cX14_die 39 = .ok (.iconst 1, 1) := by decide +kernel
theorem dX14_die_40 : decode cX14_die 40 = .ok (.iload_n 1, 1) := by decide +kernel
theorem dX14_die_41 : decode cX14_die 41 = .ok (.ishl, 1) := by decide +kernel
theorem dX14_die_42 : decode cX14_die 42 = .ok (.iconst (-1), 1) := by decide +kernel
theorem dX14_die_43 : decode cX14_die 43 = .ok (.ixor, 1) := by decide +kernel
theorem dX14_die_44 : decode cX14_die 44 = .ok (.iand, 1) := by decide +kernel
theorem dX14_die_45 : decode cX14_die 45 = .ok (.putfield 49, 3) := by decide +kernel
theorem dX14_die_48 : decode cX14_die 48 = .ok (.aload_n 0, 1) := by decide +kernel
theorem dX14_die_49 : decode cX14_die 49 = .ok (.invokevirtual 75, 3) := by decide +kernel
theorem dX14_die_52 : decode cX14_die 52 = .ok (.ireturn, 1) := by decide +kernel
set_option maxRecDepth 20000 in
theorem ggX14_family_Jx4a65c_size_8abf5 : GoodIn wsX14_family wsJx4a65c_size_8abf5 := goodIn_r _ [7, 8, 87, 88, 89] (by decide +kernel) (by decide +kernel)
set_option maxRecDepth 20000 in
theorem gX14_family_Jx4a65c_size_8abf5 : GoodIn wsX14_family (wsV RX14 38 RJx4a65c yJx4a65c_size_8abf5 wsJx4a65c_size_8abf5) := goodIn_app (goodIn_of _ (by decide +kernel)) ggX14_family_Jx4a65c_size_8abf5
set_option maxRecDepth 20000 in
theorem ggX14_family_X14_empty : GoodIn wsX14_family wsX14_empty := goodIn_r _ [17, 18, 19, 20, 21, 12, 22, 23, 78, 79, 80, 81, 82, 83, 84, 85, 86] (by decide +kernel) (by decide +kernel)
set_option maxRecDepth 20000 in
theorem gX14_family_X14_empty : GoodIn wsX14_family (wsV RX14 78 RX14 yX14_empty wsX14_empty) := goodIn_app (goodIn_of _ (by decide +kernel)) ggX14_family_X14_empty
set_option maxRecDepth 20000 in
theorem ggX14_family_Jx4a65c_add_9ea2d : GoodIn wsX14_family wsJx4a65c_add_9ea2d := goodIn_r _ [27, 28, 29, 30, 8, 31, 32, 33, 6, 34, 35, 36, 37, 38, 39, 40, 41, 42, 43, 44, 45, 46, 47, 48, 49, 50, 51, 52, 53, 54, 55, 56, 57, 58, 59, 60, 61, 62, 63, 64, 65, 66, 67, 68, 69, 70, 71, 72, 73, 74, 75, 76, 77, 87, 88, 89] (by decide +kernel) (by decide +kernel)
set_option maxRecDepth 20000 in
theorem gX14_family_Jx4a65c_add_9ea2d : GoodIn wsX14_family (wsV RX14 82 RJx4a65c yJx4a65c_add_9ea2d wsJx4a65c_add_9ea2d) := goodIn_app (goodIn_of _ (by decide +kernel)) ggX14_family_Jx4a65c_add_9ea2d
theorem dX14_family_0 : decode cX14_family 0 = .ok (.aload_n 0, 1) := by decide +kernel
theorem dX14_family_1 : decode cX14_family 1 = .ok (.iconst 0, 1) := by decide +kernel
theorem dX14_family_2 : decode cX14_family 2 = .ok (.putfield 35, 3) := by decide +kernel
theorem dX14_family_5 : decode cX14_family 5 = .ok (.aload_n 0, 1) := by decide +kernel
theorem dX14_family_6 : decode cX14_family 6 = .ok (.getfield 20, 3) := by decide +kernel
theorem dX14_family_9 : decode cX14_family 9 = .ok (.invokevirtual 38, 3) := by decide +kernel
theorem dX14_family_12 : decode cX14_family 12 = .ok (.iconst 5, 1) := by decide +kernel
theorem dX14_family_13 : decode cX14_family 13 = .ok (.if_icmp .ne 9, 3) := by decide +kernel
theorem dX14_family_16 : decode cX14_family 16 = .ok (.aload_n 0, 1) := by decide +kernel
theorem dX14_family_17 : decode cX14_family 17 = .ok (.iconst 1, 1) := by decide +kernel
theorem dX14_family_18 : decode cX14_family 18 = .ok (.invokevirtual 65, 3) := by decide +kernel
theorem dX14_family_21 : decode cX14_family 21 = .ok (.ireturn, 1) := by decide +kernel
theorem dX14_family_22 : decode cX14_family 22 = .ok (.aload_n 0, 1) := by decide +kernel
theorem dX14_family_23 : decode cX14_family 23 = .ok (.getfield 20, 3) := by decide +kernel
theorem dX14_family_26 : decode cX14_family 26 = .ok (.aload_n 0, 1) := by decide +kernel
theorem dX14_family_27 : decode cX14_family 27 = .ok (.invokevirtual 78, 3) := by decide +kernel
theorem dX14_family_30 : decode cX14_family 30 = .ok (.invokevirtual 82, 3) := by decide +kernel
theorem dX14_family_33 : decode cX14_family 33 = .ok (.pop, 1) := by decide +kernel
theorem dX14_family_34 : decode cX14_family 34 = .ok (.aload_n 0, 1) := by decide +kernel
theorem dX14_family_35 : decode cX14_family 35 = .ok (.getfield 20, 3) := by decide +kernel
theorem dX14_family_38 : decode cX14_family 38 = .ok (.invokevirtual 38, 3) := by decide +kernel
theorem dX14_family_41 : decode cX14_family 41 = .ok (.iconst 1, 1) := by decide +kernel
theorem dX14_family_42 : decode cX14_family 42 = .ok (.isub, 1) := by decide +kernel
theorem dX14_family_43 : decode cX14_family 43 = .ok (.ireturn, 1) := by decide +kernel
set_option maxRecDepth 20000 in
theorem ggX14_parts_Jx4a65c_get_915e3 : GoodIn wsX14_parts wsJx4a65c_get_915e3 := goodIn_r _ [8, 9, 10, 11, 12, 13, 14, 15, 16, 17, 18, 19, 20, 7, 21, 22, 43, 44, 45] (by decide +kernel) (by decide +kernel)
set_option maxRecDepth 20000 in
theorem gX14_parts_Jx4a65c_get_915e3 : GoodIn wsX14_parts (wsV RX14 96 RJx4a65c yJx4a65c_get_915e3 wsJx4a65c_get_915e3) := goodIn_app (goodIn_of _ (by decide +kernel)) ggX14_parts_Jx4a65c_get_915e3
set_option maxRecDepth 20000 in
theorem ggX14_parts_X14_empty : GoodIn wsX14_parts wsX14_empty := goodIn_r _ [27, 28, 29, 30, 31, 26, 32, 33, 34, 35, 36, 37, 38, 39, 40, 41, 42] (by decide +kernel) (by decide +kernel)
set_option maxRecDepth 20000 in
theorem gX14_parts_X14_empty : GoodIn wsX14_parts (wsV RX14 78 RX14 yX14_empty wsX14_empty) := goodIn_app (goodIn_of _ (by decide +kernel)) ggX14_parts_X14_empty
set_option maxRecDepth 20000 in
theorem ggX14_parts_X14_all : GoodIn wsX14_parts wsX14_all := goodIn_r _ [32, 33, 34, 35, 36, 37, 38, 39, 40, 41, 42] (by decide +kernel) (by decide +kernel)
set_option maxRecDepth 20000 in
theorem gX14_parts_X14_all : GoodIn wsX14_parts (wsV RX14 46 RX14 yX14_all wsX14_all) := goodIn_app (goodIn_of _ (by decide +kernel)) ggX14_parts_X14_all
theorem dX14_parts_0 : decode cX14_parts 0 = .ok (.aload_n 0, 1) := by decide +kernel
theorem dX14_parts_1 : decode cX14_parts 1 = .ok (.getfield 20, 3) := by decide +kernel
theorem dX14_parts_4 : decode cX14_parts 4 = .ok (.iload_n 1, 1) := by decide +kernel
theorem dX14_parts_5 : decode cX14_parts 5 = .ok (.invokevirtual 96, 3) := by decide +kernel
theorem dX14_parts_8 : decode cX14_parts 8 = .ok (.checkcast 100, 3) := by decide +kernel
theorem dX14_parts_11 : decode cX14_parts 11 = .ok (.astore_n 2, 1) := by decide +kernel
theorem dX14_parts_12 : decode cX14_parts 12 = .ok (.aload_n 0, 1) := by decide +kernel
theorem dX14_parts_13 : decode cX14_parts 13 = .ok (.invokevirtual 78, 3) := by decide +kernel
theorem dX14_parts_16 : decode cX14_parts 16 = .ok (.astore_n 3, 1) := by decide +kernel
theorem dX14_parts_17 : decode cX14_parts 17 = .ok (.iconst 0, 1) := by decide +kernel
theorem dX14_parts_18 : decode cX14_parts 18 = .ok (.istore 4, 2) := by decide +kernel
theorem dX14_parts_20 : decode cX14_parts 20 = .ok (.iload 4, 2) := by decide +kernel
theorem dX14_parts_22 : decode cX14_parts 22 = .ok (.aload_n 0, 1) := by decide +kernel
theorem dX14_parts_23 : decode cX14_parts 23 = .ok (.invokevirtual 46, 3) := by decide +kernel
theorem dX14_parts_26 : decode cX14_parts 26 = .ok (.if_icmp .ge 27, 3) := by decide +kernel
theorem dX14_parts_29 : decode cX14_parts 29 = .ok (.aload_n 3, 1) := by decide +kernel
theorem dX14_parts_30 : decode cX14_parts 30 = .ok (.iload 4, 2) := by decide +kernel
theorem dX14_parts_32 : decode cX14_parts 32 = .ok (.aload_n 0, 1) := by decide +kernel
theorem dX14_parts_33 : decode cX14_parts 33 = .ok (.getfield 49, 3) := by decide +kernel
theorem dX14_parts_36 : decode cX14_parts 36 = .ok (.iconst (-1), 1) := by decide +kernel
theorem dX14_parts_37 : decode cX14_parts 37 = .ok (.ixor, 1) := by decide +kernel
theorem dX14_parts_38 : decode cX14_parts 38 = .ok (.iand, 1) := by decide +kernel
theorem dX14_parts_39 : decode cX14_parts 39 = .ok (.dup2, 1) := by decide +kernel
theorem dX14_parts_40 : decode cX14_parts 40 = .ok (.baload, 1) := by decide +kernel
theorem dX14_parts_41 : decode cX14_parts 41 = .ok (.aload_n 2, 1) := by decide +kernel
theorem dX14_parts_42 : decode cX14_parts 42 = .ok (.iload 4, 2) := by decide +kernel
theorem dX14_parts_44 : decode cX14_parts 44 = .ok (.baload, 1) := by decide +kernel
theorem dX14_parts_45 : decode cX14_parts 45 = .ok (.ior, 1) := by decide +kernel
theorem dX14_parts_46 : decode cX14_parts 46 = .ok (.bastore, 1) := by decide +kernel
theorem dX14_parts_47 : decode cX14_parts 47 = .ok (.iinc 4 1, 3) := by decide +kernel
theorem dX14_parts_50 : decode cX14_parts 50 = .ok (.goto (-30), 3) := by decide +kernel
theorem dX14_parts_53 : decode cX14_parts 53 = .ok (.aload_n 3, 1) := by decide +kernel
theorem dX14_parts_54 : decode cX14_parts 54 = .ok (.areturn, 1) := by decide +kernel
set_option maxRecDepth 20000 in
theorem ggX14_game_X14_isFamily : GoodIn wsX14_game wsX14_isFamily := goodIn_r _ [8, 9, 10, 11, 12, 13, 14, 15, 16, 17, 7, 18, 70, 71, 72, 73, 74, 75, 76, 77, 78, 79, 80, 81] (by decide +kernel) (by decide +kernel)
set_option maxRecDepth 20000 in
theorem gX14_game_X14_isFamily : GoodIn wsX14_game (wsV RX14 90 RX14 yX14_isFamily wsX14_isFamily) := goodIn_app (goodIn_of _ (by decide +kernel)) ggX14_game_X14_isFamily
set_option maxRecDepth 20000 in
theorem ggX14_game_X14_parts : GoodIn wsX14_game wsX14_parts := goodIn_r _ [26, 9, 27, 28, 29, 30, 31, 13, 32, 15, 33, 34, 35, 36, 37, 38, 39, 40, 41, 42, 43, 44, 45, 46, 47, 48, 7, 49, 50, 51, 52, 53, 54, 3, 70, 71, 72, 73, 74, 75, 76, 77, 78, 79, 80, 81] (by decide +kernel) (by decide +kernel)
set_option maxRecDepth 20000 in
theorem gX14_game_X14_parts : GoodIn wsX14_game (wsV RX14 105 RX14 yX14_parts wsX14_parts) := goodIn_app (goodIn_of _ (by decide +kernel)) ggX14_game_X14_parts
set_option maxRecDepth 20000 in
theorem ggX14_game_X14_all : GoodIn wsX14_game wsX14_all := goodIn_r _ [54, 3, 70, 71, 72, 73, 74, 75, 76, 77, 78] (by decide +kernel) (by decide +kernel)
set_option maxRecDepth 20000 in
theorem gX14_game_X14_all : GoodIn wsX14_game (wsV RX14 46 RX14 yX14_all wsX14_all) := goodIn_app (goodIn_of _ (by decide +kernel)) ggX14_game_X14_all
set_option maxRecDepth 20000 in
theorem ggX14_game_X14_alive : GoodIn wsX14_game wsX14_alive := goodIn_r _ [58, 28, 51, 52, 53, 7, 54, 3, 70, 71, 72, 73, 74, 75, 76, 77, 78] (by decide +kernel) (by decide +kernel)
set_option maxRecDepth 20000 in
theorem gX14_game_X14_alive : GoodIn wsX14_game (wsV RX14 52 RX14 yX14_alive wsX14_alive) := goodIn_app (goodIn_of _ (by decide +kernel)) ggX14_game_X14_alive
theorem dX14_game_0 : decode cX14_game 0 = .ok (.aload_n 0, 1) := by decide +kernel
theorem dX14_game_1 : decode cX14_game 1 = .ok (.iconst 0, 1) := by decide +kernel
theorem dX14_game_2 : decode cX14_game 2 = .ok (.putfield 35, 3) := by decide +kernel
theorem dX14_game_5 : decode cX14_game 5 = .ok (.aload_n 0, 1) := by decide +kernel
theorem dX14_game_6 : decode cX14_game 6 = .ok (.iload_n 1, 1) := by decide +kernel
theorem dX14_game_7 : decode cX14_game 7 = .ok (.invokevirtual 90, 3) := by decide +kernel
theorem dX14_game_10 : decode cX14_game 10 = .ok (.ifCond .ne 9, 3) := by decide +kernel
theorem dX14_game_13 : decode cX14_game 13 = .ok (.aload_n 0, 1) := by decide +kernel
theorem dX14_game_14 : decode cX14_game 14 = .ok (.iconst 1, 1) := by decide +kernel
theorem dX14_game_15 : decode cX14_game 15 = .ok (.invokevirtual 65, 3) := by decide +kernel
theorem dX14_game_18 : decode cX14_game 18 = .ok (.ireturn, 1) := by decide +kernel
theorem dX14_game_19 : decode cX14_game 19 = .ok (.aload_n 0, 1) := by decide +kernel
theorem dX14_game_20 : decode cX14_game 20 = .ok (.iload_n 1, 1) := by decide +kernel
theorem dX14_game_21 : decode cX14_game 21 = .ok (.invokevirtual 105, 3) := by decide +kernel
theorem dX14_game_24 : decode cX14_game 24 = .ok (.astore_n 2, 1) := by decide +kernel
theorem dX14_game_25 : decode cX14_game 25 = .ok (.aload_n 0, 1) := by decide +kernel
theorem dX14_game_26 : decode cX14_game 26 = .ok (.invokevirtual 46, 3) := by decide +kernel
theorem dX14_game_29 : decode cX14_game 29 = .ok (.aload_n 0, 1) := by decide +kernel
theorem dX14_game_30 : decode cX14_game 30 = .ok (.invokevirtual 46, 3) := by decide +kernel
theorem dX14_game_33 : decode cX14_game 33 = .ok (.imul, 1) := by decide +kernel
theorem dX14_game_34 : decode cX14_game 34 = .ok (.newarray .byte, 2) := by decide +kernel
theorem dX14_game_36 : decode cX14_game 36 = .ok (.astore_n 3, 1) := by decide +kernel
theorem dX14_game_37 : decode cX14_game 37 = .ok (.iconst 0, 1) := by decide +kernel
theorem dX14_game_38 : decode cX14_game 38 = .ok (.istore 4, 2) := by decide +kernel
theorem dX14_game_40 : decode cX14_game 40 = .ok (.iload 4, 2) := by decide +kernel
theorem dX14_game_42 : decode cX14_game 42 = .ok (.aload_n 0, 1) := by decide +kernel
theorem dX14_game_43 : decode cX14_game 43 = .ok (.getfield 7, 3) := by decide +kernel
theorem dX14_game_46 : decode cX14_game 46 = .ok (.if_icmp .ge 50, 3) := by decide +kernel
theorem dX14_game_49 : decode cX14_game 49 = .ok (.aload_n 0, 1) := by decide +kernel
theorem dX14_game_50 : decode cX14_game 50 = .ok (.invokevirtual 52, 3) := by decide +kernel
theorem dX14_game_53 : decode cX14_game 53 = .ok (.iload 4, 2) := by decide +kernel
theorem dX14_game_55 : decode cX14_game 55 = .ok (.ishr, 1) := by decide +kernel
theorem dX14_game_56 : decode cX14_game 56 = .ok (.iconst 1, 1) := by decide +kernel
theorem dX14_game_57 : decode cX14_game 57 = .ok (.iand, 1) := by decide +kernel
theorem dX14_game_58 : decode cX14_game 58 = .ok (.iconst 1, 1) := by decide +kernel
theorem dX14_game_59 : decode cX14_game 59 = .ok (.if_icmp .ne 31, 3) := by decide +kernel
theorem dX14_game_62 : decode cX14_game 62 = .ok (.aload_n 0, 1) := by decide +kernel
theorem dX14_game_63 : decode cX14_game 63 = .ok (.aload_n 2, 1) := by decide +kernel
theorem dX14_game_64 : decode cX14_game 64 = .ok (.aload_n 3, 1) := by decide +kernel
theorem dX14_game_65 : decode cX14_game 65 = .ok (.iconst 1, 1) := by decide +kernel
theorem dX14_game_66 : decode cX14_game 66 = .ok (.iload 4, 2) := by decide +kernel
theorem dX14_game_68 : decode cX14_game 68 = .ok (.ishl, 1) := by decide +kernel
theorem dX14_game_69 : decode cX14_game 69 = .ok (.aload_n 0, 1) := by decide +kernel
theorem dX14_game_70 : decode cX14_game 70 = .ok (.invokevirtual 52, 3) := by decide +kernel
theorem dX14_game_73 : decode cX14_game 73 = .ok (.iconst 1, 1) := by decide +kernel
theorem dX14_game_74 : decode cX14_game 74 = .ok (.iload 4, 2) := by decide +kernel
theorem dX14_game_76 : decode cX14_game 76 = .ok (.ishl, 1) := by decide +kernel
theorem dX14_game_77 : decode cX14_game 77 = .ok (.iconst (-1), 1) := by decide +kernel
theorem dX14_game_78 : decode cX14_game 78 = .ok (.ixor, 1) := by decide +kernel
theorem dX14_game_79 : decode cX14_game 79 = .ok (.iand, 1) := by decide +kernel
theorem dX14_game_80 : decode cX14_game 80 = .ok (.iconst 0, 1) := by decide +kernel
theorem dX14_game_81 : decode cX14_game 81 = .ok (.invokevirtual 218, 3) := by decide +kernel
theorem dX14_game_84 : decode cX14_game 84 = .ok (.ifCond .eq 6, 3) := by decide +kernel
theorem dX14_game_87 : decode cX14_game 87 = .ok (.iload 4, 2) := by decide +kernel
theorem dX14_game_89 : decode cX14_game 89 = .ok (.ireturn, 1) := by decide +kernel
theorem dX14_game_90 : decode cX14_game 90 = .ok (.iinc 4 1, 3) := by decide +kernel
theorem dX14_game_93 : decode cX14_game 93 = .ok (.goto (-53), 3) := by decide +kernel
theorem dX14_game_96 : decode cX14_game 96 = .ok (.iconst (-1), 1) := by decide +kernel
theorem dX14_game_97 : decode cX14_game 97 = .ok (.ireturn, 1) := by decide +kernel
theorem dJ6_bitCount_0f7a4_0 : decode cJ6_bitCount_0f7a4 0 = .ok (.iload_n 0, 1) := by decide +kernel
theorem dJ6_bitCount_0f7a4_1 : decode cJ6_bitCount_0f7a4 1 = .ok (.iload_n 0, 1) := by decide +kernel
theorem dJ6_bitCount_0f7a4_2 : decode cJ6_bitCount_0f7a4 2 = .ok (.iconst 1, 1) := by decide +kernel
theorem dJ6_bitCount_0f7a4_3 : decode cJ6_bitCount_0f7a4 3 = .ok (.iushr, 1) := by decide +kernel
theorem dJ6_bitCount_0f7a4_4 : decode cJ6_bitCount_0f7a4 4 = .ok (.ldc_w 265, 3) := by decide +kernel
theorem dJ6_bitCount_0f7a4_7 : decode cJ6_bitCount_0f7a4 7 = .ok (.iand, 1) := by decide +kernel
theorem dJ6_bitCount_0f7a4_8 : decode cJ6_bitCount_0f7a4 8 = .ok (.isub, 1) := by decide +kernel
theorem dJ6_bitCount_0f7a4_9 : decode cJ6_bitCount_0f7a4 9 = .ok (.istore_n 0, 1) := by decide +kernel
theorem dJ6_bitCount_0f7a4_10 : decode cJ6_bitCount_0f7a4 10 = .ok (.iload_n 0, 1) := by decide +kernel
theorem dJ6_bitCount_0f7a4_11 : decode cJ6_bitCount_0f7a4 11 = .ok (.ldc_w 266, 3) := by decide +kernel
theorem dJ6_bitCount_0f7a4_14 : decode cJ6_bitCount_0f7a4 14 = .ok (.iand, 1) := by decide +kernel
theorem dJ6_bitCount_0f7a4_15 : decode cJ6_bitCount_0f7a4 15 = .ok (.iload_n 0, 1) := by decide +kernel
theorem dJ6_bitCount_0f7a4_16 : decode cJ6_bitCount_0f7a4 16 = .ok (.iconst 2, 1) := by decide +kernel
theorem dJ6_bitCount_0f7a4_17 : decode cJ6_bitCount_0f7a4 17 = .ok (.iushr, 1) := by decide +kernel
theorem dJ6_bitCount_0f7a4_18 : decode cJ6_bitCount_0f7a4 18 = .ok (.ldc_w 266, 3) := by decide +kernel
theorem dJ6_bitCount_0f7a4_21 : decode cJ6_bitCount_0f7a4 21 = .ok (.iand, 1) := by decide +kernel
theorem dJ6_bitCount_0f7a4_22 : decode cJ6_bitCount_0f7a4 22 = .ok (.iadd, 1) := by decide +kernel
theorem dJ6_bitCount_0f7a4_23 : decode cJ6_bitCount_0f7a4 23 = .ok (.istore_n 0, 1) := by decide +kernel
theorem dJ6_bitCount_0f7a4_24 : decode cJ6_bitCount_0f7a4 24 = .ok (.iload_n 0, 1) := by decide +kernel
theorem dJ6_bitCount_0f7a4_25 : decode cJ6_bitCount_0f7a4 25 = .ok (.iload_n 0, 1) := by decide +kernel
theorem dJ6_bitCount_0f7a4_26 : decode cJ6_bitCount_0f7a4 26 = .ok (.iconst 4, 1) := by decide +kernel
theorem dJ6_bitCount_0f7a4_27 : decode cJ6_bitCount_0f7a4 27 = .ok (.iushr, 1) := by decide +kernel
theorem dJ6_bitCount_0f7a4_28 : decode cJ6_bitCount_0f7a4 28 = .ok (.iadd, 1) := by decide +kernel
theorem dJ6_bitCount_0f7a4_29 : decode cJ6_bitCount_0f7a4 29 = .ok (.ldc_w 267, 3) := by decide +kernel
theorem dJ6_bitCount_0f7a4_32 : decode cJ6_bitCount_0f7a4 32 = .ok (.iand, 1) := by decide +kernel
theorem dJ6_bitCount_0f7a4_33 : decode cJ6_bitCount_0f7a4 33 = .ok (.istore_n 0, 1) := by decide +kernel
theorem dJ6_bitCount_0f7a4_34 : decode cJ6_bitCount_0f7a4 34 = .ok (.iload_n 0, 1) := by decide +kernel
theorem dJ6_bitCount_0f7a4_35 : decode cJ6_bitCount_0f7a4 35 = .ok (.iload_n 0, 1) := by decide +kernel
theorem dJ6_bitCount_0f7a4_36 : decode cJ6_bitCount_0f7a4 36 = .ok (.bipush 8, 2) := by decide +kernel
theorem dJ6_bitCount_0f7a4_38 : decode cJ6_bitCount_0f7a4 38 = .ok (.iushr, 1) := by decide +kernel
theorem dJ6_bitCount_0f7a4_39 : decode cJ6_bitCount_0f7a4 39 = .ok (.iadd, 1) := by decide +kernel
theorem dJ6_bitCount_0f7a4_40 : decode cJ6_bitCount_0f7a4 40 = .ok (.istore_n 0, 1) := by decide +kernel
theorem dJ6_bitCount_0f7a4_41 : decode cJ6_bitCount_0f7a4 41 = .ok (.iload_n 0, 1) := by decide +kernel
theorem dJ6_bitCount_0f7a4_42 : decode cJ6_bitCount_0f7a4 42 = .ok (.iload_n 0, 1) := by decide +kernel
theorem dJ6_bitCount_0f7a4_43 : decode cJ6_bitCount_0f7a4 43 = .ok (.bipush 16, 2) := by decide +kernel
theorem dJ6_bitCount_0f7a4_45 : decode cJ6_bitCount_0f7a4 45 = .ok (.iushr, 1) := by decide +kernel
theorem dJ6_bitCount_0f7a4_46 : decode cJ6_bitCount_0f7a4 46 = .ok (.iadd, 1) := by decide +kernel
theorem dJ6_bitCount_0f7a4_47 : decode cJ6_bitCount_0f7a4 47 = .ok (.istore_n 0, 1) := by decide +kernel
theorem dJ6_bitCount_0f7a4_48 : decode cJ6_bitCount_0f7a4 48 = .ok (.iload_n 0, 1) := by decide +kernel
theorem dJ6_bitCount_0f7a4_49 : decode cJ6_bitCount_0f7a4 49 = .ok (.bipush 63, 2) := by decide +kernel
theorem dJ6_bitCount_0f7a4_51 : decode cJ6_bitCount_0f7a4 51 = .ok (.iand, 1) := by decide +kernel
theorem dJ6_bitCount_0f7a4_52 : decode cJ6_bitCount_0f7a4 52 = .ok (.ireturn, 1) := by decide +kernel
theorem dJ9_max_7cf53_0 : decode cJ9_max_7cf53 0 = .ok (.iload_n 0, 1) := by decide +kernel
theorem dJ9_max_7cf53_1 : decode cJ9_max_7cf53 1 = .ok (.iload_n 1, 1) := by decide +kernel
theorem dJ9_max_7cf53_2 : decode cJ9_max_7cf53 2 = .ok (.if_icmp .lt 7, 3) := by decide +kernel
theorem dJ9_max_7cf53_5 : decode cJ9_max_7cf53 5 = .ok (.iload_n 0, 1) := by decide +kernel
theorem dJ9_max_7cf53_6 : decode cJ9_max_7cf53 6 = .ok (.goto 4, 3) := by decide +kernel
theorem dJ9_max_7cf53_9 : decode cJ9_max_7cf53 9 = .ok (.iload_n 1, 1) := by decide +kernel
theorem dJ9_max_7cf53_10 : decode cJ9_max_7cf53 10 = .ok (.ireturn, 1) := by decide +kernel
theorem dJxa1e45_init_da8c8_0 : decode cJxa1e45_init_da8c8 0 = .ok (.aload_n 0, 1) := by decide +kernel
theorem dJxa1e45_init_da8c8_1 : decode cJxa1e45_init_da8c8 1 = .ok (.invokespecial 1, 3) := by decide +kernel
theorem dJxa1e45_init_da8c8_4 : decode cJxa1e45_init_da8c8 4 = .ok (.return_, 1) := by decide +kernel
set_option maxRecDepth 20000 in
theorem ggJxc12de_init_da8c8_Jxa1e45_init_da8c8 : GoodIn wsJxc12de_init_da8c8 wsJxa1e45_init_da8c8 := goodIn_r _ [5, 6, 7, 8] (by decide +kernel) (by decide +kernel)
set_option maxRecDepth 20000 in
theorem gJxc12de_init_da8c8_Jxa1e45_init_da8c8 : GoodIn wsJxc12de_init_da8c8 (wsJxa1e45_init_da8c8) := ggJxc12de_init_da8c8_Jxa1e45_init_da8c8
theorem dJxc12de_init_da8c8_0 : decode cJxc12de_init_da8c8 0 = .ok (.aload_n 0, 1) := by decide +kernel
theorem dJxc12de_init_da8c8_1 : decode cJxc12de_init_da8c8 1 = .ok (.invokespecial 1, 3) := by decide +kernel
theorem dJxc12de_init_da8c8_4 : decode cJxc12de_init_da8c8 4 = .ok (.aload_n 0, 1) := by decide +kernel
theorem dJxc12de_init_da8c8_5 : decode cJxc12de_init_da8c8 5 = .ok (.iconst 0, 1) := by decide +kernel
theorem dJxc12de_init_da8c8_6 : decode cJxc12de_init_da8c8 6 = .ok (.putfield 7, 3) := by decide +kernel
theorem dJxc12de_init_da8c8_9 : decode cJxc12de_init_da8c8 9 = .ok (.return_, 1) := by decide +kernel
set_option maxRecDepth 20000 in
theorem ggJx4a65c_init_da8c8_Jxc12de_init_da8c8 : GoodIn wsJx4a65c_init_da8c8 wsJxc12de_init_da8c8 := goodIn_r _ [6, 7, 8, 9, 10, 11, 12, 13, 14, 15, 16, 17] (by decide +kernel) (by decide +kernel)
set_option maxRecDepth 20000 in
theorem gJx4a65c_init_da8c8_Jxc12de_init_da8c8 : GoodIn wsJx4a65c_init_da8c8 (wsJxc12de_init_da8c8) := ggJx4a65c_init_da8c8_Jxc12de_init_da8c8
theorem dJx4a65c_init_da8c8_0 : decode cJx4a65c_init_da8c8 0 = .ok (.aload_n 0, 1) := by decide +kernel
theorem dJx4a65c_init_da8c8_1 : decode cJx4a65c_init_da8c8 1 = .ok (.invokespecial 1, 3) := by decide +kernel
theorem dJx4a65c_init_da8c8_4 : decode cJx4a65c_init_da8c8 4 = .ok (.aload_n 0, 1) := by decide +kernel
theorem dJx4a65c_init_da8c8_5 : decode cJx4a65c_init_da8c8 5 = .ok (.getstatic 39, 3) := by decide +kernel
theorem dJx4a65c_init_da8c8_8 : decode cJx4a65c_init_da8c8 8 = .ok (.putfield 9, 3) := by decide +kernel
theorem dJx4a65c_init_da8c8_11 : decode cJx4a65c_init_da8c8 11 = .ok (.return_, 1) := by decide +kernel
theorem dJx4a65c_grow_92f84_0 : decode cJx4a65c_grow_92f84 0 = .ok (.aload_n 0, 1) := by decide +kernel
theorem dJx4a65c_grow_92f84_1 : decode cJx4a65c_grow_92f84 1 = .ok (.getfield 9, 3) := by decide +kernel
theorem dJx4a65c_grow_92f84_4 : decode cJx4a65c_grow_92f84 4 = .ok (.arraylength, 1) := by decide +kernel
theorem dJx4a65c_grow_92f84_5 : decode cJx4a65c_grow_92f84 5 = .ok (.istore_n 2, 1) := by decide +kernel
theorem dJx4a65c_grow_92f84_6 : decode cJx4a65c_grow_92f84 6 = .ok (.iload_n 2, 1) := by decide +kernel
theorem dJx4a65c_grow_92f84_7 : decode cJx4a65c_grow_92f84 7 = .ok (.ifCond .gt 13, 3) := by decide +kernel
theorem dJx4a65c_grow_92f84_10 : decode cJx4a65c_grow_92f84 10 = .ok (.aload_n 0, 1) := by decide +kernel
theorem dJx4a65c_grow_92f84_11 : decode cJx4a65c_grow_92f84 11 = .ok (.getfield 9, 3) := by decide +kernel
theorem dJx4a65c_grow_92f84_14 : decode cJx4a65c_grow_92f84 14 = .ok (.getstatic 39, 3) := by decide +kernel
theorem dJx4a65c_grow_92f84_17 : decode cJx4a65c_grow_92f84 17 = .ok (.if_acmp .eq 28, 3) := by decide +kernel
theorem dJx4a65c_grow_92f84_20 : decode cJx4a65c_grow_92f84 20 = .ok (.iload_n 2, 1) := by decide +kernel
theorem dJx4a65c_grow_92f84_21 : decode cJx4a65c_grow_92f84 21 = .ok (.iload_n 1, 1) := by decide +kernel
theorem dJx4a65c_grow_92f84_22 : decode cJx4a65c_grow_92f84 22 = .ok (.iload_n 2, 1) := by decide +kernel
theorem dJx4a65c_grow_92f84_23 : decode cJx4a65c_grow_92f84 23 = .ok (.isub, 1) := by decide +kernel
theorem dJx4a65c_grow_92f84_24 : decode cJx4a65c_grow_92f84 24 = .ok (.iload_n 2, 1) := by decide +kernel
theorem dJx4a65c_grow_92f84_25 : decode cJx4a65c_grow_92f84 25 = .ok (.iconst 1, 1) := by decide +kernel
theorem dJx4a65c_grow_92f84_26 : decode cJx4a65c_grow_92f84 26 = .ok (.ishr, 1) := by decide +kernel
theorem dJx4a65c_grow_92f84_27 : decode cJx4a65c_grow_92f84 27 = .ok (.invokestatic 73, 3) := by decide +kernel
theorem dJx4a65c_grow_92f84_30 : decode cJx4a65c_grow_92f84 30 = .ok (.istore_n 3, 1) := by decide +kernel
theorem dJx4a65c_grow_92f84_31 : decode cJx4a65c_grow_92f84 31 = .ok (.aload_n 0, 1) := by decide +kernel
theorem dJx4a65c_grow_92f84_32 : decode cJx4a65c_grow_92f84 32 = .ok (.aload_n 0, 1) := by decide +kernel
theorem dJx4a65c_grow_92f84_33 : decode cJx4a65c_grow_92f84 33 = .ok (.getfield 9, 3) := by decide +kernel
theorem dJx4a65c_grow_92f84_36 : decode cJx4a65c_grow_92f84 36 = .ok (.iload_n 3, 1) := by decide +kernel
theorem dJx4a65c_grow_92f84_37 : decode cJx4a65c_grow_92f84 37 = .ok (.invokestatic 66, 3) := by decide +kernel
theorem dJx4a65c_grow_92f84_40 : decode cJx4a65c_grow_92f84 40 = .ok (.dup_x1, 1) := by decide +kernel
theorem dJx4a65c_grow_92f84_41 : decode cJx4a65c_grow_92f84 41 = .ok (.putfield 9, 3) := by decide +kernel
theorem dJx4a65c_grow_92f84_44 : decode cJx4a65c_grow_92f84 44 = .ok (.areturn, 1) := by decide +kernel
theorem dJx4a65c_grow_92f84_45 : decode cJx4a65c_grow_92f84 45 = .ok (.aload_n 0, 1) := by decide +kernel
theorem dJx4a65c_grow_92f84_46 : decode cJx4a65c_grow_92f84 46 = .ok (.bipush 10, 2) := by decide +kernel
theorem dJx4a65c_grow_92f84_48 : decode cJx4a65c_grow_92f84 48 = .ok (.iload_n 1, 1) := by decide +kernel
theorem dJx4a65c_grow_92f84_49 : decode cJx4a65c_grow_92f84 49 = .ok (.invokestatic 79, 3) := by decide +kernel
theorem dJx4a65c_grow_92f84_52 : decode cJx4a65c_grow_92f84 52 = .ok (.anewarray 7, 3) := by decide +kernel
theorem dJx4a65c_grow_92f84_55 : decode cJx4a65c_grow_92f84 55 = .ok (.dup_x1, 1) := by decide +kernel
theorem dJx4a65c_grow_92f84_56 : decode cJx4a65c_grow_92f84 56 = .ok (.putfield 9, 3) := by decide +kernel
theorem dJx4a65c_grow_92f84_59 : decode cJx4a65c_grow_92f84 59 = .ok (.areturn, 1) := by decide +kernel
set_option maxRecDepth 20000 in
theorem ggJx4a65c_grow_d5877_Jx4a65c_grow_92f84 : GoodIn wsJx4a65c_grow_d5877 wsJx4a65c_grow_92f84 := goodIn_r _ [6, 7, 8, 9, 10, 11, 12, 13, 14, 15, 16, 17, 18, 19, 20, 21, 22, 23, 24, 25, 26, 27, 28, 29, 30, 31, 32, 33, 34, 35, 36, 37, 38, 39, 40, 41, 42, 43, 44, 45] (by decide +kernel) (by decide +kernel)
set_option maxRecDepth 20000 in
theorem gJx4a65c_grow_d5877_Jx4a65c_grow_92f84 : GoodIn wsJx4a65c_grow_d5877 (wsV RJx4a65c 69 RJx4a65c yJx4a65c_grow_92f84 wsJx4a65c_grow_92f84) := goodIn_app (goodIn_of _ (by decide +kernel)) ggJx4a65c_grow_d5877_Jx4a65c_grow_92f84
theorem dJx4a65c_grow_d5877_0 : decode cJx4a65c_grow_d5877 0 = .ok (.aload_n 0, 1) := by decide +kernel
theorem dJx4a65c_grow_d5877_1 : decode cJx4a65c_grow_d5877 1 = .ok (.aload_n 0, 1) := by decide +kernel
theorem dJx4a65c_grow_d5877_2 : decode cJx4a65c_grow_d5877 2 = .ok (.getfield 48, 3) := by decide +kernel
theorem dJx4a65c_grow_d5877_5 : decode cJx4a65c_grow_d5877 5 = .ok (.iconst 1, 1) := by decide +kernel
theorem dJx4a65c_grow_d5877_6 : decode cJx4a65c_grow_d5877 6 = .ok (.iadd, 1) := by decide +kernel
theorem dJx4a65c_grow_d5877_7 : decode cJx4a65c_grow_d5877 7 = .ok (.invokevirtual 69, 3) := by decide +kernel
theorem dJx4a65c_grow_d5877_10 : decode cJx4a65c_grow_d5877 10 = .ok (.areturn, 1) := by decide +kernel
theorem dJx4a65c_size_8abf5_0 : decode cJx4a65c_size_8abf5 0 = .ok (.aload_n 0, 1) := by decide +kernel
theorem dJx4a65c_size_8abf5_1 : decode cJx4a65c_size_8abf5 1 = .ok (.getfield 48, 3) := by decide +kernel
theorem dJx4a65c_size_8abf5_4 : decode cJx4a65c_size_8abf5 4 = .ok (.ireturn, 1) := by decide +kernel
theorem dJx4a65c_elementData_915e3_0 : decode cJx4a65c_elementData_915e3 0 = .ok (.aload_n 0, 1) := by decide +kernel
theorem dJx4a65c_elementData_915e3_1 : decode cJx4a65c_elementData_915e3 1 = .ok (.getfield 9, 3) := by decide +kernel
theorem dJx4a65c_elementData_915e3_4 : decode cJx4a65c_elementData_915e3 4 = .ok (.iload_n 1, 1) := by decide +kernel
theorem dJx4a65c_elementData_915e3_5 : decode cJx4a65c_elementData_915e3 5 = .ok (.aaload, 1) := by decide +kernel
theorem dJx4a65c_elementData_915e3_6 : decode cJx4a65c_elementData_915e3 6 = .ok (.areturn, 1) := by decide +kernel
set_option maxRecDepth 20000 in
theorem ggJx4a65c_get_915e3_J15_checkIndex_7cf53 : GoodIn wsJx4a65c_get_915e3 wsJ15_checkIndex_7cf53 := goodIn_r _ [5, 6, 7, 8, 9] (by decide +kernel) (by decide +kernel)
set_option maxRecDepth 20000 in
theorem gJx4a65c_get_915e3_J15_checkIndex_7cf53 : GoodIn wsJx4a65c_get_915e3 (va_wsS RJx4a65c 118 yJ15_checkIndex_7cf53 wsJ15_checkIndex_7cf53) := goodIn_app (goodIn_of _ (by decide +kernel)) ggJx4a65c_get_915e3_J15_checkIndex_7cf53
set_option maxRecDepth 20000 in
theorem ggJx4a65c_get_915e3_Jx4a65c_elementData_915e3 : GoodIn wsJx4a65c_get_915e3 wsJx4a65c_elementData_915e3 := goodIn_r _ [14, 15, 16, 17, 18] (by decide +kernel) (by decide +kernel)
set_option maxRecDepth 20000 in
theorem gJx4a65c_get_915e3_Jx4a65c_elementData_915e3 : GoodIn wsJx4a65c_get_915e3 (wsV RJx4a65c 123 RJx4a65c yJx4a65c_elementData_915e3 wsJx4a65c_elementData_915e3) := goodIn_app (goodIn_of _ (by decide +kernel)) ggJx4a65c_get_915e3_Jx4a65c_elementData_915e3
theorem dJx4a65c_get_915e3_0 : decode cJx4a65c_get_915e3 0 = .ok (.iload_n 1, 1) := by decide +kernel
theorem dJx4a65c_get_915e3_1 : decode cJx4a65c_get_915e3 1 = .ok (.aload_n 0, 1) := by decide +kernel
theorem dJx4a65c_get_915e3_2 : decode cJx4a65c_get_915e3 2 = .ok (.getfield 48, 3) := by decide +kernel
theorem dJx4a65c_get_915e3_5 : decode cJx4a65c_get_915e3 5 = .ok (.invokestatic 118, 3) := by decide +kernel
theorem dJx4a65c_get_915e3_8 : decode cJx4a65c_get_915e3 8 = .ok (.pop, 1) := by decide +kernel
theorem dJx4a65c_get_915e3_9 : decode cJx4a65c_get_915e3 9 = .ok (.aload_n 0, 1) := by decide +kernel
theorem dJx4a65c_get_915e3_10 : decode cJx4a65c_get_915e3 10 = .ok (.iload_n 1, 1) := by decide +kernel
theorem dJx4a65c_get_915e3_11 : decode cJx4a65c_get_915e3 11 = .ok (.invokevirtual 123, 3) := by decide +kernel
theorem dJx4a65c_get_915e3_14 : decode cJx4a65c_get_915e3 14 = .ok (.areturn, 1) := by decide +kernel
set_option maxRecDepth 20000 in
theorem ggJx4a65c_add_72be8_Jx4a65c_grow_d5877 : GoodIn wsJx4a65c_add_72be8 wsJx4a65c_grow_d5877 := goodIn_r _ [6, 1, 7, 8, 9, 5, 10, 11, 12, 13, 14, 15, 16, 17, 18, 19, 20, 21, 22, 23, 24, 25, 26, 27, 28, 29, 30, 31, 32, 33, 34, 35, 36, 37, 38, 39, 40, 41, 42, 43, 44, 45, 46, 47, 48, 49] (by decide +kernel) (by decide +kernel)
set_option maxRecDepth 20000 in
theorem gJx4a65c_add_72be8_Jx4a65c_grow_d5877 : GoodIn wsJx4a65c_add_72be8 (wsV RJx4a65c 129 RJx4a65c yJx4a65c_grow_d5877 wsJx4a65c_grow_d5877) := goodIn_app (goodIn_of _ (by decide +kernel)) ggJx4a65c_add_72be8_Jx4a65c_grow_d5877
theorem dJx4a65c_add_72be8_0 : decode cJx4a65c_add_72be8 0 = .ok (.iload_n 3, 1) := by decide +kernel
theorem dJx4a65c_add_72be8_1 : decode cJx4a65c_add_72be8 1 = .ok (.aload_n 2, 1) := by decide +kernel
theorem dJx4a65c_add_72be8_2 : decode cJx4a65c_add_72be8 2 = .ok (.arraylength, 1) := by decide +kernel
theorem dJx4a65c_add_72be8_3 : decode cJx4a65c_add_72be8 3 = .ok (.if_icmp .ne 8, 3) := by decide +kernel
theorem dJx4a65c_add_72be8_6 : decode cJx4a65c_add_72be8 6 = .ok (.aload_n 0, 1) := by decide +kernel
theorem dJx4a65c_add_72be8_7 : decode cJx4a65c_add_72be8 7 = .ok (.invokevirtual 129, 3) := by decide +kernel
theorem dJx4a65c_add_72be8_10 : decode cJx4a65c_add_72be8 10 = .ok (.astore_n 2, 1) := by decide +kernel
theorem dJx4a65c_add_72be8_11 : decode cJx4a65c_add_72be8 11 = .ok (.aload_n 2, 1) := by decide +kernel
theorem dJx4a65c_add_72be8_12 : decode cJx4a65c_add_72be8 12 = .ok (.iload_n 3, 1) := by decide +kernel
theorem dJx4a65c_add_72be8_13 : decode cJx4a65c_add_72be8 13 = .ok (.aload_n 1, 1) := by decide +kernel
theorem dJx4a65c_add_72be8_14 : decode cJx4a65c_add_72be8 14 = .ok (.aastore, 1) := by decide +kernel
theorem dJx4a65c_add_72be8_15 : decode cJx4a65c_add_72be8 15 = .ok (.aload_n 0, 1) := by decide +kernel
theorem dJx4a65c_add_72be8_16 : decode cJx4a65c_add_72be8 16 = .ok (.iload_n 3, 1) := by decide +kernel
theorem dJx4a65c_add_72be8_17 : decode cJx4a65c_add_72be8 17 = .ok (.iconst 1, 1) := by decide +kernel
theorem dJx4a65c_add_72be8_18 : decode cJx4a65c_add_72be8 18 = .ok (.iadd, 1) := by decide +kernel
theorem dJx4a65c_add_72be8_19 : decode cJx4a65c_add_72be8 19 = .ok (.putfield 48, 3) := by decide +kernel
theorem dJx4a65c_add_72be8_22 : decode cJx4a65c_add_72be8 22 = .ok (.return_, 1) := by decide +kernel
set_option maxRecDepth 20000 in
theorem ggJx4a65c_add_9ea2d_Jx4a65c_add_72be8 : GoodIn wsJx4a65c_add_9ea2d wsJx4a65c_add_72be8 := goodIn_r _ [9, 4, 10, 11, 12, 8, 13, 14, 15, 16, 17, 3, 18, 19, 20, 21, 22, 23, 24, 25, 26, 27, 28, 29, 30, 31, 32, 33, 34, 35, 36, 37, 38, 39, 40, 41, 42, 43, 44, 45, 46, 47, 48, 49, 50, 51, 52, 53, 54, 55] (by decide +kernel) (by decide +kernel)
set_option maxRecDepth 20000 in
theorem gJx4a65c_add_9ea2d_Jx4a65c_add_72be8 : GoodIn wsJx4a65c_add_9ea2d (wsV RJx4a65c 131 RJx4a65c yJx4a65c_add_72be8 wsJx4a65c_add_72be8) := goodIn_app (goodIn_of _ (by decide +kernel)) ggJx4a65c_add_9ea2d_Jx4a65c_add_72be8
theorem dJx4a65c_add_9ea2d_0 : decode cJx4a65c_add_9ea2d 0 = .ok (.aload_n 0, 1) := by decide +kernel
theorem dJx4a65c_add_9ea2d_1 : decode cJx4a65c_add_9ea2d 1 = .ok (.dup, 1) := by decide +kernel
theorem dJx4a65c_add_9ea2d_2 : decode cJx4a65c_add_9ea2d 2 = .ok (.getfield 63, 3) := by decide +kernel
theorem dJx4a65c_add_9ea2d_5 : decode cJx4a65c_add_9ea2d 5 = .ok (.iconst 1, 1) := by decide +kernel
theorem dJx4a65c_add_9ea2d_6 : decode cJx4a65c_add_9ea2d 6 = .ok (.iadd, 1) := by decide +kernel
theorem dJx4a65c_add_9ea2d_7 : decode cJx4a65c_add_9ea2d 7 = .ok (.putfield 63, 3) := by decide +kernel
theorem dJx4a65c_add_9ea2d_10 : decode cJx4a65c_add_9ea2d 10 = .ok (.aload_n 0, 1) := by decide +kernel
theorem dJx4a65c_add_9ea2d_11 : decode cJx4a65c_add_9ea2d 11 = .ok (.aload_n 1, 1) := by decide +kernel
theorem dJx4a65c_add_9ea2d_12 : decode cJx4a65c_add_9ea2d 12 = .ok (.aload_n 0, 1) := by decide +kernel
theorem dJx4a65c_add_9ea2d_13 : decode cJx4a65c_add_9ea2d 13 = .ok (.getfield 9, 3) := by decide +kernel
theorem dJx4a65c_add_9ea2d_16 : decode cJx4a65c_add_9ea2d 16 = .ok (.aload_n 0, 1) := by decide +kernel
theorem dJx4a65c_add_9ea2d_17 : decode cJx4a65c_add_9ea2d 17 = .ok (.getfield 48, 3) := by decide +kernel
theorem dJx4a65c_add_9ea2d_20 : decode cJx4a65c_add_9ea2d 20 = .ok (.invokevirtual 131, 3) := by decide +kernel
theorem dJx4a65c_add_9ea2d_23 : decode cJx4a65c_add_9ea2d 23 = .ok (.iconst 1, 1) := by decide +kernel
theorem dJx4a65c_add_9ea2d_24 : decode cJx4a65c_add_9ea2d 24 = .ok (.ireturn, 1) := by decide +kernel
theorem dJx4a65c_clear_da8c8_0 : decode cJx4a65c_clear_da8c8 0 = .ok (.aload_n 0, 1) := by decide +kernel
theorem dJx4a65c_clear_da8c8_1 : decode cJx4a65c_clear_da8c8 1 = .ok (.dup, 1) := by decide +kernel
theorem dJx4a65c_clear_da8c8_2 : decode cJx4a65c_clear_da8c8 2 = .ok (.getfield 63, 3) := by decide +kernel
theorem dJx4a65c_clear_da8c8_5 : decode cJx4a65c_clear_da8c8 5 = .ok (.iconst 1, 1) := by decide +kernel
theorem dJx4a65c_clear_da8c8_6 : decode cJx4a65c_clear_da8c8 6 = .ok (.iadd, 1) := by decide +kernel
theorem dJx4a65c_clear_da8c8_7 : decode cJx4a65c_clear_da8c8 7 = .ok (.putfield 63, 3) := by decide +kernel
theorem dJx4a65c_clear_da8c8_10 : decode cJx4a65c_clear_da8c8 10 = .ok (.aload_n 0, 1) := by decide +kernel
theorem dJx4a65c_clear_da8c8_11 : decode cJx4a65c_clear_da8c8 11 = .ok (.getfield 9, 3) := by decide +kernel
theorem dJx4a65c_clear_da8c8_14 : decode cJx4a65c_clear_da8c8 14 = .ok (.astore_n 1, 1) := by decide +kernel
theorem dJx4a65c_clear_da8c8_15 : decode cJx4a65c_clear_da8c8 15 = .ok (.aload_n 0, 1) := by decide +kernel
theorem dJx4a65c_clear_da8c8_16 : decode cJx4a65c_clear_da8c8 16 = .ok (.getfield 48, 3) := by decide +kernel
theorem dJx4a65c_clear_da8c8_19 : decode cJx4a65c_clear_da8c8 19 = .ok (.istore_n 2, 1) := by decide +kernel
theorem dJx4a65c_clear_da8c8_20 : decode cJx4a65c_clear_da8c8 20 = .ok (.aload_n 0, 1) := by decide +kernel
theorem dJx4a65c_clear_da8c8_21 : decode cJx4a65c_clear_da8c8 21 = .ok (.iconst 0, 1) := by decide +kernel
theorem dJx4a65c_clear_da8c8_22 : decode cJx4a65c_clear_da8c8 22 = .ok (.dup_x1, 1) := by decide +kernel
theorem dJx4a65c_clear_da8c8_23 : decode cJx4a65c_clear_da8c8 23 = .ok (.putfield 48, 3) := by decide +kernel
theorem dJx4a65c_clear_da8c8_26 : decode cJx4a65c_clear_da8c8 26 = .ok (.istore_n 3, 1) := by decide +kernel
theorem dJx4a65c_clear_da8c8_27 : decode cJx4a65c_clear_da8c8 27 = .ok (.iload_n 3, 1) := by decide +kernel
theorem dJx4a65c_clear_da8c8_28 : decode cJx4a65c_clear_da8c8 28 = .ok (.iload_n 2, 1) := by decide +kernel
theorem dJx4a65c_clear_da8c8_29 : decode cJx4a65c_clear_da8c8 29 = .ok (.if_icmp .ge 13, 3) := by decide +kernel
theorem dJx4a65c_clear_da8c8_32 : decode cJx4a65c_clear_da8c8 32 = .ok (.aload_n 1, 1) := by decide +kernel
theorem dJx4a65c_clear_da8c8_33 : decode cJx4a65c_clear_da8c8 33 = .ok (.iload_n 3, 1) := by decide +kernel
theorem dJx4a65c_clear_da8c8_34 : decode cJx4a65c_clear_da8c8 34 = .ok (.aconst_null, 1) := by decide +kernel
theorem dJx4a65c_clear_da8c8_35 : decode cJx4a65c_clear_da8c8 35 = .ok (.aastore, 1) := by decide +kernel
theorem dJx4a65c_clear_da8c8_36 : decode cJx4a65c_clear_da8c8 36 = .ok (.iinc 3 1, 3) := by decide +kernel
theorem dJx4a65c_clear_da8c8_39 : decode cJx4a65c_clear_da8c8 39 = .ok (.goto (-12), 3) := by decide +kernel
theorem dJx4a65c_clear_da8c8_42 : decode cJx4a65c_clear_da8c8 42 = .ok (.return_, 1) := by decide +kernel
set_option maxRecDepth 20000 in
theorem ggJ15_checkIndex_7cf53_J3_checkIndex_8e157 : GoodIn wsJ15_checkIndex_7cf53 wsJ3_checkIndex_8e157 := goodIn_r _ [4] (by decide +kernel) (by decide +kernel)
set_option maxRecDepth 20000 in
theorem gJ15_checkIndex_7cf53_J3_checkIndex_8e157 : GoodIn wsJ15_checkIndex_7cf53 (va_wsS RJ15 105 yJ3_checkIndex_8e157 wsJ3_checkIndex_8e157) := goodIn_app (goodIn_of _ (by decide +kernel)) ggJ15_checkIndex_7cf53_J3_checkIndex_8e157
theorem dJ15_checkIndex_7cf53_0 : decode cJ15_checkIndex_7cf53 0 = .ok (.iload_n 0, 1) := by decide +kernel
theorem dJ15_checkIndex_7cf53_1 : decode cJ15_checkIndex_7cf53 1 = .ok (.iload_n 1, 1) := by decide +kernel
theorem dJ15_checkIndex_7cf53_2 : decode cJ15_checkIndex_7cf53 2 = .ok (.aconst_null, 1) := by decide +kernel
theorem dJ15_checkIndex_7cf53_3 : decode cJ15_checkIndex_7cf53 3 = .ok (.invokestatic 105, 3) := by decide +kernel
theorem dJ15_checkIndex_7cf53_6 : decode cJ15_checkIndex_7cf53 6 = .ok (.ireturn, 1) := by decide +kernel
theorem dJ3_checkIndex_8e157_0 : decode cJ3_checkIndex_8e157 0 = .ok (.iload_n 0, 1) := by decide +kernel
theorem dJ3_checkIndex_8e157_1 : decode cJ3_checkIndex_8e157 1 = .ok (.ifCond .lt 8, 3) := by decide +kernel
theorem dJ3_checkIndex_8e157_4 : decode cJ3_checkIndex_8e157 4 = .ok (.iload_n 0, 1) := by decide +kernel
theorem dJ3_checkIndex_8e157_5 : decode cJ3_checkIndex_8e157 5 = .ok (.iload_n 1, 1) := by decide +kernel
theorem dJ3_checkIndex_8e157_6 : decode cJ3_checkIndex_8e157 6 = .ok (.if_icmp .lt 10, 3) := by decide +kernel
theorem dJ3_checkIndex_8e157_9 : decode cJ3_checkIndex_8e157 9 = .ok (.aload_n 2, 1) := by decide +kernel
theorem dJ3_checkIndex_8e157_10 : decode cJ3_checkIndex_8e157 10 = .ok (.iload_n 0, 1) := by decide +kernel
theorem dJ3_checkIndex_8e157_11 : decode cJ3_checkIndex_8e157 11 = .ok (.iload_n 1, 1) := by decide +kernel
theorem dJ3_checkIndex_8e157_12 : decode cJ3_checkIndex_8e157 12 = .ok (.invokestatic 95, 3) := by decide +kernel
theorem dJ3_checkIndex_8e157_15 : decode cJ3_checkIndex_8e157 15 = .ok (.athrow, 1) := by decide +kernel
theorem dJ3_checkIndex_8e157_16 : decode cJ3_checkIndex_8e157 16 = .ok (.iload_n 0, 1) := by decide +kernel
theorem dJ3_checkIndex_8e157_17 : decode cJ3_checkIndex_8e157 17 = .ok (.ireturn, 1) := by decide +kernel
set_option maxRecDepth 20000 in
theorem ggL_ground_X11_ground : GoodIn wsL_ground wsX11_ground := goodIn_ca (goodIn_r _ [6, 7, 8, 9, 10, 11, 5, 12, 13, 14, 15, 16, 17, 18, 19, 20, 21, 22, 23, 24, 25, 26, 27, 30, 31, 32, 33, 34, 35, 36, 37, 38, 39, 40, 41, 42, 43, 44, 45, 46, 47] (by decide +kernel) (by decide +kernel)) (goodIn_sub (fun _ h => List.mem_cons_of_mem _ (List.mem_append_right _ h)) (by decide +kernel))
set_option maxRecDepth 20000 in
theorem gL_ground_X11_ground : GoodIn wsL_ground (wsV RL 7 RX11 yX11_ground wsX11_ground) := goodIn_app (goodIn_of _ (by decide +kernel)) ggL_ground_X11_ground
theorem dL_ground_0 : decode cL_ground 0 = .ok (.aload_n 2, 1) := by decide +kernel
theorem dL_ground_1 : decode cL_ground 1 = .ok (.aload_n 0, 1) := by decide +kernel
theorem dL_ground_2 : decode cL_ground 2 = .ok (.iload_n 1, 1) := by decide +kernel
theorem dL_ground_3 : decode cL_ground 3 = .ok (.invokevirtual 7, 3) := by decide +kernel
theorem dL_ground_6 : decode cL_ground 6 = .ok (.i2l, 1) := by decide +kernel
theorem dL_ground_7 : decode cL_ground 7 = .ok (.putfield 13, 3) := by decide +kernel
theorem dL_ground_10 : decode cL_ground 10 = .ok (.goto 6, 3) := by decide +kernel
theorem dL_ground_13 : decode cL_ground 13 = .ok (.astore_n 3, 1) := by decide +kernel
theorem dL_ground_14 : decode cL_ground 14 = .ok (.iconst 1, 1) := by decide +kernel
theorem dL_ground_15 : decode cL_ground 15 = .ok (.ireturn, 1) := by decide +kernel
theorem dL_ground_16 : decode cL_ground 16 = .ok (.iconst 0, 1) := by decide +kernel
theorem dL_ground_17 : decode cL_ground 17 = .ok (.ireturn, 1) := by decide +kernel
set_option maxRecDepth 20000 in
theorem ggL_die_X11_die : GoodIn wsL_die wsX11_die := goodIn_ca (goodIn_r _ [6, 7, 8, 9, 10, 5, 11, 12, 13, 14, 15, 16, 17, 18, 19, 20, 21, 22, 23, 24, 25, 26, 27, 28, 29, 30, 31, 32, 33, 34, 35, 36, 37, 38, 39, 42, 43, 44, 45, 46, 47, 48, 49, 50, 51, 52, 53, 54, 55, 56, 57, 58, 59] (by decide +kernel) (by decide +kernel)) (goodIn_sub (fun _ h => List.mem_cons_of_mem _ (List.mem_append_right _ h)) (by decide +kernel))
set_option maxRecDepth 20000 in
theorem gL_die_X11_die : GoodIn wsL_die (wsV RL 27 RX11 yX11_die wsX11_die) := goodIn_app (goodIn_of _ (by decide +kernel)) ggL_die_X11_die
theorem dL_die_0 : decode cL_die 0 = .ok (.aload_n 3, 1) := by decide +kernel
theorem dL_die_1 : decode cL_die 1 = .ok (.aload_n 0, 1) := by decide +kernel
theorem dL_die_2 : decode cL_die 2 = .ok (.iload_n 1, 1) := by decide +kernel
theorem dL_die_3 : decode cL_die 3 = .ok (.iload_n 2, 1) := by decide +kernel
theorem dL_die_4 : decode cL_die 4 = .ok (.invokevirtual 27, 3) := by decide +kernel
theorem dL_die_7 : decode cL_die 7 = .ok (.i2l, 1) := by decide +kernel
theorem dL_die_8 : decode cL_die 8 = .ok (.putfield 13, 3) := by decide +kernel
theorem dL_die_11 : decode cL_die 11 = .ok (.goto 7, 3) := by decide +kernel
theorem dL_die_14 : decode cL_die 14 = .ok (.astore 4, 2) := by decide +kernel
theorem dL_die_16 : decode cL_die 16 = .ok (.iconst 1, 1) := by decide +kernel
theorem dL_die_17 : decode cL_die 17 = .ok (.ireturn, 1) := by decide +kernel
theorem dL_die_18 : decode cL_die 18 = .ok (.iconst 0, 1) := by decide +kernel
theorem dL_die_19 : decode cL_die 19 = .ok (.ireturn, 1) := by decide +kernel
set_option maxRecDepth 20000 in
theorem ggL_family_X11_family : GoodIn wsL_family wsX11_family := goodIn_ca (goodIn_r _ [6, 7, 8, 9, 10, 5, 11, 12, 13, 14, 15, 16, 17, 18, 19, 20, 21, 22, 23, 24, 25, 26, 27, 28, 29, 30, 31, 32, 33, 34, 35, 36, 37, 38, 39, 40, 41, 42, 43, 44, 45, 48, 49, 50, 51, 52, 53, 54, 55, 56, 57, 58, 59, 60, 61, 62, 63, 64, 65] (by decide +kernel) (by decide +kernel)) (goodIn_sub (fun _ h => List.mem_cons_of_mem _ (List.mem_append_right _ h)) (by decide +kernel))
set_option maxRecDepth 20000 in
theorem gL_family_X11_family : GoodIn wsL_family (wsV RL 31 RX11 yX11_family wsX11_family) := goodIn_app (goodIn_of _ (by decide +kernel)) ggL_family_X11_family
theorem dL_family_0 : decode cL_family 0 = .ok (.aload_n 1, 1) := by decide +kernel
theorem dL_family_1 : decode cL_family 1 = .ok (.aload_n 0, 1) := by decide +kernel
theorem dL_family_2 : decode cL_family 2 = .ok (.invokevirtual 31, 3) := by decide +kernel
theorem dL_family_5 : decode cL_family 5 = .ok (.i2l, 1) := by decide +kernel
theorem dL_family_6 : decode cL_family 6 = .ok (.putfield 13, 3) := by decide +kernel
theorem dL_family_9 : decode cL_family 9 = .ok (.goto 6, 3) := by decide +kernel
theorem dL_family_12 : decode cL_family 12 = .ok (.astore_n 2, 1) := by decide +kernel
theorem dL_family_13 : decode cL_family 13 = .ok (.iconst 1, 1) := by decide +kernel
theorem dL_family_14 : decode cL_family 14 = .ok (.ireturn, 1) := by decide +kernel
theorem dL_family_15 : decode cL_family 15 = .ok (.iconst 0, 1) := by decide +kernel
theorem dL_family_16 : decode cL_family 16 = .ok (.ireturn, 1) := by decide +kernel
set_option maxRecDepth 20000 in
theorem ggL_game_X11_game : GoodIn wsL_game wsX11_game := goodIn_ca (goodIn_r _ [6, 7, 8, 9, 10, 11, 5, 12, 13, 14, 15, 16, 17, 18, 19, 20, 21, 22, 23, 24, 25, 26, 27, 28, 29, 30, 31, 32, 33, 34, 35, 36, 37, 38, 39, 40, 41, 42, 43, 44, 45, 46, 47, 48, 49, 50, 51, 52, 53, 54, 55, 56, 57, 58, 59, 60, 61, 62, 63, 64, 65, 66, 67, 68, 69, 70, 71, 72, 73, 74, 75, 76, 77, 78, 79, 80, 81, 82, 83, 84, 85, 86, 87, 88, 89, 90, 93, 94, 95, 96, 97, 98, 99, 100, 101, 102, 103, 104, 105, 106, 107, 108, 109, 110, 111, 112, 113, 114, 115, 116, 117, 118] (by decide +kernel) (by decide +kernel)) (goodIn_sub (fun _ h => List.mem_cons_of_mem _ (List.mem_append_right _ h)) (by decide +kernel))
set_option maxRecDepth 20000 in
theorem gL_game_X11_game : GoodIn wsL_game (wsV RL 93 RX11 yX11_game wsX11_game) := goodIn_app (goodIn_of _ (by decide +kernel)) ggL_game_X11_game
theorem dL_game_0 : decode cL_game 0 = .ok (.aload_n 2, 1) := by decide +kernel
theorem dL_game_1 : decode cL_game 1 = .ok (.aload_n 0, 1) := by decide +kernel
theorem dL_game_2 : decode cL_game 2 = .ok (.iload_n 1, 1) := by decide +kernel
theorem dL_game_3 : decode cL_game 3 = .ok (.invokevirtual 93, 3) := by decide +kernel
theorem dL_game_6 : decode cL_game 6 = .ok (.i2l, 1) := by decide +kernel
theorem dL_game_7 : decode cL_game 7 = .ok (.putfield 13, 3) := by decide +kernel
theorem dL_game_10 : decode cL_game 10 = .ok (.goto 6, 3) := by decide +kernel
theorem dL_game_13 : decode cL_game 13 = .ok (.astore_n 3, 1) := by decide +kernel
theorem dL_game_14 : decode cL_game 14 = .ok (.iconst 1, 1) := by decide +kernel
theorem dL_game_15 : decode cL_game 15 = .ok (.ireturn, 1) := by decide +kernel
theorem dL_game_16 : decode cL_game 16 = .ok (.iconst 0, 1) := by decide +kernel
theorem dL_game_17 : decode cL_game 17 = .ok (.ireturn, 1) := by decide +kernel
end
section
/-! the kinds of cells, the array classes, what is known of the tables; a contract's start -/
abbrev rfCl : List vw_C := [(RX3, TX3, 3), (RX7, TX7, 3), (RX0, TX0, 5), (RX4, TX4, 5), (RX5, TX5, 5), (RX6, TX6, 5), (RX1, TX1, 2), (RX8, TX8, 3), (RX10, TX10, 4), (RX2, TX2, 7), (RX9, TX9, 6), (RX11, TX11, 15), (RX12, TX12, 2), (RJx4a65c, TJx4a65c, 3), (RX14, TX14, 9)]
abbrev rfT (aC : Nat → ClassId) : List (ClassId × FieldType) := [(aC 0, .boolean), (aC 1, .int), (aC 2, .long), (aC 3, .byte), (aC 4, .object "Transversary$Sets"), (aC 5, .object "java/lang/Object")]
def rf_nestL : List (String × Nat × MethodName × String) := [(RX3, 26, yX11_sizeOf, "Transversary"), (RX5, 33, yX11_sizeOf, "Transversary"), (RX5, 29, yX11_isIn, "Transversary"), (RX0, 11, yX7_init, "Transversary"), (RX6, 11, yX7_init, "Transversary"), (RX10, 11, yX7_init, "Transversary"), (RX1, 11, yX7_init, "Transversary"), (RX11, 11, yX3_init, "Transversary"), (RX11, 22, yX7_init, "Transversary"), (RX11, 35, yX0_init, "Transversary"), (RX11, 42, yX4_init, "Transversary"), (RX11, 74, yX8_init, "Transversary"), (RX11, 81, yX10_init, "Transversary"), (RX11, 88, yX2_init, "Transversary"), (RX11, 95, yX9_init, "Transversary")]
def rf_N (U : State) : Prop := (∀ q ∈ rf_nestL, va_Nw (.methodLinkNest q.1 q.2.1 q.2.2.1 q.2.2.2) U) ∧ (va_AO "Transversary$Sets" U ∧ va_AO "java/lang/Object" U ∧ va_AOA .long U ∧ va_AOA .int U ∧ va_Nw (.castable "[Z" "java/lang/Object") U)
theorem rf_N.moved {s U : State} (hW : s.WarmedH U.vm) (h : rf_N s) : rf_N U := ⟨fun q hq => va_Nw.warmM hW (h.1 q hq), h.2.1.moved hW.alike, h.2.2.1.moved hW.alike, h.2.2.2.1.moved hW.alike, h.2.2.2.2.1.moved hW.alike, h.2.2.2.2.2.warmC hW⟩
theorem rf_N.same {s U : State} (hW : s.vm = U.vm) (h : rf_N s) : rf_N U := h.moved (by rw [← hW]; exact State.WarmedH.refl s)
theorem rf_nst {U : State} (h : rf_N U) (k : Nat) {q : String × Nat × MethodName × String} (hq : rf_nestL[k]? = some q) : va_Nw (.methodLinkNest q.1 q.2.1 q.2.2.1 q.2.2.2) U := h.1 q (List.mem_of_getElem? hq)
def rf_K (D : va_G) (aC : Nat → ClassId) (U : State) : Prop := va_K D rfCl (rfT aC) U ∧ rf_N U
def rf_Pc (D : va_G) (aC : Nat → ClassId) (av : List Value) (ws : va_W) (sz : Nat) : Array Value → State → Prop := va_Pc av (fun U => U.heap.size = sz ∧ va_P D rfCl ws U.heap ∧ rf_K D aC U ∧ va_D (fun _ => True) ws)
theorem rf_blind {D : va_G} {aC : Nat → ClassId} {av : List Value} {ws : va_W} {sz : Nat} : FrameBlind (rf_Pc D aC av ws sz) := by
  intro a U g mk q
  obtain ⟨q0, q1, qP, qK, qD⟩ := q
  exact ⟨q0, q1, qP, ⟨va_K.moved (u := U) (U := U.calling g mk a) (Vm.Alike.refl U.vm) qK.1, qK.2.same rfl⟩, qD⟩
theorem rf_at {D : va_G} {aC : Nat → ClassId} {av : List Value} {ws : va_W} {A : Nat → Prop} {s : State} {H : Heap} (hK : va_K D rfCl (rfT aC) s) (hN : rf_N s) (hP : va_P D rfCl ws H) (hD : va_D A ws) : ∀ U : State, U.heap = H → s.WarmedH U.vm → rf_Pc D aC av ws H.size av.toArray U :=
  fun U hU hW => ⟨rfl, by rw [hU], by rw [hU]; exact hP, ⟨va_K.moved hW.alike hK, hN.moved hW⟩, hD.weaken (fun _ _ _ _ => trivial)⟩
theorem rf_pv {D : va_G} {aC : Nat → ClassId} {As : List Value} {b : Addr} {C : String} {ws : va_W} {A : Nat → Prop} {s : State} {H : Heap} (hK : va_K D rfCl (rfT aC) s) (hN : rf_N s) (hP : va_P D rfCl ws H) (hD : va_D A ws)
    (hr : ∃ cellB : Cell, H[b]? = some cellB ∧ cellB.vm.isStatics = false ∧ s.vm.findClass C = some cellB.cls) : PreV s H C b (rf_Pc D aC (.ref b :: As) ws H.size) As := ⟨rf_blind, hr, rf_at hK hN hP hD⟩
theorem rf_ps {D : va_G} {aC : Nat → ClassId} {As : List Value} {ws : va_W} {A : Nat → Prop} {s : State} {H : Heap} (hK : va_K D rfCl (rfT aC) s) (hN : rf_N s) (hP : va_P D rfCl ws H) (hD : va_D A ws) : PreS s H (rf_Pc D aC As ws H.size) As := ⟨rf_blind, rf_at hK hN hP hD⟩
/-- the list's static empty row, at the address ev, its own cell outside of what the method may write -/
def rf_ZV (ev : Nat) (A : Nat → Prop) (U : State) (H : Heap) : Prop := va_Z "java/util/ArrayList" "DEFAULTCAPACITY_EMPTY_ELEMENTDATA" "[Ljava/lang/Object;" (.ref ev) A U H
def rf_PcZ (D : va_G) (aC : Nat → ClassId) (av : List Value) (ws : va_W) (sz : Nat) (ev : Nat) : Array Value → State → Prop := fun v U => rf_Pc D aC av ws sz v U ∧ rf_ZV ev (va_A ws sz) U U.heap
theorem rf_blindZ {D : va_G} {aC : Nat → ClassId} {av : List Value} {ws : va_W} {sz ev : Nat} : FrameBlind (rf_PcZ D aC av ws sz ev) := fun a U g mk q => ⟨rf_blind a U g mk q.1, va_Z.moved (u := U) (U := U.calling g mk a) (Vm.Alike.refl U.vm) q.2⟩
theorem rf_atZ {D : va_G} {aC : Nat → ClassId} {av : List Value} {ws : va_W} {A : Nat → Prop} {s : State} {H : Heap} {locs : List Loc} {ev : Nat} (hK : va_K D rfCl (rfT aC) s) (hN : rf_N s) (hP : va_P D rfCl ws H) (hD : va_D A ws) (hZ : rf_ZV ev A s s.heap) (hS : va_S A s.heap H locs) (hF : ∀ q, va_A ws H.size q → A q) :
    ∀ U : State, U.heap = H → s.WarmedH U.vm → rf_PcZ D aC av ws H.size ev av.toArray U := by
  intro U hU hW
  refine ⟨rf_at hK hN hP hD U hU hW, ?_⟩
  have h1 : va_Z "java/util/ArrayList" "DEFAULTCAPACITY_EMPTY_ELEMENTDATA" "[Ljava/lang/Object;" (.ref ev) A s H := va_Z.kept hZ hS.2.1
  have h2 := (h1.moved hW.alike).narrow hF
  unfold rf_ZV
  rw [hU]
  exact h2
theorem rf_psZ {D : va_G} {aC : Nat → ClassId} {As : List Value} {ws : va_W} {A : Nat → Prop} {s : State} {H : Heap} {locs : List Loc} {ev : Nat} (hK : va_K D rfCl (rfT aC) s) (hN : rf_N s) (hP : va_P D rfCl ws H) (hD : va_D A ws) (hZ : rf_ZV ev A s s.heap) (hS : va_S A s.heap H locs) (hF : ∀ q, va_A ws H.size q → A q) :
    PreS s H (rf_PcZ D aC As ws H.size ev) As := ⟨rf_blindZ, rf_atZ hK hN hP hD hZ hS hF⟩
theorem rf_pvZ {D : va_G} {aC : Nat → ClassId} {As : List Value} {b : Addr} {C : String} {ws : va_W} {A : Nat → Prop} {s : State} {H : Heap} {locs : List Loc} {ev : Nat} (hK : va_K D rfCl (rfT aC) s) (hN : rf_N s) (hP : va_P D rfCl ws H) (hD : va_D A ws)
    (hr : ∃ cellB : Cell, H[b]? = some cellB ∧ cellB.vm.isStatics = false ∧ s.vm.findClass C = some cellB.cls) (hZ : rf_ZV ev A s s.heap) (hS : va_S A s.heap H locs) (hF : ∀ q, va_A ws H.size q → A q) :
    PreV s H C b (rf_PcZ D aC (.ref b :: As) ws H.size ev) As := ⟨rf_blindZ, hr, rf_atZ hK hN hP hD hZ hS hF⟩
theorem rf_anyZ {D : va_G} {aC : Nat → ClassId} {ws : va_W} {s : State} {H : Heap} {a n : Nat} {f : Nat → Int32} (hK : va_K D rfCl (rfT aC) s) (hN : rf_N s) (hP : va_P D rfCl ws H) (q0 : Nat) (he : ws[q0]? = some (a, .inl (aC 0, n, .inl f))) : va_Any "java/lang/Object" s H a := by
  obtain ⟨c0, t0, h1, h2, h3⟩ := Cond.castable_spec (show (Cond.castable "[Z" "java/lang/Object").before #[] s = true from hN.2.2.2.2.2)
  have hz : s.vm.findClass ("[" ++ FieldType.toString .boolean) = some (aC 0) := (hK.2 0 _ rfl).2
  rw [show "[" ++ FieldType.toString .boolean = "[Z" from by decide +kernel] at hz
  cases Option.some.inj (h1.symm.trans hz)
  obtain ⟨k, hk, -⟩ := Vm.findClass_spec hz
  refine ⟨vp_cell (aC 0) (n, .inl f), hP q0 _ he, rfl, ⟨k, hk⟩, fun comp hc => ?_⟩
  cases Option.some.inj (h2.symm.trans hc)
  exact h3
/-- a call, without what it says of the tables -/
theorem rf_cr {p : Program} {l : Launch} {e : Env} {R : Room} {s : State} {m : MethodId} {args : Array Value} {below : List Frame} {meth : Method} {c : Code} {H : Heap} {locs : List Loc} {cells slots mc ms : Nat} {g : JFrame} {rest : List Value} {Qa : State → Outcome → State → Prop} {free : Addr → Prop}
    (h : va_Run p l e R s m args below meth c H locs cells slots mc ms g rest Qa free) : CallRun p l e R s m args below meth c H locs cells slots mc ms g rest Qa free := by
  intro T hT X
  obtain ⟨v, st₀, t, T', L, h0, X', hL, e1, -, q, st⟩ := h T hT X
  exact ⟨v, st₀, t, T', L, h0, X', hL, e1, q, st⟩
/-- two array classes of one kind of component are one -/
theorem rf_sameA {D : va_G} {tys : List (ClassId × FieldType)} {s : State} {c1 c2 : ClassId} {ty : FieldType} (hK : va_K D rfCl tys s) (i j : Nat) (h1 : tys[i]? = some (c1, ty)) (h2 : tys[j]? = some (c2, ty)) : c1 = c2 := by
  have a := (hK.2 i _ h1).2
  have b := (hK.2 j _ h2).2
  cases ty with
  | object C =>
    obtain ⟨_, _, _, _, _, a4⟩ := a
    obtain ⟨_, _, _, _, _, b4⟩ := b
    exact Option.some.inj (a4.symm.trans b4)
  | _ => exact Option.some.inj (a.symm.trans b)
end
section
set_option maxHeartbeats 4000000 in
set_option maxRecDepth 100000 in
theorem c_X7_init (l : Launch) (dC : Nat → ClassId) (dI : Nat → Nat → Nat) (aC : Nat → ClassId) (sz : Nat) (h0 : Nat)  : Met l yX7_init wsX7_init ({ frames := 1, cells := 2, slots := 256, locals := 12 } : Room) (rf_Pc (dC, dI) aC [.ref h0] [(h0, .inr (1, [.null, .null, .int 0]))] sz) (va_Qv (fun (u : Nat × Nat) => True) (fun (u : Nat × Nat) t => va_P (dC, dI) rfCl [(h0, .inr (1, [.ref (u.1), .ref (u.2), .int 0])), ((u.1), .inl (aC 0, 128, .inl (fun _ => 0))), ((u.2), .inl (aC 1, 128, .inl (fun _ => 0)))] t.heap ∧ va_D (va_A [(h0, .inr (1, [.null, .null, .int 0]))] sz) [(h0, .inr (1, [.ref (u.1), .ref (u.2), .int 0])), ((u.1), .inl (aC 0, 128, .inl (fun _ => 0))), ((u.2), .inl (aC 1, 128, .inl (fun _ => 0)))]) (va_A [(h0, .inr (1, [.null, .null, .int 0]))] sz)) 2 256 (va_A [(h0, .inr (1, [.null, .null, .int 0]))] sz) := by
  refine Met.ofW (cc := cX7_init) (maxL := 1) (ret := none) (by decide) rfl ?_
  intro p e s m args below meth c s₁ B hml hv
  obtain ⟨rfl, hsz, hP, hKN, hD0⟩ := hv
  obtain ⟨hK, hN⟩ := hKN
  have hx := B.exec
  have hb := B.bytes
  have hr := B.returns
  have hts := atoms_spec (ws := wsX7_init) B.pre
  have hown : s.vm.findClass RX7 = some m.cls := findClass_of_methodNamed B.named
  have hlocks := B.notSynchronized
  have hin : meth.name = "<init>" := (name_of_methodNamed B.named B.method).1
  subst hsz
  have hD := hD0.self (sz := s.heap.size)
  generalize hAe : va_A [(h0, .inr (1, [.null, .null, .int 0]))] s.heap.size = A at hD ⊢
  have hA : ∀ q : Nat, s.heap.size ≤ q → A q := fun q h => by rw [← hAe]; exact Or.inr h
  have hS : va_S A s.heap s.heap [] := va_S.rf
  have hP : va_P (dC, dI) rfCl [(h0, .inr (1, [.null, .null, .int 0]))] s.heap := hP
  have hl := lv_entry ([.ref h0]) (n := 1) (Nat.le_of_ble_eq_true rfl)
  rw [lg_entry_eq]
  generalize (lg_sl ([.ref h0]) ++ List.replicate (1 - (lg_sl ([.ref h0])).length) Slot.unset).toArray = ls at hl ⊢
  have hl : lv_has ls 1 [(0, .ref h0)] := hl
  refine lv_aload_n hx hb dX7_init_0 rfl (lv_at hl 0 rfl) ?_
  refine W.objInit hx hb hown (hts (.methodLink RX7 3 objectInit) (by decide +kernel)) (hts (.instanceMethod objectInit) (by decide +kernel)) (hts (.code objectInit ⟨#[0xb1]⟩ 1 none) (by decide +kernel)) rfl (by rw [hml]; exact hl.1) rfl dX7_init_1 (Nat.le_of_ble_eq_true rfl) (Nat.le_of_ble_eq_true rfl) ?_
  refine W.eq (g2 := F0 m 4 ls []) rfl ?_
  refine lv_aload_n hx hb dX7_init_4 rfl (lv_at hl 0 rfl) ?_
  refine lv_sipush (v := 128) hx hb dX7_init_5 (by decide) ?_
  refine va_newa (atype := .boolean) (ty := .boolean) (a0 := (128, .inl (fun _ => 0))) hx hb (hts (.arrayClass .boolean) (by decide +kernel)) rfl hK hP hD hS hA (fun _ => rfl) (by decide) (by decide) (by decide) (Nat.le_of_ble_eq_true rfl) (Nat.le_of_ble_eq_true rfl) dX7_init_8 (fun q1 cA9 H hK hP hD hS => ?_)
  obtain rfl : cA9 = aC 0 := rf_sameA hK 6 0 rfl rfl
  have hK := hK.sub (tys' := rfT aC) [0, 1, 2, 3, 4, 5] rfl
  have hP : va_P (dC, dI) rfCl [(h0, .inr (1, [.null, .null, .int 0])), (q1, .inl (aC 0, 128, .inl (fun _ => 0)))] H := hP
  have hD : va_D A [(h0, .inr (1, [.null, .null, .int 0])), (q1, .inl (aC 0, 128, .inl (fun _ => 0)))] := hD
  refine W.widen (k := 1) (n := 128) (Nat.le_of_ble_eq_true rfl) (Nat.le_of_ble_eq_true rfl) ?_
  refine va_putF (D := (dC, dI)) (ci := 1) (v := .ref q1) (ty := (.array .boolean)) (C := RX7) (T := TX7) (N := 3) hx hb hts (by decide +kernel) tyX7 tyX7_ok nmX7 hown hK hP hD hS 0 rfl rfl 0 (by decide) (hts (.fieldLink RX7 9 "Transversary$Sets" "isHeld" "[Z") (by decide +kernel)) (fun _ h9 => h9) rfl hin rfl (by decide +kernel) rfl rfl (Nat.le_of_ble_eq_true rfl) dX7_init_10 (fun H locs hP hD hS => ?_)
  have hP : va_P (dC, dI) rfCl [(h0, .inr (1, [.ref q1, .null, .int 0])), (q1, .inl (aC 0, 128, .inl (fun _ => 0)))] H := hP
  have hD : va_D A [(h0, .inr (1, [.ref q1, .null, .int 0])), (q1, .inl (aC 0, 128, .inl (fun _ => 0)))] := hD
  refine lv_aload_n hx hb dX7_init_13 rfl (lv_at hl 0 rfl) ?_
  refine lv_sipush (v := 128) hx hb dX7_init_14 (by decide) ?_
  refine va_newa (atype := .int) (ty := .int) (a0 := (128, .inl (fun _ => 0))) hx hb (hts (.arrayClass .int) (by decide +kernel)) rfl hK hP hD hS hA (fun _ => rfl) (by decide) (by decide) (by decide) (Nat.le_of_ble_eq_true rfl) (Nat.le_of_ble_eq_true rfl) dX7_init_17 (fun q2 cA9 H hK hP hD hS => ?_)
  obtain rfl : cA9 = aC 1 := rf_sameA hK 6 1 rfl rfl
  have hK := hK.sub (tys' := rfT aC) [0, 1, 2, 3, 4, 5] rfl
  have hP : va_P (dC, dI) rfCl [(h0, .inr (1, [.ref q1, .null, .int 0])), (q1, .inl (aC 0, 128, .inl (fun _ => 0))), (q2, .inl (aC 1, 128, .inl (fun _ => 0)))] H := hP
  have hD : va_D A [(h0, .inr (1, [.ref q1, .null, .int 0])), (q1, .inl (aC 0, 128, .inl (fun _ => 0))), (q2, .inl (aC 1, 128, .inl (fun _ => 0)))] := hD
  refine W.widen (k := 2) (n := 256) (Nat.le_of_ble_eq_true rfl) (Nat.le_of_ble_eq_true rfl) ?_
  refine va_putF (D := (dC, dI)) (ci := 1) (v := .ref q2) (ty := (.array .int)) (C := RX7) (T := TX7) (N := 3) hx hb hts (by decide +kernel) tyX7 tyX7_ok nmX7 hown hK hP hD hS 0 rfl rfl 1 (by decide) (hts (.fieldLink RX7 15 "Transversary$Sets" "row" "[I") (by decide +kernel)) (fun _ h9 => h9) rfl hin rfl (by decide +kernel) rfl rfl (Nat.le_of_ble_eq_true rfl) dX7_init_19 (fun H locs hP hD hS => ?_)
  have hP : va_P (dC, dI) rfCl [(h0, .inr (1, [.ref q1, .ref q2, .int 0])), (q1, .inl (aC 0, 128, .inl (fun _ => 0))), (q2, .inl (aC 1, 128, .inl (fun _ => 0)))] H := hP
  have hD : va_D A [(h0, .inr (1, [.ref q1, .ref q2, .int 0])), (q1, .inl (aC 0, 128, .inl (fun _ => 0))), (q2, .inl (aC 1, 128, .inl (fun _ => 0)))] := hD
  have hP9 := hP.sub (ws' := [(h0, .inr (1, [.ref q1, .ref q2, .int 0])), (q1, .inl (aC 0, 128, .inl (fun _ => 0))), (q2, .inl (aC 1, 128, .inl (fun _ => 0)))]) [0, 1, 2] rfl
  have hD9 := hD.sub (ws' := [(h0, .inr (1, [.ref q1, .ref q2, .int 0])), (q1, .inl (aC 0, 128, .inl (fun _ => 0))), (q2, .inl (aC 1, 128, .inl (fun _ => 0)))]) [0, 1, 2] (by decide) rfl
  refine W.widen (k := 2) (n := 256) (Nat.le_of_ble_eq_true rfl) (Nat.le_of_ble_eq_true rfl) ?_
  exact W.vret hx hb hr (fun t ht hW => ⟨⟨(q1, q2), rfl, trivial, by rw [ht]; exact hP9, hD9⟩, hS.F ht⟩) hS.2.2 dX7_init_22

set_option maxHeartbeats 4000000 in
set_option maxRecDepth 100000 in
theorem c_X7_many (l : Launch) (dC : Nat → ClassId) (dI : Nat → Nat → Nat) (aC : Nat → ClassId) (sz : Nat) (h0 : Nat) (b r : Value) (mny : Int32)  : Met l yX7_many wsX7_many ({ frames := 1, cells := 0, slots := 0, locals := 0 } : Room) (rf_Pc (dC, dI) aC [.ref h0] [(h0, .inr (1, [b, r, .int mny]))] sz) (QcRead mny) 0 0 (fun _ => False) := by
  refine Met.ofW (cc := cX7_many) (maxL := 1) (ret := (some .int)) (by decide) rfl ?_
  intro p e s m args below meth c s₁ B hml hv
  obtain ⟨rfl, hsz, hP, hKN, hD0⟩ := hv
  obtain ⟨hK, hN⟩ := hKN
  have hx := B.exec
  have hb := B.bytes
  have hr := B.returns
  have hts := atoms_spec (ws := wsX7_many) B.pre
  have hown : s.vm.findClass RX7 = some m.cls := findClass_of_methodNamed B.named
  have hlocks := B.notSynchronized
  subst hsz
  have hD := hD0.self (sz := s.heap.size)
  generalize hAe : va_A [(h0, .inr (1, [b, r, .int mny]))] s.heap.size = A at hD
  have hA : ∀ q : Nat, s.heap.size ≤ q → A q := fun q h => by rw [← hAe]; exact Or.inr h
  have hS : va_S A s.heap s.heap [] := va_S.rf
  have hP : va_P (dC, dI) rfCl [(h0, .inr (1, [b, r, .int mny]))] s.heap := hP
  have hl := lv_entry ([.ref h0]) (n := 1) (Nat.le_of_ble_eq_true rfl)
  rw [lg_entry_eq]
  generalize (lg_sl ([.ref h0]) ++ List.replicate (1 - (lg_sl ([.ref h0])).length) Slot.unset).toArray = ls at hl ⊢
  have hl : lv_has ls 1 [(0, .ref h0)] := hl
  refine lv_aload_n hx hb dX7_many_0 rfl (lv_at hl 0 rfl) ?_
  refine va_get (D := (dC, dI)) (ci := 1) (v := .int mny) (C := RX7) (T := TX7) (N := 3) hx hb hts (by decide +kernel) hown hK hP 0 rfl rfl 2 (by decide) (hts (.fieldLink RX7 19 "Transversary$Sets" "many" "I") (by decide +kernel)) (fun _ h9 => h9) rfl dX7_many_1 ?_
  exact W.iret (v := mny) hx hb hr (fun t ht hW => ⟨rfl, ht⟩) (fun q h => nomatch h) dX7_many_4

set_option maxHeartbeats 4000000 in
set_option maxRecDepth 100000 in
theorem c_X7_clear (l : Launch) (dC : Nat → ClassId) (dI : Nat → Nat → Nat) (aC : Nat → ClassId) (sz : Nat) (h0 b : Nat) (r : Value) (f : Nat → Int32) (mny : Int32)  : Met l yX7_clear wsX7_clear ({ frames := 1, cells := 0, slots := 0, locals := 0 } : Room) (rf_Pc (dC, dI) aC [.ref h0] [(h0, .inr (1, [.ref b, r, .int mny])), (b, .inl (aC 0, 128, .inl f))] sz) (va_Qv (fun (u : Nat → Int32) => True) (fun (u : Nat → Int32) t => va_P (dC, dI) rfCl [(h0, .inr (1, [.ref b, r, .int 0])), (b, .inl (aC 0, 128, .inl u))] t.heap ∧ va_D (va_A [(h0, .inr (1, [.ref b, r, .int mny])), (b, .inl (aC 0, 128, .inl f))] sz) [(h0, .inr (1, [.ref b, r, .int 0])), (b, .inl (aC 0, 128, .inl u))]) (va_A [(h0, .inr (1, [.ref b, r, .int mny])), (b, .inl (aC 0, 128, .inl f))] sz)) 0 0 (va_A [(h0, .inr (1, [.ref b, r, .int mny])), (b, .inl (aC 0, 128, .inl f))] sz) := by
  refine Met.ofW (cc := cX7_clear) (maxL := 2) (ret := none) (by decide) rfl ?_
  intro p e s m args below meth c s₁ B hml hv
  obtain ⟨rfl, hsz, hP, hKN, hD0⟩ := hv
  obtain ⟨hK, hN⟩ := hKN
  have hx := B.exec
  have hb := B.bytes
  have hr := B.returns
  have hts := atoms_spec (ws := wsX7_clear) B.pre
  have hown : s.vm.findClass RX7 = some m.cls := findClass_of_methodNamed B.named
  have hlocks := B.notSynchronized
  subst hsz
  have hD := hD0.self (sz := s.heap.size)
  generalize hAe : va_A [(h0, .inr (1, [.ref b, r, .int mny])), (b, .inl (aC 0, 128, .inl f))] s.heap.size = A at hD ⊢
  have hA : ∀ q : Nat, s.heap.size ≤ q → A q := fun q h => by rw [← hAe]; exact Or.inr h
  have hS : va_S A s.heap s.heap [] := va_S.rf
  have hP : va_P (dC, dI) rfCl [(h0, .inr (1, [.ref b, r, .int mny])), (b, .inl (aC 0, 128, .inl f))] s.heap := hP
  have hl := lv_entry ([.ref h0]) (n := 2) (Nat.le_of_ble_eq_true rfl)
  rw [lg_entry_eq]
  generalize (lg_sl ([.ref h0]) ++ List.replicate (2 - (lg_sl ([.ref h0])).length) Slot.unset).toArray = ls at hl ⊢
  have hl : lv_has ls 2 [(0, .ref h0)] := hl
  refine lv_iconst (v := 0) hx hb dX7_clear_0 (by decide) ?_
  refine lv_istore_n (lv' := [(1, .int 0), (0, .ref h0)]) hx hb dX7_clear_1 rfl hl (by decide) rfl (fun ls hl => ?_)
  have loop : ∀ (n i : Nat) (x : Int32) (f : Nat → Int32), i ≤ 128 → 129 ≤ i + n → x = nI i → ∀ (H : Heap) (locs : List Loc), va_P (dC, dI) rfCl [(h0, .inr (1, [.ref b, r, .int mny])), (b, .inl (aC 0, 128, .inl f))] H → va_D A [(h0, .inr (1, [.ref b, r, .int mny])), (b, .inl (aC 0, 128, .inl f))] → va_S A s.heap H locs → ∀ ls : Array Slot, lv_has ls 2 [(1, .int x), (0, .ref h0)] → W p l e (headSpec wsX7_clear ({ frames := 1, cells := 0, slots := 0, locals := 0 } : Room)).room s m ([.ref h0] : List Value).toArray below meth c H locs 0 0 (MQ below (va_Qv (fun (u : Nat → Int32) => True) (fun (u : Nat → Int32) t => va_P (dC, dI) rfCl [(h0, .inr (1, [.ref b, r, .int 0])), (b, .inl (aC 0, 128, .inl u))] t.heap ∧ va_D A [(h0, .inr (1, [.ref b, r, .int 0])), (b, .inl (aC 0, 128, .inl u))]) A) ([.ref h0] : List Value).toArray s 0 0 A) (F0 m 2 ls []) := by
    intro n
    induction n with
    | zero =>
      intro i x f h1 h2
      exact absurd h2 (by omega)
    | succ n ih =>
      intro i x f hi hn ex H locs hP hD hS ls hl
      refine lv_iload_n hx hb dX7_clear_2 rfl (lv_at hl 0 rfl) ?_
      refine lv_aload_n hx hb dX7_clear_3 rfl (lv_at hl 1 rfl) ?_
      refine va_get (D := (dC, dI)) (ci := 1) (v := .ref b) (C := RX7) (T := TX7) (N := 3) hx hb hts (by decide +kernel) hown hK hP 0 rfl rfl 0 (by decide) (hts (.fieldLink RX7 9 "Transversary$Sets" "isHeld" "[Z") (by decide +kernel)) (fun _ h9 => h9) rfl dX7_clear_4 ?_
      refine va_alen (v := 128) hx hb hK hP 1 0 rfl rfl rfl dX7_clear_7 ?_
      by_cases hlt : i < 128
      · have hbr : ¬ (128 : Int32) ≤ x := by rw [ex]; exact nI_ge hlt (by decide)
        refine lv_icmp_ge (tgt := 24) hx hb dX7_clear_8 (by decide) (fun c9 => absurd c9 hbr) (fun _ => ?_)
        have h_in : vp_in x 128 := by rw [ex]; exact vp_in_nI hlt (by decide)
        refine lv_aload_n hx hb dX7_clear_11 rfl (lv_at hl 1 rfl) ?_
        refine va_get (D := (dC, dI)) (ci := 1) (v := .ref b) (C := RX7) (T := TX7) (N := 3) hx hb hts (by decide +kernel) hown hK hP 0 rfl rfl 0 (by decide) (hts (.fieldLink RX7 9 "Transversary$Sets" "isHeld" "[Z") (by decide +kernel)) (fun _ h9 => h9) rfl dX7_clear_12 ?_
        refine lv_iload_n hx hb dX7_clear_15 rfl (lv_at hl 0 rfl) ?_
        refine lv_iconst (v := 0) hx hb dX7_clear_16 (by decide) ?_
        refine va_zast hx hb hK hP hD hS 1 0 rfl rfl h_in dX7_clear_17 (fun H locs hP hD hS => ?_)
        have hP : va_P (dC, dI) rfCl [(h0, .inr (1, [.ref b, r, .int mny])), (b, .inl (aC 0, 128, .inl (upd f (x).toNatClampNeg (vp_nar .boolean 0))))] H := hP
        have hD : va_D A [(h0, .inr (1, [.ref b, r, .int mny])), (b, .inl (aC 0, 128, .inl (upd f (x).toNatClampNeg (vp_nar .boolean 0))))] := hD
        generalize (upd f (x).toNatClampNeg (vp_nar .boolean 0)) = f2 at hP hD
        have hP : va_P (dC, dI) rfCl [(h0, .inr (1, [.ref b, r, .int mny])), (b, .inl (aC 0, 128, .inl f2))] H := hP
        have hD : va_D A [(h0, .inr (1, [.ref b, r, .int mny])), (b, .inl (aC 0, 128, .inl f2))] := hD
        obtain ⟨x2, ex2⟩ : ∃ y : Int32, y = x + 1 := ⟨_, rfl⟩
        refine lv_iinc (v := x2) (lv' := [(1, .int x2), (0, .ref h0)]) hx hb dX7_clear_18 hl (k := 0) rfl (by rw [ex2]; rfl) (by decide) rfl (fun ls hl => ?_)
        refine lv_goto (tgt := 2) hx hb dX7_clear_21 (by decide) ?_
        exact ih (i + 1) x2 f2 (by omega) (by omega) (by rw [ex2, ex]; exact nI_1 i) H locs hP hD hS ls hl
      · have hbr : (128 : Int32) ≤ x := by rw [ex, show i = 128 by omega]; decide
        refine lv_icmp_ge (tgt := 24) hx hb dX7_clear_8 (by decide) (fun _ => ?_) (fun c9 => absurd hbr c9)
        refine lv_aload_n hx hb dX7_clear_24 rfl (lv_at hl 1 rfl) ?_
        refine lv_iconst (v := 0) hx hb dX7_clear_25 (by decide) ?_
        refine va_put (D := (dC, dI)) (ci := 1) (v := .int 0) (ty := .int) (C := RX7) (T := TX7) (N := 3) hx hb hts (by decide +kernel) tyX7 tyX7_ok nmX7 hown hK hP hD hS 0 rfl rfl 2 (by decide) (hts (.fieldLink RX7 19 "Transversary$Sets" "many" "I") (by decide +kernel)) (fun _ h9 => h9) rfl (by decide +kernel) rfl rfl (Nat.le_of_ble_eq_true rfl) dX7_clear_26 (fun H locs hP hD hS => ?_)
        have hP : va_P (dC, dI) rfCl [(h0, .inr (1, [.ref b, r, .int 0])), (b, .inl (aC 0, 128, .inl f))] H := hP
        have hD : va_D A [(h0, .inr (1, [.ref b, r, .int 0])), (b, .inl (aC 0, 128, .inl f))] := hD
        have hP9 := hP.sub (ws' := [(h0, .inr (1, [.ref b, r, .int 0])), (b, .inl (aC 0, 128, .inl f))]) [0, 1] rfl
        have hD9 := hD.sub (ws' := [(h0, .inr (1, [.ref b, r, .int 0])), (b, .inl (aC 0, 128, .inl f))]) [0, 1] (by decide) rfl
        refine W.widen (k := 0) (n := 0) (Nat.le_of_ble_eq_true rfl) (Nat.le_of_ble_eq_true rfl) ?_
        exact W.vret hx hb hr (fun t ht hW => ⟨⟨f, rfl, trivial, by rw [ht]; exact hP9, hD9⟩, hS.F ht⟩) hS.2.2 dX7_clear_29
  exact loop 129 0 0 f (by decide) (by decide) rfl s.heap [] hP hD hS ls hl
end
section
set_option maxHeartbeats 4000000 in
set_option maxRecDepth 100000 in
theorem c_X3_init (l : Launch) (dC : Nat → ClassId) (dI : Nat → Nat → Nat) (aC : Nat → ClassId) (sz : Nat) (h0 : Nat)  : Met l yX3_init wsX3_init ({ frames := 1, cells := 1, slots := 7, locals := 12 } : Room) (rf_Pc (dC, dI) aC [.ref h0] [(h0, .inr (0, [.null, .int 0, .int 0]))] sz) (va_Qv (fun (u : Nat) => True) (fun (u : Nat) t => va_P (dC, dI) rfCl [(h0, .inr (0, [.ref u, .int 0, .int 0])), (u, .inl (aC 1, 7, .inl (fun _ => 0)))] t.heap ∧ va_D (va_A [(h0, .inr (0, [.null, .int 0, .int 0]))] sz) [(h0, .inr (0, [.ref u, .int 0, .int 0])), (u, .inl (aC 1, 7, .inl (fun _ => 0)))]) (va_A [(h0, .inr (0, [.null, .int 0, .int 0]))] sz)) 1 7 (va_A [(h0, .inr (0, [.null, .int 0, .int 0]))] sz) := by
  refine Met.ofW (cc := cX3_init) (maxL := 1) (ret := none) (by decide) rfl ?_
  intro p e s m args below meth c s₁ B hml hv
  obtain ⟨rfl, hsz, hP, hKN, hD0⟩ := hv
  obtain ⟨hK, hN⟩ := hKN
  have hx := B.exec
  have hb := B.bytes
  have hr := B.returns
  have hts := atoms_spec (ws := wsX3_init) B.pre
  have hown : s.vm.findClass RX3 = some m.cls := findClass_of_methodNamed B.named
  have hlocks := B.notSynchronized
  have hin : meth.name = "<init>" := (name_of_methodNamed B.named B.method).1
  subst hsz
  have hD := hD0.self (sz := s.heap.size)
  generalize hAe : va_A [(h0, .inr (0, [.null, .int 0, .int 0]))] s.heap.size = A at hD ⊢
  have hA : ∀ q : Nat, s.heap.size ≤ q → A q := fun q h => by rw [← hAe]; exact Or.inr h
  have hS : va_S A s.heap s.heap [] := va_S.rf
  have hP : va_P (dC, dI) rfCl [(h0, .inr (0, [.null, .int 0, .int 0]))] s.heap := hP
  have hl := lv_entry ([.ref h0]) (n := 1) (Nat.le_of_ble_eq_true rfl)
  rw [lg_entry_eq]
  generalize (lg_sl ([.ref h0]) ++ List.replicate (1 - (lg_sl ([.ref h0])).length) Slot.unset).toArray = ls at hl ⊢
  have hl : lv_has ls 1 [(0, .ref h0)] := hl
  refine lv_aload_n hx hb dX3_init_0 rfl (lv_at hl 0 rfl) ?_
  refine W.objInit hx hb hown (hts (.methodLink RX3 3 objectInit) (by decide +kernel)) (hts (.instanceMethod objectInit) (by decide +kernel)) (hts (.code objectInit ⟨#[0xb1]⟩ 1 none) (by decide +kernel)) rfl (by rw [hml]; exact hl.1) rfl dX3_init_1 (Nat.le_of_ble_eq_true rfl) (Nat.le_of_ble_eq_true rfl) ?_
  refine W.eq (g2 := F0 m 4 ls []) rfl ?_
  refine lv_aload_n hx hb dX3_init_4 rfl (lv_at hl 0 rfl) ?_
  refine lv_bipush (v := 7) hx hb dX3_init_5 (by decide) ?_
  refine va_newa (atype := .int) (ty := .int) (a0 := (7, .inl (fun _ => 0))) hx hb (hts (.arrayClass .int) (by decide +kernel)) rfl hK hP hD hS hA (fun _ => rfl) (by decide) (by decide) (by decide) (Nat.le_of_ble_eq_true rfl) (Nat.le_of_ble_eq_true rfl) dX3_init_7 (fun q1 cA9 H hK hP hD hS => ?_)
  obtain rfl : cA9 = aC 1 := rf_sameA hK 6 1 rfl rfl
  have hK := hK.sub (tys' := rfT aC) [0, 1, 2, 3, 4, 5] rfl
  have hP : va_P (dC, dI) rfCl [(h0, .inr (0, [.null, .int 0, .int 0])), (q1, .inl (aC 1, 7, .inl (fun _ => 0)))] H := hP
  have hD : va_D A [(h0, .inr (0, [.null, .int 0, .int 0])), (q1, .inl (aC 1, 7, .inl (fun _ => 0)))] := hD
  refine W.widen (k := 1) (n := 7) (Nat.le_of_ble_eq_true rfl) (Nat.le_of_ble_eq_true rfl) ?_
  refine va_putF (D := (dC, dI)) (ci := 0) (v := .ref q1) (ty := (.array .int)) (C := RX3) (T := TX3) (N := 3) hx hb hts (by decide +kernel) tyX3 tyX3_ok nmX3 hown hK hP hD hS 0 rfl rfl 0 (by decide) (hts (.fieldLink RX3 9 "Transversary$Points" "weights" "[I") (by decide +kernel)) (fun _ h9 => h9) rfl hin rfl (by decide +kernel) rfl rfl (Nat.le_of_ble_eq_true rfl) dX3_init_9 (fun H locs hP hD hS => ?_)
  have hP : va_P (dC, dI) rfCl [(h0, .inr (0, [.ref q1, .int 0, .int 0])), (q1, .inl (aC 1, 7, .inl (fun _ => 0)))] H := hP
  have hD : va_D A [(h0, .inr (0, [.ref q1, .int 0, .int 0])), (q1, .inl (aC 1, 7, .inl (fun _ => 0)))] := hD
  have hP9 := hP.sub (ws' := [(h0, .inr (0, [.ref q1, .int 0, .int 0])), (q1, .inl (aC 1, 7, .inl (fun _ => 0)))]) [0, 1] rfl
  have hD9 := hD.sub (ws' := [(h0, .inr (0, [.ref q1, .int 0, .int 0])), (q1, .inl (aC 1, 7, .inl (fun _ => 0)))]) [0, 1] (by decide) rfl
  refine W.widen (k := 1) (n := 7) (Nat.le_of_ble_eq_true rfl) (Nat.le_of_ble_eq_true rfl) ?_
  exact W.vret hx hb hr (fun t ht hW => ⟨⟨q1, rfl, trivial, by rw [ht]; exact hP9, hD9⟩, hS.F ht⟩) hS.2.2 dX3_init_12

set_option maxHeartbeats 4000000 in
set_option maxRecDepth 100000 in
theorem c_X3_howManySets (l : Launch) (dC : Nat → ClassId) (dI : Nat → Nat → Nat) (aC : Nat → ClassId) (sz : Nat) (h0 : Nat) (w : Value) (mny al r : Int32) (hr9 : (1 : Int32) <<< (mny &&& 31) = r) : Met l yX3_howManySets wsX3_howManySets ({ frames := 1, cells := 0, slots := 0, locals := 0 } : Room) (rf_Pc (dC, dI) aC [.ref h0] [(h0, .inr (0, [w, .int mny, .int al]))] sz) (QcRead r) 0 0 (fun _ => False) := by
  refine Met.ofW (cc := cX3_howManySets) (maxL := 1) (ret := (some .int)) (by decide) rfl ?_
  intro p e s m args below meth c s₁ B hml hv
  obtain ⟨rfl, hsz, hP, hKN, hD0⟩ := hv
  obtain ⟨hK, hN⟩ := hKN
  have hx := B.exec
  have hb := B.bytes
  have hr := B.returns
  have hts := atoms_spec (ws := wsX3_howManySets) B.pre
  have hown : s.vm.findClass RX3 = some m.cls := findClass_of_methodNamed B.named
  have hlocks := B.notSynchronized
  subst hsz
  have hD := hD0.self (sz := s.heap.size)
  generalize hAe : va_A [(h0, .inr (0, [w, .int mny, .int al]))] s.heap.size = A at hD
  have hA : ∀ q : Nat, s.heap.size ≤ q → A q := fun q h => by rw [← hAe]; exact Or.inr h
  have hS : va_S A s.heap s.heap [] := va_S.rf
  have hP : va_P (dC, dI) rfCl [(h0, .inr (0, [w, .int mny, .int al]))] s.heap := hP
  have hl := lv_entry ([.ref h0]) (n := 1) (Nat.le_of_ble_eq_true rfl)
  rw [lg_entry_eq]
  generalize (lg_sl ([.ref h0]) ++ List.replicate (1 - (lg_sl ([.ref h0])).length) Slot.unset).toArray = ls at hl ⊢
  have hl : lv_has ls 1 [(0, .ref h0)] := hl
  refine lv_iconst (v := 1) hx hb dX3_howManySets_0 (by decide) ?_
  refine lv_aload_n hx hb dX3_howManySets_1 rfl (lv_at hl 0 rfl) ?_
  refine va_get (D := (dC, dI)) (ci := 0) (v := .int mny) (C := RX3) (T := TX3) (N := 3) hx hb hts (by decide +kernel) hown hK hP 0 rfl rfl 1 (by decide) (hts (.fieldLink RX3 15 "Transversary$Points" "many" "I") (by decide +kernel)) (fun _ h9 => h9) rfl dX3_howManySets_2 ?_
  refine lv_ishl hx hb dX3_howManySets_5 ?_
  refine lv_topi (fun t1 et1 => ?_)
  obtain rfl : t1 = r := et1.trans hr9
  exact W.iret (v := t1) hx hb hr (fun t ht hW => ⟨rfl, ht⟩) (fun q h => nomatch h) dX3_howManySets_6

set_option maxHeartbeats 4000000 in
set_option maxRecDepth 100000 in
theorem c_X3_alive (l : Launch) (dC : Nat → ClassId) (dI : Nat → Nat → Nat) (aC : Nat → ClassId) (sz : Nat) (h0 : Nat) (w : Value) (mny al : Int32)  : Met l yX3_alive wsX3_alive ({ frames := 1, cells := 0, slots := 0, locals := 0 } : Room) (rf_Pc (dC, dI) aC [.ref h0] [(h0, .inr (0, [w, .int mny, .int al]))] sz) (QcRead al) 0 0 (fun _ => False) := by
  refine Met.ofW (cc := cX3_alive) (maxL := 1) (ret := (some .int)) (by decide) rfl ?_
  intro p e s m args below meth c s₁ B hml hv
  obtain ⟨rfl, hsz, hP, hKN, hD0⟩ := hv
  obtain ⟨hK, hN⟩ := hKN
  have hx := B.exec
  have hb := B.bytes
  have hr := B.returns
  have hts := atoms_spec (ws := wsX3_alive) B.pre
  have hown : s.vm.findClass RX3 = some m.cls := findClass_of_methodNamed B.named
  have hlocks := B.notSynchronized
  subst hsz
  have hD := hD0.self (sz := s.heap.size)
  generalize hAe : va_A [(h0, .inr (0, [w, .int mny, .int al]))] s.heap.size = A at hD
  have hA : ∀ q : Nat, s.heap.size ≤ q → A q := fun q h => by rw [← hAe]; exact Or.inr h
  have hS : va_S A s.heap s.heap [] := va_S.rf
  have hP : va_P (dC, dI) rfCl [(h0, .inr (0, [w, .int mny, .int al]))] s.heap := hP
  have hl := lv_entry ([.ref h0]) (n := 1) (Nat.le_of_ble_eq_true rfl)
  rw [lg_entry_eq]
  generalize (lg_sl ([.ref h0]) ++ List.replicate (1 - (lg_sl ([.ref h0])).length) Slot.unset).toArray = ls at hl ⊢
  have hl : lv_has ls 1 [(0, .ref h0)] := hl
  refine lv_aload_n hx hb dX3_alive_0 rfl (lv_at hl 0 rfl) ?_
  refine va_get (D := (dC, dI)) (ci := 0) (v := .int al) (C := RX3) (T := TX3) (N := 3) hx hb hts (by decide +kernel) hown hK hP 0 rfl rfl 2 (by decide) (hts (.fieldLink RX3 23 "Transversary$Points" "alive" "I") (by decide +kernel)) (fun _ h9 => h9) rfl dX3_alive_1 ?_
  exact W.iret (v := al) hx hb hr (fun t ht hW => ⟨rfl, ht⟩) (fun q h => nomatch h) dX3_alive_4

set_option maxHeartbeats 4000000 in
set_option maxRecDepth 100000 in
theorem c_X3_knows (l : Launch) (dC : Nat → ClassId) (dI : Nat → Nat → Nat) (aC : Nat → ClassId) (sz : Nat) (h0 w : Nat) (f : Nat → Int32) (mny al p0 : Int32) (h1 : ¬ p0 < 0) (h2 : ¬ mny ≤ p0) (h3 : ¬ (7 : Int32) ≤ p0) : Met l yX3_knows wsX3_knows ({ frames := 1, cells := 0, slots := 0, locals := 0 } : Room) (rf_Pc (dC, dI) aC [.ref h0, .int p0] [(h0, .inr (0, [.ref w, .int mny, .int al])), (w, .inl (aC 1, 7, .inl f))] sz) (QcRead 1) 0 0 (fun _ => False) := by
  refine Met.ofW (cc := cX3_knows) (maxL := 2) (ret := (some .boolean)) (by decide) rfl ?_
  intro p e s m args below meth c s₁ B hml hv
  obtain ⟨rfl, hsz, hP, hKN, hD0⟩ := hv
  obtain ⟨hK, hN⟩ := hKN
  have hx := B.exec
  have hb := B.bytes
  have hr := B.returns
  have hts := atoms_spec (ws := wsX3_knows) B.pre
  have hown : s.vm.findClass RX3 = some m.cls := findClass_of_methodNamed B.named
  have hlocks := B.notSynchronized
  subst hsz
  have hD := hD0.self (sz := s.heap.size)
  generalize hAe : va_A [(h0, .inr (0, [.ref w, .int mny, .int al])), (w, .inl (aC 1, 7, .inl f))] s.heap.size = A at hD
  have hA : ∀ q : Nat, s.heap.size ≤ q → A q := fun q h => by rw [← hAe]; exact Or.inr h
  have hS : va_S A s.heap s.heap [] := va_S.rf
  have hP : va_P (dC, dI) rfCl [(h0, .inr (0, [.ref w, .int mny, .int al])), (w, .inl (aC 1, 7, .inl f))] s.heap := hP
  have hl := lv_entry ([.ref h0, .int p0]) (n := 2) (Nat.le_of_ble_eq_true rfl)
  rw [lg_entry_eq]
  generalize (lg_sl ([.ref h0, .int p0]) ++ List.replicate (2 - (lg_sl ([.ref h0, .int p0])).length) Slot.unset).toArray = ls at hl ⊢
  have hl : lv_has ls 2 [(0, .ref h0), (1, .int p0)] := hl
  refine lv_iload_n hx hb dX3_knows_0 rfl (lv_at hl 1 rfl) ?_
  refine lv_if_lt (tgt := 25) hx hb dX3_knows_1 (by decide) (fun c9 => absurd c9 h1) (fun _ => ?_)
  refine lv_iload_n hx hb dX3_knows_4 rfl (lv_at hl 1 rfl) ?_
  refine lv_aload_n hx hb dX3_knows_5 rfl (lv_at hl 0 rfl) ?_
  refine va_get (D := (dC, dI)) (ci := 0) (v := .int mny) (C := RX3) (T := TX3) (N := 3) hx hb hts (by decide +kernel) hown hK hP 0 rfl rfl 1 (by decide) (hts (.fieldLink RX3 15 "Transversary$Points" "many" "I") (by decide +kernel)) (fun _ h9 => h9) rfl dX3_knows_6 ?_
  refine lv_icmp_ge (tgt := 25) hx hb dX3_knows_9 (by decide) (fun c9 => absurd c9 h2) (fun _ => ?_)
  refine lv_iload_n hx hb dX3_knows_12 rfl (lv_at hl 1 rfl) ?_
  refine lv_aload_n hx hb dX3_knows_13 rfl (lv_at hl 0 rfl) ?_
  refine va_get (D := (dC, dI)) (ci := 0) (v := .ref w) (C := RX3) (T := TX3) (N := 3) hx hb hts (by decide +kernel) hown hK hP 0 rfl rfl 0 (by decide) (hts (.fieldLink RX3 9 "Transversary$Points" "weights" "[I") (by decide +kernel)) (fun _ h9 => h9) rfl dX3_knows_14 ?_
  refine va_alen (v := 7) hx hb hK hP 1 1 rfl rfl rfl dX3_knows_17 ?_
  refine lv_icmp_ge (tgt := 25) hx hb dX3_knows_18 (by decide) (fun c9 => absurd c9 h3) (fun _ => ?_)
  refine lv_iconst (v := 1) hx hb dX3_knows_21 (by decide) ?_
  refine lv_goto (tgt := 26) hx hb dX3_knows_22 (by decide) ?_
  exact W.zret (v := 1) hx hb hr rfl (fun t ht hW => ⟨rfl, ht⟩) (fun q h => nomatch h) dX3_knows_26

set_option maxHeartbeats 4000000 in
set_option maxRecDepth 100000 in
theorem c_X3_begin (l : Launch) (dC : Nat → ClassId) (dI : Nat → Nat → Nat) (aC : Nat → ClassId) (sz : Nat) (h0 w : Nat) (f : Nat → Int32) (mny al k r al2 : Int32) (hr9 : (1 : Int32) <<< (k &&& 31) = r) (ha9 : r - 1 = al2) : Met l yX3_begin wsX3_begin ({ frames := 2, cells := 0, slots := 0, locals := 40 } : Room) (rf_Pc (dC, dI) aC [.ref h0, .int k] [(h0, .inr (0, [.ref w, .int mny, .int al])), (w, .inl (aC 1, 7, .inl f))] sz) (va_Qv (fun (u : Nat → Int32) => True) (fun (u : Nat → Int32) t => va_P (dC, dI) rfCl [(h0, .inr (0, [.ref w, .int k, .int al2])), (w, .inl (aC 1, 7, .inl u))] t.heap ∧ va_D (va_A [(h0, .inr (0, [.ref w, .int mny, .int al])), (w, .inl (aC 1, 7, .inl f))] sz) [(h0, .inr (0, [.ref w, .int k, .int al2])), (w, .inl (aC 1, 7, .inl u))]) (va_A [(h0, .inr (0, [.ref w, .int mny, .int al])), (w, .inl (aC 1, 7, .inl f))] sz)) 0 0 (va_A [(h0, .inr (0, [.ref w, .int mny, .int al])), (w, .inl (aC 1, 7, .inl f))] sz) := by
  refine Met.ofW (cc := cX3_begin) (maxL := 3) (ret := none) (by decide) rfl ?_
  intro p e s m args below meth c s₁ B hml hv
  obtain ⟨rfl, hsz, hP, hKN, hD0⟩ := hv
  obtain ⟨hK, hN⟩ := hKN
  have hx := B.exec
  have hb := B.bytes
  have hr := B.returns
  have hts := atoms_spec (ws := wsX3_begin) B.pre
  have hown : s.vm.findClass RX3 = some m.cls := findClass_of_methodNamed B.named
  have hlocks := B.notSynchronized
  subst hsz
  have hD := hD0.self (sz := s.heap.size)
  generalize hAe : va_A [(h0, .inr (0, [.ref w, .int mny, .int al])), (w, .inl (aC 1, 7, .inl f))] s.heap.size = A at hD ⊢
  have hA : ∀ q : Nat, s.heap.size ≤ q → A q := fun q h => by rw [← hAe]; exact Or.inr h
  have hS : va_S A s.heap s.heap [] := va_S.rf
  have hP : va_P (dC, dI) rfCl [(h0, .inr (0, [.ref w, .int mny, .int al])), (w, .inl (aC 1, 7, .inl f))] s.heap := hP
  have hl := lv_entry ([.ref h0, .int k]) (n := 3) (Nat.le_of_ble_eq_true rfl)
  rw [lg_entry_eq]
  generalize (lg_sl ([.ref h0, .int k]) ++ List.replicate (3 - (lg_sl ([.ref h0, .int k])).length) Slot.unset).toArray = ls at hl ⊢
  have hl : lv_has ls 3 [(0, .ref h0), (1, .int k)] := hl
  refine lv_aload_n hx hb dX3_begin_0 rfl (lv_at hl 0 rfl) ?_
  refine lv_iload_n hx hb dX3_begin_1 rfl (lv_at hl 1 rfl) ?_
  refine va_put (D := (dC, dI)) (ci := 0) (v := .int k) (ty := .int) (C := RX3) (T := TX3) (N := 3) hx hb hts (by decide +kernel) tyX3 tyX3_ok nmX3 hown hK hP hD hS 0 rfl rfl 1 (by decide) (hts (.fieldLink RX3 15 "Transversary$Points" "many" "I") (by decide +kernel)) (fun _ h9 => h9) rfl (by decide +kernel) rfl rfl (Nat.le_of_ble_eq_true rfl) dX3_begin_2 (fun H locs hP hD hS => ?_)
  have hP : va_P (dC, dI) rfCl [(h0, .inr (0, [.ref w, .int k, .int al])), (w, .inl (aC 1, 7, .inl f))] H := hP
  have hD : va_D A [(h0, .inr (0, [.ref w, .int k, .int al])), (w, .inl (aC 1, 7, .inl f))] := hD
  refine lv_aload_n hx hb dX3_begin_5 rfl (lv_at hl 0 rfl) ?_
  refine lv_aload_n hx hb dX3_begin_6 rfl (lv_at hl 0 rfl) ?_
  have hPc := hP.sub (ws' := [(h0, .inr (0, [.ref w, .int k, .int al]))]) [0] rfl
  have hDc := hD.sub (ws' := [(h0, .inr (0, [.ref w, .int k, .int al]))]) [0] (by decide) rfl
  refine W.callR (W.runV (As := []) (rest := [.ref h0]) ⟨hx, hb, hml, hown, hts⟩ (c_X3_howManySets l dC dI aC H.size h0 (.ref w) k al r hr9) (cwV 0 hts gX3_begin_X3_howManySets rfl rfl rfl (by decide +kernel) ⟨Nat.le_of_ble_eq_true rfl, Nat.le_of_ble_eq_true rfl⟩) (rf_pv hK hN hPc hDc (va_recv hK hP (ci := 0) (q0 := 0) rfl rfl)) rfl rfl hl.1 rfl (lv_room (Nat.le_of_ble_eq_true rfl)) dX3_begin_7 ⟨Nat.le_of_ble_eq_true rfl, Nat.le_of_ble_eq_true rfl⟩) ?_
  refine W.eq (g2 := F0 m 10 ls [.int r, .ref h0]) rfl ?_
  refine lv_iconst (v := 1) hx hb dX3_begin_10 (by decide) ?_
  refine lv_isub hx hb dX3_begin_11 ?_
  refine lv_topi (fun t1 et1 => ?_)
  obtain rfl : al2 = t1 := (et1.trans ha9).symm
  refine va_put (D := (dC, dI)) (ci := 0) (v := .int al2) (ty := .int) (C := RX3) (T := TX3) (N := 3) hx hb hts (by decide +kernel) tyX3 tyX3_ok nmX3 hown hK hP hD hS 0 rfl rfl 2 (by decide) (hts (.fieldLink RX3 23 "Transversary$Points" "alive" "I") (by decide +kernel)) (fun _ h9 => h9) rfl (by decide +kernel) rfl rfl (Nat.le_of_ble_eq_true rfl) dX3_begin_12 (fun H locs hP hD hS => ?_)
  have hP : va_P (dC, dI) rfCl [(h0, .inr (0, [.ref w, .int k, .int al2])), (w, .inl (aC 1, 7, .inl f))] H := hP
  have hD : va_D A [(h0, .inr (0, [.ref w, .int k, .int al2])), (w, .inl (aC 1, 7, .inl f))] := hD
  refine lv_iconst (v := 0) hx hb dX3_begin_15 (by decide) ?_
  refine lv_istore_n (lv' := [(2, .int 0), (0, .ref h0), (1, .int k)]) hx hb dX3_begin_16 rfl hl (by decide) rfl (fun ls hl => ?_)
  have loop : ∀ (n i : Nat) (x_loop : Int32) (f : Nat → Int32), i ≤ 7 → 8 ≤ i + n → x_loop = nI i → ∀ (H : Heap) (locs : List Loc), va_P (dC, dI) rfCl [(h0, .inr (0, [.ref w, .int k, .int al2])), (w, .inl (aC 1, 7, .inl f))] H → va_D A [(h0, .inr (0, [.ref w, .int k, .int al2])), (w, .inl (aC 1, 7, .inl f))] → va_S A s.heap H locs → ∀ ls : Array Slot, lv_has ls 3 [(2, .int x_loop), (0, .ref h0), (1, .int k)] → W p l e (headSpec wsX3_begin ({ frames := 2, cells := 0, slots := 0, locals := 40 } : Room)).room s m ([.ref h0, .int k] : List Value).toArray below meth c H locs 0 0 (MQ below (va_Qv (fun (u : Nat → Int32) => True) (fun (u : Nat → Int32) t => va_P (dC, dI) rfCl [(h0, .inr (0, [.ref w, .int k, .int al2])), (w, .inl (aC 1, 7, .inl u))] t.heap ∧ va_D A [(h0, .inr (0, [.ref w, .int k, .int al2])), (w, .inl (aC 1, 7, .inl u))]) A) ([.ref h0, .int k] : List Value).toArray s 0 0 A) (F0 m 17 ls []) := by
    intro n
    induction n with
    | zero =>
      intro i x_loop f h1 h2
      exact absurd h2 (by omega)
    | succ n ih =>
      intro i x_loop f hi hn ex H locs hP hD hS ls hl
      refine lv_iload_n hx hb dX3_begin_17 rfl (lv_at hl 0 rfl) ?_
      refine lv_aload_n hx hb dX3_begin_18 rfl (lv_at hl 1 rfl) ?_
      refine va_get (D := (dC, dI)) (ci := 0) (v := .ref w) (C := RX3) (T := TX3) (N := 3) hx hb hts (by decide +kernel) hown hK hP 0 rfl rfl 0 (by decide) (hts (.fieldLink RX3 9 "Transversary$Points" "weights" "[I") (by decide +kernel)) (fun _ h9 => h9) rfl dX3_begin_19 ?_
      refine va_alen (v := 7) hx hb hK hP 1 1 rfl rfl rfl dX3_begin_22 ?_
      by_cases hlt : i < 7
      · have hbr : ¬ (7 : Int32) ≤ x_loop := by rw [ex]; exact nI_ge hlt (by decide)
        refine lv_icmp_ge (tgt := 39) hx hb dX3_begin_23 (by decide) (fun c9 => absurd c9 hbr) (fun _ => ?_)
        have h_in : vp_in x_loop 7 := by rw [ex]; exact vp_in_nI hlt (by decide)
        refine lv_aload_n hx hb dX3_begin_26 rfl (lv_at hl 1 rfl) ?_
        refine va_get (D := (dC, dI)) (ci := 0) (v := .ref w) (C := RX3) (T := TX3) (N := 3) hx hb hts (by decide +kernel) hown hK hP 0 rfl rfl 0 (by decide) (hts (.fieldLink RX3 9 "Transversary$Points" "weights" "[I") (by decide +kernel)) (fun _ h9 => h9) rfl dX3_begin_27 ?_
        refine lv_iload_n hx hb dX3_begin_30 rfl (lv_at hl 0 rfl) ?_
        refine lv_iconst (v := 1) hx hb dX3_begin_31 (by decide) ?_
        refine va_iast hx hb hK hP hD hS 1 1 rfl rfl h_in dX3_begin_32 (fun H locs hP hD hS => ?_)
        have hP : va_P (dC, dI) rfCl [(h0, .inr (0, [.ref w, .int k, .int al2])), (w, .inl (aC 1, 7, .inl (upd f (x_loop).toNatClampNeg 1)))] H := hP
        have hD : va_D A [(h0, .inr (0, [.ref w, .int k, .int al2])), (w, .inl (aC 1, 7, .inl (upd f (x_loop).toNatClampNeg 1)))] := hD
        generalize (upd f (x_loop).toNatClampNeg 1) = f2 at hP hD
        have hP : va_P (dC, dI) rfCl [(h0, .inr (0, [.ref w, .int k, .int al2])), (w, .inl (aC 1, 7, .inl f2))] H := hP
        have hD : va_D A [(h0, .inr (0, [.ref w, .int k, .int al2])), (w, .inl (aC 1, 7, .inl f2))] := hD
        obtain ⟨x_loop2, ex_loop2⟩ : ∃ y : Int32, y = x_loop + (1) := ⟨_, rfl⟩
        refine lv_iinc (v := x_loop2) (lv' := [(2, .int x_loop2), (0, .ref h0), (1, .int k)]) hx hb dX3_begin_33 hl (k := 0) rfl (by rw [ex_loop2]; rfl) (by decide) rfl (fun ls hl => ?_)
        refine lv_goto (tgt := 17) hx hb dX3_begin_36 (by decide) ?_
        exact ih (i + 1) x_loop2 f2 (by omega) (by omega) (by rw [ex_loop2, ex]; exact nI_1 i) H locs hP hD hS ls (lv_sub hl [0, 1, 2] rfl)
      · have hbr : (7 : Int32) ≤ x_loop := by rw [ex, show i = 7 by omega]; decide
        refine lv_icmp_ge (tgt := 39) hx hb dX3_begin_23 (by decide) (fun _ => ?_) (fun c9 => absurd hbr c9)
        have hP9 := hP.sub (ws' := [(h0, .inr (0, [.ref w, .int k, .int al2])), (w, .inl (aC 1, 7, .inl f))]) [0, 1] rfl
        have hD9 := hD.sub (ws' := [(h0, .inr (0, [.ref w, .int k, .int al2])), (w, .inl (aC 1, 7, .inl f))]) [0, 1] (by decide) rfl
        refine W.widen (k := 0) (n := 0) (Nat.le_of_ble_eq_true rfl) (Nat.le_of_ble_eq_true rfl) ?_
        exact W.vret hx hb hr (fun t ht hW => ⟨⟨f, rfl, trivial, by rw [ht]; exact hP9, hD9⟩, hS.F ht⟩) hS.2.2 dX3_begin_39
  exact loop 8 0 0 f (by decide) (by decide) rfl H _ hP hD hS ls (lv_sub hl [0, 1, 2] rfl)

set_option maxHeartbeats 4000000 in
set_option maxRecDepth 100000 in
theorem c_J6_bitCount_0f7a4 (l : Launch) (dC : Nat → ClassId) (dI : Nat → Nat → Nat) (aC : Nat → ClassId) (sz : Nat) (p0 : Int32)  : Met l yJ6_bitCount_0f7a4 wsJ6_bitCount_0f7a4 ({ frames := 1, cells := 0, slots := 0, locals := 0 } : Room) (rf_Pc (dC, dI) aC [.int p0] [] sz) QcAny 0 0 (fun _ => False) := by
  refine Met.ofW (cc := cJ6_bitCount_0f7a4) (maxL := 1) (ret := (some .int)) (by decide) rfl ?_
  intro p e s m args below meth c s₁ B hml hv
  obtain ⟨rfl, hsz, hP, hKN, hD0⟩ := hv
  obtain ⟨hK, hN⟩ := hKN
  have hx := B.exec
  have hb := B.bytes
  have hr := B.returns
  have hts := atoms_spec (ws := wsJ6_bitCount_0f7a4) B.pre
  have hown : s.vm.findClass RJ6 = some m.cls := findClass_of_methodNamed B.named
  have hlocks := B.notSynchronized
  subst hsz
  have hD := hD0.self (sz := s.heap.size)
  generalize hAe : va_A [] s.heap.size = A at hD
  have hA : ∀ q : Nat, s.heap.size ≤ q → A q := fun q h => by rw [← hAe]; exact Or.inr h
  have hS : va_S A s.heap s.heap [] := va_S.rf
  have hP : va_P (dC, dI) rfCl [] s.heap := hP
  have hl := lv_entry ([.int p0]) (n := 1) (Nat.le_of_ble_eq_true rfl)
  rw [lg_entry_eq]
  generalize (lg_sl ([.int p0]) ++ List.replicate (1 - (lg_sl ([.int p0])).length) Slot.unset).toArray = ls at hl ⊢
  have hl : lv_has ls 1 [(0, .int p0)] := hl
  refine lv_iload_n hx hb dJ6_bitCount_0f7a4_0 rfl (lv_at hl 0 rfl) ?_
  refine lv_iload_n hx hb dJ6_bitCount_0f7a4_1 rfl (lv_at hl 0 rfl) ?_
  refine lv_iconst (v := 1) hx hb dJ6_bitCount_0f7a4_2 (by decide) ?_
  refine lv_iushr hx hb dJ6_bitCount_0f7a4_3 rfl ?_
  refine lv_topi (fun t1 et1 => ?_)
  refine lv_ldcw (own := RJ6) (v := 1431655765) hx hb hown (hts (.constant RJ6 265 (1431655765)) (by decide +kernel)) dJ6_bitCount_0f7a4_4 ?_
  refine lv_iand hx hb dJ6_bitCount_0f7a4_7 ?_
  refine lv_topi (fun t2 et2 => ?_)
  refine lv_isub hx hb dJ6_bitCount_0f7a4_8 ?_
  refine lv_topi (fun t3 et3 => ?_)
  refine lv_istore_n (lv' := [(0, .int t3)]) hx hb dJ6_bitCount_0f7a4_9 rfl hl (by decide) rfl (fun ls hl => ?_)
  refine lv_iload_n hx hb dJ6_bitCount_0f7a4_10 rfl (lv_at hl 0 rfl) ?_
  refine lv_ldcw (own := RJ6) (v := 858993459) hx hb hown (hts (.constant RJ6 266 (858993459)) (by decide +kernel)) dJ6_bitCount_0f7a4_11 ?_
  refine lv_iand hx hb dJ6_bitCount_0f7a4_14 ?_
  refine lv_topi (fun t4 et4 => ?_)
  refine lv_iload_n hx hb dJ6_bitCount_0f7a4_15 rfl (lv_at hl 0 rfl) ?_
  refine lv_iconst (v := 2) hx hb dJ6_bitCount_0f7a4_16 (by decide) ?_
  refine lv_iushr hx hb dJ6_bitCount_0f7a4_17 rfl ?_
  refine lv_topi (fun t5 et5 => ?_)
  refine lv_ldcw (own := RJ6) (v := 858993459) hx hb hown (hts (.constant RJ6 266 (858993459)) (by decide +kernel)) dJ6_bitCount_0f7a4_18 ?_
  refine lv_iand hx hb dJ6_bitCount_0f7a4_21 ?_
  refine lv_topi (fun t6 et6 => ?_)
  refine lv_iadd hx hb dJ6_bitCount_0f7a4_22 ?_
  refine lv_topi (fun t7 et7 => ?_)
  refine lv_istore_n (lv' := [(0, .int t7)]) hx hb dJ6_bitCount_0f7a4_23 rfl hl (by decide) rfl (fun ls hl => ?_)
  refine lv_iload_n hx hb dJ6_bitCount_0f7a4_24 rfl (lv_at hl 0 rfl) ?_
  refine lv_iload_n hx hb dJ6_bitCount_0f7a4_25 rfl (lv_at hl 0 rfl) ?_
  refine lv_iconst (v := 4) hx hb dJ6_bitCount_0f7a4_26 (by decide) ?_
  refine lv_iushr hx hb dJ6_bitCount_0f7a4_27 rfl ?_
  refine lv_topi (fun t8 et8 => ?_)
  refine lv_iadd hx hb dJ6_bitCount_0f7a4_28 ?_
  refine lv_topi (fun t9 et9 => ?_)
  refine lv_ldcw (own := RJ6) (v := 252645135) hx hb hown (hts (.constant RJ6 267 (252645135)) (by decide +kernel)) dJ6_bitCount_0f7a4_29 ?_
  refine lv_iand hx hb dJ6_bitCount_0f7a4_32 ?_
  refine lv_topi (fun t10 et10 => ?_)
  refine lv_istore_n (lv' := [(0, .int t10)]) hx hb dJ6_bitCount_0f7a4_33 rfl hl (by decide) rfl (fun ls hl => ?_)
  refine lv_iload_n hx hb dJ6_bitCount_0f7a4_34 rfl (lv_at hl 0 rfl) ?_
  refine lv_iload_n hx hb dJ6_bitCount_0f7a4_35 rfl (lv_at hl 0 rfl) ?_
  refine lv_bipush (v := 8) hx hb dJ6_bitCount_0f7a4_36 (by decide) ?_
  refine lv_iushr hx hb dJ6_bitCount_0f7a4_38 rfl ?_
  refine lv_topi (fun t11 et11 => ?_)
  refine lv_iadd hx hb dJ6_bitCount_0f7a4_39 ?_
  refine lv_topi (fun t12 et12 => ?_)
  refine lv_istore_n (lv' := [(0, .int t12)]) hx hb dJ6_bitCount_0f7a4_40 rfl hl (by decide) rfl (fun ls hl => ?_)
  refine lv_iload_n hx hb dJ6_bitCount_0f7a4_41 rfl (lv_at hl 0 rfl) ?_
  refine lv_iload_n hx hb dJ6_bitCount_0f7a4_42 rfl (lv_at hl 0 rfl) ?_
  refine lv_bipush (v := 16) hx hb dJ6_bitCount_0f7a4_43 (by decide) ?_
  refine lv_iushr hx hb dJ6_bitCount_0f7a4_45 rfl ?_
  refine lv_topi (fun t13 et13 => ?_)
  refine lv_iadd hx hb dJ6_bitCount_0f7a4_46 ?_
  refine lv_topi (fun t14 et14 => ?_)
  refine lv_istore_n (lv' := [(0, .int t14)]) hx hb dJ6_bitCount_0f7a4_47 rfl hl (by decide) rfl (fun ls hl => ?_)
  refine lv_iload_n hx hb dJ6_bitCount_0f7a4_48 rfl (lv_at hl 0 rfl) ?_
  refine lv_bipush (v := 63) hx hb dJ6_bitCount_0f7a4_49 (by decide) ?_
  refine lv_iand hx hb dJ6_bitCount_0f7a4_51 ?_
  refine lv_topi (fun t15 et15 => ?_)
  exact W.iret (v := t15) hx hb hr (fun t ht hW => ⟨_, rfl, ht⟩) (fun q h => nomatch h) dJ6_bitCount_0f7a4_52

set_option maxHeartbeats 4000000 in
set_option maxRecDepth 100000 in
theorem c_X11_sizeOf (l : Launch) (dC : Nat → ClassId) (dI : Nat → Nat → Nat) (aC : Nat → ClassId) (sz : Nat) (p0 : Int32)  : Met l yX11_sizeOf wsX11_sizeOf ({ frames := 2, cells := 0, slots := 0, locals := 40 } : Room) (rf_Pc (dC, dI) aC [.int p0] [] sz) QcAny 0 0 (fun _ => False) := by
  refine Met.ofW (cc := cX11_sizeOf) (maxL := 1) (ret := (some .int)) (by decide) rfl ?_
  intro p e s m args below meth c s₁ B hml hv
  obtain ⟨rfl, hsz, hP, hKN, hD0⟩ := hv
  obtain ⟨hK, hN⟩ := hKN
  have hx := B.exec
  have hb := B.bytes
  have hr := B.returns
  have hts := atoms_spec (ws := wsX11_sizeOf) B.pre
  have hown : s.vm.findClass RX11 = some m.cls := findClass_of_methodNamed B.named
  have hlocks := B.notSynchronized
  subst hsz
  have hD := hD0.self (sz := s.heap.size)
  generalize hAe : va_A [] s.heap.size = A at hD
  have hA : ∀ q : Nat, s.heap.size ≤ q → A q := fun q h => by rw [← hAe]; exact Or.inr h
  have hS : va_S A s.heap s.heap [] := va_S.rf
  have hP : va_P (dC, dI) rfCl [] s.heap := hP
  have hl := lv_entry ([.int p0]) (n := 1) (Nat.le_of_ble_eq_true rfl)
  rw [lg_entry_eq]
  generalize (lg_sl ([.int p0]) ++ List.replicate (1 - (lg_sl ([.int p0])).length) Slot.unset).toArray = ls at hl ⊢
  have hl : lv_has ls 1 [(0, .int p0)] := hl
  refine lv_iload_n hx hb dX11_sizeOf_0 rfl (lv_at hl 0 rfl) ?_
  have hPc := hP.sub (ws' := []) [] rfl
  have hDc := hD.sub (ws' := []) [] (by decide) rfl
  refine W.callA (W.runS (As := [.int p0]) (rest := []) ⟨hx, hb, hml, hown, hts⟩ (c_J6_bitCount_0f7a4 l dC dI aC s.heap.size p0) (va_cwS 1 hts gX11_sizeOf_J6_bitCount_0f7a4 rfl rfl rfl (by decide +kernel) ⟨Nat.le_of_ble_eq_true rfl, Nat.le_of_ble_eq_true rfl⟩) (rf_ps hK hN hPc hDc) rfl rfl hl.1 rfl (lv_room (Nat.le_of_ble_eq_true rfl)) dX11_sizeOf_1 ⟨Nat.le_of_ble_eq_true rfl, Nat.le_of_ble_eq_true rfl⟩) (fun t1 => ?_)
  refine W.eq (g2 := F0 m 4 ls [.int t1]) rfl ?_
  exact W.iret (v := t1) hx hb hr (fun t ht hW => ⟨_, rfl, ht⟩) (fun q h => nomatch h) dX11_sizeOf_4

set_option maxHeartbeats 4000000 in
set_option maxRecDepth 100000 in
theorem c_X3_howManyAlive (l : Launch) (dC : Nat → ClassId) (dI : Nat → Nat → Nat) (aC : Nat → ClassId) (sz : Nat) (h0 : Nat) (w : Value) (mny al : Int32)  : Met l yX3_howManyAlive wsX3_howManyAlive ({ frames := 3, cells := 0, slots := 0, locals := 80 } : Room) (rf_Pc (dC, dI) aC [.ref h0] [(h0, .inr (0, [w, .int mny, .int al]))] sz) QcAny 0 0 (fun _ => False) := by
  refine Met.ofW (cc := cX3_howManyAlive) (maxL := 1) (ret := (some .int)) (by decide) rfl ?_
  intro p e s m args below meth c s₁ B hml hv
  obtain ⟨rfl, hsz, hP, hKN, hD0⟩ := hv
  obtain ⟨hK, hN⟩ := hKN
  have hx := B.exec
  have hb := B.bytes
  have hr := B.returns
  have hts := atoms_spec (ws := wsX3_howManyAlive) B.pre
  have hown : s.vm.findClass RX3 = some m.cls := findClass_of_methodNamed B.named
  have hlocks := B.notSynchronized
  subst hsz
  have hD := hD0.self (sz := s.heap.size)
  generalize hAe : va_A [(h0, .inr (0, [w, .int mny, .int al]))] s.heap.size = A at hD
  have hA : ∀ q : Nat, s.heap.size ≤ q → A q := fun q h => by rw [← hAe]; exact Or.inr h
  have hS : va_S A s.heap s.heap [] := va_S.rf
  have hP : va_P (dC, dI) rfCl [(h0, .inr (0, [w, .int mny, .int al]))] s.heap := hP
  have hl := lv_entry ([.ref h0]) (n := 1) (Nat.le_of_ble_eq_true rfl)
  rw [lg_entry_eq]
  generalize (lg_sl ([.ref h0]) ++ List.replicate (1 - (lg_sl ([.ref h0])).length) Slot.unset).toArray = ls at hl ⊢
  have hl : lv_has ls 1 [(0, .ref h0)] := hl
  refine lv_aload_n hx hb dX3_howManyAlive_0 rfl (lv_at hl 0 rfl) ?_
  refine va_get (D := (dC, dI)) (ci := 0) (v := .int al) (C := RX3) (T := TX3) (N := 3) hx hb hts (by decide +kernel) hown hK hP 0 rfl rfl 2 (by decide) (hts (.fieldLink RX3 23 "Transversary$Points" "alive" "I") (by decide +kernel)) (fun _ h9 => h9) rfl dX3_howManyAlive_1 ?_
  have hPc := hP.sub (ws' := []) [] rfl
  have hDc := hD.sub (ws' := []) [] (by decide) rfl
  refine W.callA (rf_cr (va_runSN (As := [.int al]) (rest := []) ⟨hx, hb, hml, hown, hts⟩ (c_X11_sizeOf l dC dI aC s.heap.size al) (⟨va_cnB 1 hts (goodIn_sub (by decide +kernel) (by decide +kernel)) rfl rfl rfl (rf_nst hN 0 (q := (RX3, 26, yX11_sizeOf, "Transversary")) rfl) (hts (.initialized RX11) (by decide +kernel)) (by decide +kernel) ⟨Nat.le_of_ble_eq_true rfl, Nat.le_of_ble_eq_true rfl⟩, hts (.static yX11_sizeOf) (by decide +kernel), trivial⟩) (rf_ps hK hN hPc hDc) rfl rfl hl.1 rfl (lv_room (Nat.le_of_ble_eq_true rfl)) dX3_howManyAlive_4 ⟨Nat.le_of_ble_eq_true rfl, Nat.le_of_ble_eq_true rfl⟩)) (fun t1 => ?_)
  refine W.eq (g2 := F0 m 7 ls [.int t1]) rfl ?_
  exact W.iret (v := t1) hx hb hr (fun t ht hW => ⟨_, rfl, ht⟩) (fun q h => nomatch h) dX3_howManyAlive_7

set_option maxHeartbeats 4000000 in
set_option maxRecDepth 100000 in
theorem c_X3_tellDeath (l : Launch) (dC : Nat → ClassId) (dI : Nat → Nat → Nat) (aC : Nat → ClassId) (sz : Nat) (h0 w : Nat) (f : Nat → Int32) (mny al p0 al2 : Int32) (h1 : ¬ p0 < 0) (h2 : ¬ mny ≤ p0) (h3 : ¬ (7 : Int32) ≤ p0) (h4 : al &&& (((1 : Int32) <<< (p0 &&& 31)) ^^^ (-1)) = al2) : Met l yX3_tellDeath wsX3_tellDeath ({ frames := 2, cells := 0, slots := 0, locals := 40 } : Room) (rf_Pc (dC, dI) aC [.ref h0, .int p0, .int 1] [(h0, .inr (0, [.ref w, .int mny, .int al])), (w, .inl (aC 1, 7, .inl f))] sz) (va_Qv (fun (u : Unit) => True) (fun (u : Unit) t => va_P (dC, dI) rfCl [(h0, .inr (0, [.ref w, .int mny, .int al2])), (w, .inl (aC 1, 7, .inl f))] t.heap ∧ va_D (va_A [(h0, .inr (0, [.ref w, .int mny, .int al])), (w, .inl (aC 1, 7, .inl f))] sz) [(h0, .inr (0, [.ref w, .int mny, .int al2])), (w, .inl (aC 1, 7, .inl f))]) (va_A [(h0, .inr (0, [.ref w, .int mny, .int al])), (w, .inl (aC 1, 7, .inl f))] sz)) 0 0 (va_A [(h0, .inr (0, [.ref w, .int mny, .int al])), (w, .inl (aC 1, 7, .inl f))] sz) := by
  refine Met.ofW (cc := cX3_tellDeath) (maxL := 3) (ret := none) (by decide) rfl ?_
  intro p e s m args below meth c s₁ B hml hv
  obtain ⟨rfl, hsz, hP, hKN, hD0⟩ := hv
  obtain ⟨hK, hN⟩ := hKN
  have hx := B.exec
  have hb := B.bytes
  have hr := B.returns
  have hts := atoms_spec (ws := wsX3_tellDeath) B.pre
  have hown : s.vm.findClass RX3 = some m.cls := findClass_of_methodNamed B.named
  have hlocks := B.notSynchronized
  subst hsz
  have hD := hD0.self (sz := s.heap.size)
  generalize hAe : va_A [(h0, .inr (0, [.ref w, .int mny, .int al])), (w, .inl (aC 1, 7, .inl f))] s.heap.size = A at hD ⊢
  have hA : ∀ q : Nat, s.heap.size ≤ q → A q := fun q h => by rw [← hAe]; exact Or.inr h
  have hS : va_S A s.heap s.heap [] := va_S.rf
  have hP : va_P (dC, dI) rfCl [(h0, .inr (0, [.ref w, .int mny, .int al])), (w, .inl (aC 1, 7, .inl f))] s.heap := hP
  have hl := lv_entry ([.ref h0, .int p0, .int 1]) (n := 3) (Nat.le_of_ble_eq_true rfl)
  rw [lg_entry_eq]
  generalize (lg_sl ([.ref h0, .int p0, .int 1]) ++ List.replicate (3 - (lg_sl ([.ref h0, .int p0, .int 1])).length) Slot.unset).toArray = ls at hl ⊢
  have hl : lv_has ls 3 [(0, .ref h0), (1, .int p0), (2, .int 1)] := hl
  refine lv_aload_n hx hb dX3_tellDeath_0 rfl (lv_at hl 0 rfl) ?_
  refine lv_iload_n hx hb dX3_tellDeath_1 rfl (lv_at hl 1 rfl) ?_
  have hPc := hP.sub (ws' := [(h0, .inr (0, [.ref w, .int mny, .int al])), (w, .inl (aC 1, 7, .inl f))]) [0, 1] rfl
  have hDc := hD.sub (ws' := [(h0, .inr (0, [.ref w, .int mny, .int al])), (w, .inl (aC 1, 7, .inl f))]) [0, 1] (by decide) rfl
  refine W.callR (W.runV (As := [.int p0]) (rest := []) ⟨hx, hb, hml, hown, hts⟩ (c_X3_knows l dC dI aC s.heap.size h0 w f mny al p0 h1 h2 h3) (cwV 1 hts gX3_tellDeath_X3_knows rfl rfl rfl (by decide +kernel) ⟨Nat.le_of_ble_eq_true rfl, Nat.le_of_ble_eq_true rfl⟩) (rf_pv hK hN hPc hDc (va_recv hK hP (ci := 0) (q0 := 0) rfl rfl)) rfl rfl hl.1 rfl (lv_room (Nat.le_of_ble_eq_true rfl)) dX3_tellDeath_2 ⟨Nat.le_of_ble_eq_true rfl, Nat.le_of_ble_eq_true rfl⟩) ?_
  refine W.eq (g2 := F0 m 5 ls [.int 1]) rfl ?_
  refine lv_if_eq (tgt := 37) hx hb dX3_tellDeath_5 (by decide) (fun c9 => absurd c9 (by decide)) (fun _ => ?_)
  refine lv_aload_n hx hb dX3_tellDeath_8 rfl (lv_at hl 0 rfl) ?_
  refine lv_iload_n hx hb dX3_tellDeath_9 rfl (lv_at hl 2 rfl) ?_
  refine lv_if_eq (tgt := 26) hx hb dX3_tellDeath_10 (by decide) (fun c9 => absurd c9 (by decide)) (fun _ => ?_)
  refine lv_aload_n hx hb dX3_tellDeath_13 rfl (lv_at hl 0 rfl) ?_
  refine va_get (D := (dC, dI)) (ci := 0) (v := .int al) (C := RX3) (T := TX3) (N := 3) hx hb hts (by decide +kernel) hown hK hP 0 rfl rfl 2 (by decide) (hts (.fieldLink RX3 23 "Transversary$Points" "alive" "I") (by decide +kernel)) (fun _ h9 => h9) rfl dX3_tellDeath_14 ?_
  refine lv_iconst (v := 1) hx hb dX3_tellDeath_17 (by decide) ?_
  refine lv_iload_n hx hb dX3_tellDeath_18 rfl (lv_at hl 1 rfl) ?_
  refine lv_ishl hx hb dX3_tellDeath_19 ?_
  refine lv_topi (fun t1 et1 => ?_)
  refine lv_iconst (v := -1) hx hb dX3_tellDeath_20 (by decide) ?_
  refine lv_ixor hx hb dX3_tellDeath_21 ?_
  refine lv_topi (fun t2 et2 => ?_)
  refine lv_iand hx hb dX3_tellDeath_22 ?_
  refine lv_topi (fun t3 et3 => ?_)
  have h5 : t3 = al2 := by rw [et3, et2, et1]; exact h4
  subst h5
  refine lv_goto (tgt := 34) hx hb dX3_tellDeath_23 (by decide) ?_
  refine va_put (D := (dC, dI)) (ci := 0) (v := .int t3) (ty := .int) (C := RX3) (T := TX3) (N := 3) hx hb hts (by decide +kernel) tyX3 tyX3_ok nmX3 hown hK hP hD hS 0 rfl rfl 2 (by decide) (hts (.fieldLink RX3 23 "Transversary$Points" "alive" "I") (by decide +kernel)) (fun _ h9 => h9) rfl (by decide +kernel) rfl rfl (Nat.le_of_ble_eq_true rfl) dX3_tellDeath_34 (fun H locs hP hD hS => ?_)
  have hP : va_P (dC, dI) rfCl [(h0, .inr (0, [.ref w, .int mny, .int t3])), (w, .inl (aC 1, 7, .inl f))] H := hP
  have hD : va_D A [(h0, .inr (0, [.ref w, .int mny, .int t3])), (w, .inl (aC 1, 7, .inl f))] := hD
  have hP9 := hP.sub (ws' := [(h0, .inr (0, [.ref w, .int mny, .int t3])), (w, .inl (aC 1, 7, .inl f))]) [0, 1] rfl
  have hD9 := hD.sub (ws' := [(h0, .inr (0, [.ref w, .int mny, .int t3])), (w, .inl (aC 1, 7, .inl f))]) [0, 1] (by decide) rfl
  refine W.widen (k := 0) (n := 0) (Nat.le_of_ble_eq_true rfl) (Nat.le_of_ble_eq_true rfl) ?_
  exact W.vret hx hb hr (fun t ht hW => ⟨⟨(), rfl, trivial, by rw [ht]; exact hP9, hD9⟩, hS.F ht⟩) hS.2.2 dX3_tellDeath_37

set_option maxHeartbeats 4000000 in
set_option maxRecDepth 100000 in
theorem c_X11_isIn (l : Launch) (dC : Nat → ClassId) (dI : Nat → Nat → Nat) (aC : Nat → ClassId) (sz : Nat) (p0 p1 r : Int32) (h1 : (if p0 &&& (p1 ^^^ (-1)) = 0 then (1 : Int32) else 0) = r) : Met l yX11_isIn wsX11_isIn ({ frames := 1, cells := 0, slots := 0, locals := 0 } : Room) (rf_Pc (dC, dI) aC [.int p0, .int p1] [] sz) (QcRead r) 0 0 (fun _ => False) := by
  refine Met.ofW (cc := cX11_isIn) (maxL := 2) (ret := (some .boolean)) (by decide) rfl ?_
  intro p e s m args below meth c s₁ B hml hv
  obtain ⟨rfl, hsz, hP, hKN, hD0⟩ := hv
  obtain ⟨hK, hN⟩ := hKN
  have hx := B.exec
  have hb := B.bytes
  have hr := B.returns
  have hts := atoms_spec (ws := wsX11_isIn) B.pre
  have hown : s.vm.findClass RX11 = some m.cls := findClass_of_methodNamed B.named
  have hlocks := B.notSynchronized
  subst hsz
  have hD := hD0.self (sz := s.heap.size)
  generalize hAe : va_A [] s.heap.size = A at hD
  have hA : ∀ q : Nat, s.heap.size ≤ q → A q := fun q h => by rw [← hAe]; exact Or.inr h
  have hS : va_S A s.heap s.heap [] := va_S.rf
  have hP : va_P (dC, dI) rfCl [] s.heap := hP
  have hl := lv_entry ([.int p0, .int p1]) (n := 2) (Nat.le_of_ble_eq_true rfl)
  rw [lg_entry_eq]
  generalize (lg_sl ([.int p0, .int p1]) ++ List.replicate (2 - (lg_sl ([.int p0, .int p1])).length) Slot.unset).toArray = ls at hl ⊢
  have hl : lv_has ls 2 [(0, .int p0), (1, .int p1)] := hl
  refine lv_iload_n hx hb dX11_isIn_0 rfl (lv_at hl 0 rfl) ?_
  refine lv_iload_n hx hb dX11_isIn_1 rfl (lv_at hl 1 rfl) ?_
  refine lv_iconst (v := -1) hx hb dX11_isIn_2 (by decide) ?_
  refine lv_ixor hx hb dX11_isIn_3 ?_
  refine lv_topi (fun t1 et1 => ?_)
  refine lv_iand hx hb dX11_isIn_4 ?_
  refine lv_topi (fun t2 et2 => ?_)
  rw [et1] at et2
  rw [← et2] at h1
  refine lv_if_ne (tgt := 12) hx hb dX11_isIn_5 (by decide) (fun c9 => ?_) (fun c9 => ?_)
  · rw [if_neg c9] at h1
    subst h1
    refine lv_iconst (v := 0) hx hb dX11_isIn_12 (by decide) ?_
    exact W.zret (v := 0) hx hb hr rfl (fun t ht hW => ⟨rfl, ht⟩) (fun q h => nomatch h) dX11_isIn_13
  · rw [if_pos c9] at h1
    subst h1
    refine lv_iconst (v := 1) hx hb dX11_isIn_8 (by decide) ?_
    refine lv_goto (tgt := 13) hx hb dX11_isIn_9 (by decide) ?_
    exact W.zret (v := 1) hx hb hr rfl (fun t ht hW => ⟨rfl, ht⟩) (fun q h => nomatch h) dX11_isIn_13
end
section
set_option maxHeartbeats 4000000 in
set_option maxRecDepth 100000 in
theorem c_X11_checkRange (l : Launch) (dC : Nat → ClassId) (dI : Nat → Nat → Nat) (aC : Nat → ClassId) (sz : Nat) (h0 : Nat) (p0 p1 p2 : Int32) (h1 : ¬ p0 < p1) (h2 : p0 ≤ p2) : Met l yX11_checkRange wsX11_checkRange ({ frames := 1, cells := 0, slots := 0, locals := 0 } : Room) (rf_Pc (dC, dI) aC [.ref h0, .int p0, .int p1, .int p2] [] sz) (va_Sv (fun _ => True)) 0 0 (fun _ => False) := by
  refine Met.ofW (cc := cX11_checkRange) (maxL := 4) (ret := none) (by decide) rfl ?_
  intro p e s m args below meth c s₁ B hml hv
  obtain ⟨rfl, hsz, hP, hKN, hD0⟩ := hv
  obtain ⟨hK, hN⟩ := hKN
  have hx := B.exec
  have hb := B.bytes
  have hr := B.returns
  have hts := atoms_spec (ws := wsX11_checkRange) B.pre
  have hown : s.vm.findClass RX11 = some m.cls := findClass_of_methodNamed B.named
  have hlocks := B.notSynchronized
  subst hsz
  have hD := hD0.self (sz := s.heap.size)
  generalize hAe : va_A [] s.heap.size = A at hD
  have hA : ∀ q : Nat, s.heap.size ≤ q → A q := fun q h => by rw [← hAe]; exact Or.inr h
  have hS : va_S A s.heap s.heap [] := va_S.rf
  have hP : va_P (dC, dI) rfCl [] s.heap := hP
  have hl := lv_entry ([.ref h0, .int p0, .int p1, .int p2]) (n := 4) (Nat.le_of_ble_eq_true rfl)
  rw [lg_entry_eq]
  generalize (lg_sl ([.ref h0, .int p0, .int p1, .int p2]) ++ List.replicate (4 - (lg_sl ([.ref h0, .int p0, .int p1, .int p2])).length) Slot.unset).toArray = ls at hl ⊢
  have hl : lv_has ls 4 [(0, .ref h0), (1, .int p0), (2, .int p1), (3, .int p2)] := hl
  refine lv_iload_n hx hb dX11_checkRange_0 rfl (lv_at hl 1 rfl) ?_
  refine lv_iload_n hx hb dX11_checkRange_1 rfl (lv_at hl 2 rfl) ?_
  refine lv_icmp_lt (tgt := 10) hx hb dX11_checkRange_2 (by decide) (fun c9 => absurd c9 h1) (fun _ => ?_)
  refine lv_iload_n hx hb dX11_checkRange_5 rfl (lv_at hl 1 rfl) ?_
  refine lv_iload_n hx hb dX11_checkRange_6 rfl (lv_at hl 3 rfl) ?_
  refine lv_icmp_le (tgt := 21) hx hb dX11_checkRange_7 (by decide) (fun _ => ?_) (fun c9 => absurd h2 c9)
  exact W.vret hx hb hr (fun t ht hW => ⟨rfl, trivial, ht⟩) (fun q h => nomatch h) dX11_checkRange_21

set_option maxHeartbeats 4000000 in
set_option maxRecDepth 100000 in
theorem c_X11_checkPoint (l : Launch) (dC : Nat → ClassId) (dI : Nat → Nat → Nat) (aC : Nat → ClassId) (sz : Nat) (h0 pt fa pa md rg mk : Nat) (o1 o2 o3 o4 o5 o6 o7 o8 : Value) (fc : Int32) (w : Nat) (f : Nat → Int32) (mny al p0 : Int32) (h1 : ¬ p0 < 0) (h2 : ¬ mny ≤ p0) (h3 : ¬ (7 : Int32) ≤ p0) : Met l yX11_checkPoint wsX11_checkPoint ({ frames := 2, cells := 0, slots := 0, locals := 40 } : Room) (rf_Pc (dC, dI) aC [.ref h0, .int p0] [(h0, .inr (11, [.ref pt, .ref fa, .int fc, .ref pa, o1, .ref md, o2, o3, .ref rg, o4, .ref mk, o5, o6, o7, o8])), (pt, .inr (0, [.ref w, .int mny, .int al])), (w, .inl (aC 1, 7, .inl f))] sz) (va_Sv (fun _ => True)) 0 0 (fun _ => False) := by
  refine Met.ofW (cc := cX11_checkPoint) (maxL := 2) (ret := none) (by decide) rfl ?_
  intro p e s m args below meth c s₁ B hml hv
  obtain ⟨rfl, hsz, hP, hKN, hD0⟩ := hv
  obtain ⟨hK, hN⟩ := hKN
  have hx := B.exec
  have hb := B.bytes
  have hr := B.returns
  have hts := atoms_spec (ws := wsX11_checkPoint) B.pre
  have hown : s.vm.findClass RX11 = some m.cls := findClass_of_methodNamed B.named
  have hlocks := B.notSynchronized
  subst hsz
  have hD := hD0.self (sz := s.heap.size)
  generalize hAe : va_A [(h0, .inr (11, [.ref pt, .ref fa, .int fc, .ref pa, o1, .ref md, o2, o3, .ref rg, o4, .ref mk, o5, o6, o7, o8])), (pt, .inr (0, [.ref w, .int mny, .int al])), (w, .inl (aC 1, 7, .inl f))] s.heap.size = A at hD
  have hA : ∀ q : Nat, s.heap.size ≤ q → A q := fun q h => by rw [← hAe]; exact Or.inr h
  have hS : va_S A s.heap s.heap [] := va_S.rf
  have hP : va_P (dC, dI) rfCl [(h0, .inr (11, [.ref pt, .ref fa, .int fc, .ref pa, o1, .ref md, o2, o3, .ref rg, o4, .ref mk, o5, o6, o7, o8])), (pt, .inr (0, [.ref w, .int mny, .int al])), (w, .inl (aC 1, 7, .inl f))] s.heap := hP
  have hl := lv_entry ([.ref h0, .int p0]) (n := 2) (Nat.le_of_ble_eq_true rfl)
  rw [lg_entry_eq]
  generalize (lg_sl ([.ref h0, .int p0]) ++ List.replicate (2 - (lg_sl ([.ref h0, .int p0])).length) Slot.unset).toArray = ls at hl ⊢
  have hl : lv_has ls 2 [(0, .ref h0), (1, .int p0)] := hl
  refine lv_aload_n hx hb dX11_checkPoint_0 rfl (lv_at hl 0 rfl) ?_
  refine va_get (D := (dC, dI)) (ci := 11) (v := .ref pt) (C := RX11) (T := TX11) (N := 15) hx hb hts (by decide +kernel) hown hK hP 0 rfl rfl 0 (by decide) (hts (.fieldLink RX11 12 "Transversary" "points" "LTransversary$Points;") (by decide +kernel)) (fun _ h9 => h9) rfl dX11_checkPoint_1 ?_
  refine lv_iload_n hx hb dX11_checkPoint_4 rfl (lv_at hl 1 rfl) ?_
  have hPc := hP.sub (ws' := [(pt, .inr (0, [.ref w, .int mny, .int al])), (w, .inl (aC 1, 7, .inl f))]) [1, 2] rfl
  have hDc := hD.sub (ws' := [(pt, .inr (0, [.ref w, .int mny, .int al])), (w, .inl (aC 1, 7, .inl f))]) [1, 2] (by decide) rfl
  refine W.callR (W.runV (As := [.int p0]) (rest := []) ⟨hx, hb, hml, hown, hts⟩ (c_X3_knows l dC dI aC s.heap.size pt w f mny al p0 h1 h2 h3) (cwV 1 hts gX11_checkPoint_X3_knows rfl rfl rfl (by decide +kernel) ⟨Nat.le_of_ble_eq_true rfl, Nat.le_of_ble_eq_true rfl⟩) (rf_pv hK hN hPc hDc (va_recv hK hP (ci := 0) (q0 := 1) rfl rfl)) rfl rfl hl.1 rfl (lv_room (Nat.le_of_ble_eq_true rfl)) dX11_checkPoint_5 ⟨Nat.le_of_ble_eq_true rfl, Nat.le_of_ble_eq_true rfl⟩) ?_
  refine W.eq (g2 := F0 m 8 ls [.int 1]) rfl ?_
  refine lv_if_ne (tgt := 22) hx hb dX11_checkPoint_8 (by decide) (fun _ => ?_) (fun c9 => absurd c9 (by decide))
  exact W.vret hx hb hr (fun t ht hW => ⟨rfl, trivial, ht⟩) (fun q h => nomatch h) dX11_checkPoint_22

set_option maxHeartbeats 4000000 in
set_option maxRecDepth 100000 in
theorem c_X11_checkRoom (l : Launch) (dC : Nat → ClassId) (dI : Nat → Nat → Nat) (aC : Nat → ClassId) (sz : Nat) (h0 pt fa pa md rg mk : Nat) (o1 o2 o3 o4 o5 o6 o7 o8 : Value) (fc : Int32) (h1 : fc < 5) : Met l yX11_checkRoom wsX11_checkRoom ({ frames := 1, cells := 0, slots := 0, locals := 0 } : Room) (rf_Pc (dC, dI) aC [.ref h0] [(h0, .inr (11, [.ref pt, .ref fa, .int fc, .ref pa, o1, .ref md, o2, o3, .ref rg, o4, .ref mk, o5, o6, o7, o8]))] sz) (va_Sv (fun _ => True)) 0 0 (fun _ => False) := by
  refine Met.ofW (cc := cX11_checkRoom) (maxL := 1) (ret := none) (by decide) rfl ?_
  intro p e s m args below meth c s₁ B hml hv
  obtain ⟨rfl, hsz, hP, hKN, hD0⟩ := hv
  obtain ⟨hK, hN⟩ := hKN
  have hx := B.exec
  have hb := B.bytes
  have hr := B.returns
  have hts := atoms_spec (ws := wsX11_checkRoom) B.pre
  have hown : s.vm.findClass RX11 = some m.cls := findClass_of_methodNamed B.named
  have hlocks := B.notSynchronized
  subst hsz
  have hD := hD0.self (sz := s.heap.size)
  generalize hAe : va_A [(h0, .inr (11, [.ref pt, .ref fa, .int fc, .ref pa, o1, .ref md, o2, o3, .ref rg, o4, .ref mk, o5, o6, o7, o8]))] s.heap.size = A at hD
  have hA : ∀ q : Nat, s.heap.size ≤ q → A q := fun q h => by rw [← hAe]; exact Or.inr h
  have hS : va_S A s.heap s.heap [] := va_S.rf
  have hP : va_P (dC, dI) rfCl [(h0, .inr (11, [.ref pt, .ref fa, .int fc, .ref pa, o1, .ref md, o2, o3, .ref rg, o4, .ref mk, o5, o6, o7, o8]))] s.heap := hP
  have hl := lv_entry ([.ref h0]) (n := 1) (Nat.le_of_ble_eq_true rfl)
  rw [lg_entry_eq]
  generalize (lg_sl ([.ref h0]) ++ List.replicate (1 - (lg_sl ([.ref h0])).length) Slot.unset).toArray = ls at hl ⊢
  have hl : lv_has ls 1 [(0, .ref h0)] := hl
  refine lv_aload_n hx hb dX11_checkRoom_0 rfl (lv_at hl 0 rfl) ?_
  refine va_get (D := (dC, dI)) (ci := 11) (v := .int fc) (C := RX11) (T := TX11) (N := 15) hx hb hts (by decide +kernel) hown hK hP 0 rfl rfl 2 (by decide) (hts (.fieldLink RX11 108 "Transversary" "familyCount" "I") (by decide +kernel)) (fun _ h9 => h9) rfl dX11_checkRoom_1 ?_
  refine lv_iconst (v := 5) hx hb dX11_checkRoom_4 (by decide) ?_
  refine lv_icmp_lt (tgt := 19) hx hb dX11_checkRoom_5 (by decide) (fun _ => ?_) (fun c9 => absurd h1 c9)
  exact W.vret hx hb hr (fun t ht hW => ⟨rfl, trivial, ht⟩) (fun q h => nomatch h) dX11_checkRoom_19

set_option maxHeartbeats 4000000 in
set_option maxRecDepth 100000 in
theorem c_X11_ground (l : Launch) (dC : Nat → ClassId) (dI : Nat → Nat → Nat) (aC : Nat → ClassId) (sz : Nat) (h0 pt fa pa md rg mk : Nat) (o1 o2 o3 o4 o5 o6 o7 o8 : Value) (fc : Int32) (w : Nat) (f : Nat → Int32) (mny al : Int32)  : Met l yX11_ground wsX11_ground ({ frames := 3, cells := 0, slots := 0, locals := 80 } : Room) (rf_Pc (dC, dI) aC [.ref h0, .int 7] [(h0, .inr (11, [.ref pt, .ref fa, .int fc, .ref pa, o1, .ref md, o2, o3, .ref rg, o4, .ref mk, o5, o6, o7, o8])), (pt, .inr (0, [.ref w, .int mny, .int al])), (w, .inl (aC 1, 7, .inl f))] sz) (va_Qi (fun (r : Int32) (u : Nat → Int32) => r = 128) (fun (u : Nat → Int32) t => va_P (dC, dI) rfCl [(h0, .inr (11, [.ref pt, .ref fa, .int 0, .ref pa, o1, .ref md, o2, o3, .ref rg, o4, .ref mk, o5, o6, o7, o8])), (pt, .inr (0, [.ref w, .int 7, .int 127])), (w, .inl (aC 1, 7, .inl u))] t.heap ∧ va_D (va_A [(h0, .inr (11, [.ref pt, .ref fa, .int fc, .ref pa, o1, .ref md, o2, o3, .ref rg, o4, .ref mk, o5, o6, o7, o8])), (pt, .inr (0, [.ref w, .int mny, .int al])), (w, .inl (aC 1, 7, .inl f))] sz) [(h0, .inr (11, [.ref pt, .ref fa, .int 0, .ref pa, o1, .ref md, o2, o3, .ref rg, o4, .ref mk, o5, o6, o7, o8])), (pt, .inr (0, [.ref w, .int 7, .int 127])), (w, .inl (aC 1, 7, .inl u))]) (va_A [(h0, .inr (11, [.ref pt, .ref fa, .int fc, .ref pa, o1, .ref md, o2, o3, .ref rg, o4, .ref mk, o5, o6, o7, o8])), (pt, .inr (0, [.ref w, .int mny, .int al])), (w, .inl (aC 1, 7, .inl f))] sz)) 0 0 (va_A [(h0, .inr (11, [.ref pt, .ref fa, .int fc, .ref pa, o1, .ref md, o2, o3, .ref rg, o4, .ref mk, o5, o6, o7, o8])), (pt, .inr (0, [.ref w, .int mny, .int al])), (w, .inl (aC 1, 7, .inl f))] sz) := by
  refine Met.ofW (cc := cX11_ground) (maxL := 2) (ret := (some .int)) (by decide) rfl ?_
  intro p e s m args below meth c s₁ B hml hv
  obtain ⟨rfl, hsz, hP, hKN, hD0⟩ := hv
  obtain ⟨hK, hN⟩ := hKN
  have hx := B.exec
  have hb := B.bytes
  have hr := B.returns
  have hts := atoms_spec (ws := wsX11_ground) B.pre
  have hown : s.vm.findClass RX11 = some m.cls := findClass_of_methodNamed B.named
  have hlocks := B.notSynchronized
  subst hsz
  have hD := hD0.self (sz := s.heap.size)
  generalize hAe : va_A [(h0, .inr (11, [.ref pt, .ref fa, .int fc, .ref pa, o1, .ref md, o2, o3, .ref rg, o4, .ref mk, o5, o6, o7, o8])), (pt, .inr (0, [.ref w, .int mny, .int al])), (w, .inl (aC 1, 7, .inl f))] s.heap.size = A at hD ⊢
  have hA : ∀ q : Nat, s.heap.size ≤ q → A q := fun q h => by rw [← hAe]; exact Or.inr h
  have hS : va_S A s.heap s.heap [] := va_S.rf
  have hP : va_P (dC, dI) rfCl [(h0, .inr (11, [.ref pt, .ref fa, .int fc, .ref pa, o1, .ref md, o2, o3, .ref rg, o4, .ref mk, o5, o6, o7, o8])), (pt, .inr (0, [.ref w, .int mny, .int al])), (w, .inl (aC 1, 7, .inl f))] s.heap := hP
  have hl := lv_entry ([.ref h0, .int 7]) (n := 2) (Nat.le_of_ble_eq_true rfl)
  rw [lg_entry_eq]
  generalize (lg_sl ([.ref h0, .int 7]) ++ List.replicate (2 - (lg_sl ([.ref h0, .int 7])).length) Slot.unset).toArray = ls at hl ⊢
  have hl : lv_has ls 2 [(0, .ref h0), (1, .int 7)] := hl
  refine lv_aload_n hx hb dX11_ground_0 rfl (lv_at hl 0 rfl) ?_
  refine lv_iload_n hx hb dX11_ground_1 rfl (lv_at hl 1 rfl) ?_
  refine lv_iconst (v := 2) hx hb dX11_ground_2 (by decide) ?_
  refine lv_bipush (v := 7) hx hb dX11_ground_3 (by decide) ?_
  have hPc := hP.sub (ws' := []) [] rfl
  have hDc := hD.sub (ws' := []) [] (by decide) rfl
  refine va_csv (W.runV (As := [.int 7, .int 2, .int 7]) (rest := []) ⟨hx, hb, hml, hown, hts⟩ (c_X11_checkRange l dC dI aC s.heap.size h0 7 2 7 (by decide) (by decide)) (cwV 3 hts gX11_ground_X11_checkRange rfl rfl rfl (by decide +kernel) ⟨Nat.le_of_ble_eq_true rfl, Nat.le_of_ble_eq_true rfl⟩) (rf_pv hK hN hPc hDc (va_recv hK hP (ci := 11) (q0 := 0) rfl rfl)) rfl rfl hl.1 rfl (lv_room (Nat.le_of_ble_eq_true rfl)) dX11_ground_5 ⟨Nat.le_of_ble_eq_true rfl, Nat.le_of_ble_eq_true rfl⟩) (fun _ => ?_)
  refine lv_aload_n hx hb dX11_ground_8 rfl (lv_at hl 0 rfl) ?_
  refine va_get (D := (dC, dI)) (ci := 11) (v := .ref pt) (C := RX11) (T := TX11) (N := 15) hx hb hts (by decide +kernel) hown hK hP 0 rfl rfl 0 (by decide) (hts (.fieldLink RX11 12 "Transversary" "points" "LTransversary$Points;") (by decide +kernel)) (fun _ h9 => h9) rfl dX11_ground_9 ?_
  refine lv_iload_n hx hb dX11_ground_12 rfl (lv_at hl 1 rfl) ?_
  have hPc := hP.sub (ws' := [(pt, .inr (0, [.ref w, .int mny, .int al])), (w, .inl (aC 1, 7, .inl f))]) [1, 2] rfl
  have hDc := hD.sub (ws' := [(pt, .inr (0, [.ref w, .int mny, .int al])), (w, .inl (aC 1, 7, .inl f))]) [1, 2] (by decide) rfl
  have hFc := va_free (wc := [(pt, .inr (0, [.ref w, .int mny, .int al])), (w, .inl (aC 1, 7, .inl f))]) hD hS hA [1, 2] rfl
  refine va_callv (va_runV (As := [.int 7]) (rest := []) ⟨hx, hb, hml, hown, hts⟩ (c_X3_begin l dC dI aC s.heap.size pt w f mny al 7 128 127 (by decide) (by decide)) (cwV 1 hts gX11_ground_X3_begin rfl rfl rfl (by decide +kernel) ⟨Nat.le_of_ble_eq_true rfl, Nat.le_of_ble_eq_true rfl⟩) (rf_pv hK hN hPc hDc (va_recv hK hP (ci := 0) (q0 := 1) rfl rfl)) rfl rfl hl.1 rfl (lv_room (Nat.le_of_ble_eq_true rfl)) dX11_ground_13 ⟨Nat.le_of_ble_eq_true rfl, Nat.le_of_ble_eq_true rfl⟩) hS (fun q _ h => hFc q h) hFc (fun u1 t H1 locs ht hvm hwu1 hB hz1 hk1 hS => ?_)
  obtain ⟨hP1, hD1⟩ := hB
  rw [ht] at hP1
  try dsimp only at hwu1 hP1 hD1
  obtain ⟨hP, hD⟩ := va_join (wr := [(h0, .inr (11, [.ref pt, .ref fa, .int fc, .ref pa, o1, .ref md, o2, o3, .ref rg, o4, .ref mk, o5, o6, o7, o8]))]) (w1 := [(pt, .inr (0, [.ref w, .int 7, .int 127])), (w, .inl (aC 1, 7, .inl u1))]) hP hD [1, 2] [0] rfl rfl (by decide) (by decide) hk1 hFc hP1 hD1
  clear hP1 hD1 hPc hDc hFc
  generalize H1 = H at hP hS ⊢
  have hP : va_P (dC, dI) rfCl [(h0, .inr (11, [.ref pt, .ref fa, .int fc, .ref pa, o1, .ref md, o2, o3, .ref rg, o4, .ref mk, o5, o6, o7, o8])), (pt, .inr (0, [.ref w, .int 7, .int 127])), (w, .inl (aC 1, 7, .inl u1))] H := hP
  have hD : va_D A [(h0, .inr (11, [.ref pt, .ref fa, .int fc, .ref pa, o1, .ref md, o2, o3, .ref rg, o4, .ref mk, o5, o6, o7, o8])), (pt, .inr (0, [.ref w, .int 7, .int 127])), (w, .inl (aC 1, 7, .inl u1))] := hD
  refine W.widen (k := 0) (n := 0) (Nat.le_of_ble_eq_true rfl) (Nat.le_of_ble_eq_true rfl) ?_
  refine lv_aload_n hx hb dX11_ground_16 rfl (lv_at hl 0 rfl) ?_
  refine lv_iconst (v := 0) hx hb dX11_ground_17 (by decide) ?_
  refine va_put (D := (dC, dI)) (ci := 11) (v := .int 0) (ty := .int) (C := RX11) (T := TX11) (N := 15) hx hb hts (by decide +kernel) tyX11 tyX11_ok nmX11 hown hK hP hD hS 0 rfl rfl 2 (by decide) (hts (.fieldLink RX11 108 "Transversary" "familyCount" "I") (by decide +kernel)) (fun _ h9 => h9) rfl (by decide +kernel) rfl rfl (Nat.le_of_ble_eq_true rfl) dX11_ground_18 (fun H locs hP hD hS => ?_)
  have hP : va_P (dC, dI) rfCl [(h0, .inr (11, [.ref pt, .ref fa, .int 0, .ref pa, o1, .ref md, o2, o3, .ref rg, o4, .ref mk, o5, o6, o7, o8])), (pt, .inr (0, [.ref w, .int 7, .int 127])), (w, .inl (aC 1, 7, .inl u1))] H := hP
  have hD : va_D A [(h0, .inr (11, [.ref pt, .ref fa, .int 0, .ref pa, o1, .ref md, o2, o3, .ref rg, o4, .ref mk, o5, o6, o7, o8])), (pt, .inr (0, [.ref w, .int 7, .int 127])), (w, .inl (aC 1, 7, .inl u1))] := hD
  refine lv_aload_n hx hb dX11_ground_21 rfl (lv_at hl 0 rfl) ?_
  refine va_get (D := (dC, dI)) (ci := 11) (v := .ref pt) (C := RX11) (T := TX11) (N := 15) hx hb hts (by decide +kernel) hown hK hP 0 rfl rfl 0 (by decide) (hts (.fieldLink RX11 12 "Transversary" "points" "LTransversary$Points;") (by decide +kernel)) (fun _ h9 => h9) rfl dX11_ground_22 ?_
  have hPc := hP.sub (ws' := [(pt, .inr (0, [.ref w, .int 7, .int 127]))]) [1] rfl
  have hDc := hD.sub (ws' := [(pt, .inr (0, [.ref w, .int 7, .int 127]))]) [1] (by decide) rfl
  refine W.callR (W.runV (As := []) (rest := []) ⟨hx, hb, hml, hown, hts⟩ (c_X3_howManySets l dC dI aC H.size pt (.ref w) 7 127 128 (by decide)) (cwV 0 hts gX11_ground_X3_howManySets rfl rfl rfl (by decide +kernel) ⟨Nat.le_of_ble_eq_true rfl, Nat.le_of_ble_eq_true rfl⟩) (rf_pv hK hN hPc hDc (va_recv hK hP (ci := 0) (q0 := 1) rfl rfl)) rfl rfl hl.1 rfl (lv_room (Nat.le_of_ble_eq_true rfl)) dX11_ground_25 ⟨Nat.le_of_ble_eq_true rfl, Nat.le_of_ble_eq_true rfl⟩) ?_
  refine W.eq (g2 := F0 m 28 ls [.int 128]) rfl ?_
  have hP9 := hP.sub (ws' := [(h0, .inr (11, [.ref pt, .ref fa, .int 0, .ref pa, o1, .ref md, o2, o3, .ref rg, o4, .ref mk, o5, o6, o7, o8])), (pt, .inr (0, [.ref w, .int 7, .int 127])), (w, .inl (aC 1, 7, .inl u1))]) [0, 1, 2] rfl
  have hD9 := hD.sub (ws' := [(h0, .inr (11, [.ref pt, .ref fa, .int 0, .ref pa, o1, .ref md, o2, o3, .ref rg, o4, .ref mk, o5, o6, o7, o8])), (pt, .inr (0, [.ref w, .int 7, .int 127])), (w, .inl (aC 1, 7, .inl u1))]) [0, 1, 2] (by decide) rfl
  refine W.widen (k := 0) (n := 0) (Nat.le_of_ble_eq_true rfl) (Nat.le_of_ble_eq_true rfl) ?_
  exact W.iret (v := 128) hx hb hr (fun t ht hW => ⟨⟨128, u1, rfl, rfl, by rw [ht]; exact hP9, hD9⟩, hS.F ht⟩) hS.2.2 dX11_ground_28

set_option maxHeartbeats 4000000 in
set_option maxRecDepth 100000 in
theorem c_X11_die (l : Launch) (dC : Nat → ClassId) (dI : Nat → Nat → Nat) (aC : Nat → ClassId) (sz : Nat) (h0 pt fa pa md rg mk : Nat) (o1 o2 o3 o4 o5 o6 o7 o8 : Value) (fc : Int32) (w : Nat) (f : Nat → Int32) (mny al p0 al2 : Int32) (h1 : ¬ p0 < 0) (h2 : ¬ mny ≤ p0) (h3 : ¬ (7 : Int32) ≤ p0) (h4 : al &&& (((1 : Int32) <<< (p0 &&& 31)) ^^^ (-1)) = al2) : Met l yX11_die wsX11_die ({ frames := 4, cells := 0, slots := 0, locals := 120 } : Room) (rf_Pc (dC, dI) aC [.ref h0, .int p0, .int 1] [(h0, .inr (11, [.ref pt, .ref fa, .int fc, .ref pa, o1, .ref md, o2, o3, .ref rg, o4, .ref mk, o5, o6, o7, o8])), (pt, .inr (0, [.ref w, .int mny, .int al])), (w, .inl (aC 1, 7, .inl f))] sz) (va_Qi (fun (r : Int32) (u : Unit) => True) (fun (u : Unit) t => va_P (dC, dI) rfCl [(h0, .inr (11, [.ref pt, .ref fa, .int fc, .ref pa, o1, .ref md, o2, o3, .ref rg, o4, .ref mk, o5, o6, o7, o8])), (pt, .inr (0, [.ref w, .int mny, .int al2])), (w, .inl (aC 1, 7, .inl f))] t.heap ∧ va_D (va_A [(h0, .inr (11, [.ref pt, .ref fa, .int fc, .ref pa, o1, .ref md, o2, o3, .ref rg, o4, .ref mk, o5, o6, o7, o8])), (pt, .inr (0, [.ref w, .int mny, .int al])), (w, .inl (aC 1, 7, .inl f))] sz) [(h0, .inr (11, [.ref pt, .ref fa, .int fc, .ref pa, o1, .ref md, o2, o3, .ref rg, o4, .ref mk, o5, o6, o7, o8])), (pt, .inr (0, [.ref w, .int mny, .int al2])), (w, .inl (aC 1, 7, .inl f))]) (va_A [(h0, .inr (11, [.ref pt, .ref fa, .int fc, .ref pa, o1, .ref md, o2, o3, .ref rg, o4, .ref mk, o5, o6, o7, o8])), (pt, .inr (0, [.ref w, .int mny, .int al])), (w, .inl (aC 1, 7, .inl f))] sz)) 0 0 (va_A [(h0, .inr (11, [.ref pt, .ref fa, .int fc, .ref pa, o1, .ref md, o2, o3, .ref rg, o4, .ref mk, o5, o6, o7, o8])), (pt, .inr (0, [.ref w, .int mny, .int al])), (w, .inl (aC 1, 7, .inl f))] sz) := by
  refine Met.ofW (cc := cX11_die) (maxL := 3) (ret := (some .int)) (by decide) rfl ?_
  intro p e s m args below meth c s₁ B hml hv
  obtain ⟨rfl, hsz, hP, hKN, hD0⟩ := hv
  obtain ⟨hK, hN⟩ := hKN
  have hx := B.exec
  have hb := B.bytes
  have hr := B.returns
  have hts := atoms_spec (ws := wsX11_die) B.pre
  have hown : s.vm.findClass RX11 = some m.cls := findClass_of_methodNamed B.named
  have hlocks := B.notSynchronized
  subst hsz
  have hD := hD0.self (sz := s.heap.size)
  generalize hAe : va_A [(h0, .inr (11, [.ref pt, .ref fa, .int fc, .ref pa, o1, .ref md, o2, o3, .ref rg, o4, .ref mk, o5, o6, o7, o8])), (pt, .inr (0, [.ref w, .int mny, .int al])), (w, .inl (aC 1, 7, .inl f))] s.heap.size = A at hD ⊢
  have hA : ∀ q : Nat, s.heap.size ≤ q → A q := fun q h => by rw [← hAe]; exact Or.inr h
  have hS : va_S A s.heap s.heap [] := va_S.rf
  have hP : va_P (dC, dI) rfCl [(h0, .inr (11, [.ref pt, .ref fa, .int fc, .ref pa, o1, .ref md, o2, o3, .ref rg, o4, .ref mk, o5, o6, o7, o8])), (pt, .inr (0, [.ref w, .int mny, .int al])), (w, .inl (aC 1, 7, .inl f))] s.heap := hP
  have hl := lv_entry ([.ref h0, .int p0, .int 1]) (n := 3) (Nat.le_of_ble_eq_true rfl)
  rw [lg_entry_eq]
  generalize (lg_sl ([.ref h0, .int p0, .int 1]) ++ List.replicate (3 - (lg_sl ([.ref h0, .int p0, .int 1])).length) Slot.unset).toArray = ls at hl ⊢
  have hl : lv_has ls 3 [(0, .ref h0), (1, .int p0), (2, .int 1)] := hl
  refine lv_aload_n hx hb dX11_die_0 rfl (lv_at hl 0 rfl) ?_
  refine lv_iload_n hx hb dX11_die_1 rfl (lv_at hl 1 rfl) ?_
  have hPc := hP.sub (ws' := [(h0, .inr (11, [.ref pt, .ref fa, .int fc, .ref pa, o1, .ref md, o2, o3, .ref rg, o4, .ref mk, o5, o6, o7, o8])), (pt, .inr (0, [.ref w, .int mny, .int al])), (w, .inl (aC 1, 7, .inl f))]) [0, 1, 2] rfl
  have hDc := hD.sub (ws' := [(h0, .inr (11, [.ref pt, .ref fa, .int fc, .ref pa, o1, .ref md, o2, o3, .ref rg, o4, .ref mk, o5, o6, o7, o8])), (pt, .inr (0, [.ref w, .int mny, .int al])), (w, .inl (aC 1, 7, .inl f))]) [0, 1, 2] (by decide) rfl
  refine va_csv (W.runV (As := [.int p0]) (rest := []) ⟨hx, hb, hml, hown, hts⟩ (c_X11_checkPoint l dC dI aC s.heap.size h0 pt fa pa md rg mk o1 o2 o3 o4 o5 o6 o7 o8 fc w f mny al p0 h1 h2 h3) (cwV 1 hts gX11_die_X11_checkPoint rfl rfl rfl (by decide +kernel) ⟨Nat.le_of_ble_eq_true rfl, Nat.le_of_ble_eq_true rfl⟩) (rf_pv hK hN hPc hDc (va_recv hK hP (ci := 11) (q0 := 0) rfl rfl)) rfl rfl hl.1 rfl (lv_room (Nat.le_of_ble_eq_true rfl)) dX11_die_2 ⟨Nat.le_of_ble_eq_true rfl, Nat.le_of_ble_eq_true rfl⟩) (fun _ => ?_)
  refine lv_aload_n hx hb dX11_die_5 rfl (lv_at hl 0 rfl) ?_
  refine va_get (D := (dC, dI)) (ci := 11) (v := .ref pt) (C := RX11) (T := TX11) (N := 15) hx hb hts (by decide +kernel) hown hK hP 0 rfl rfl 0 (by decide) (hts (.fieldLink RX11 12 "Transversary" "points" "LTransversary$Points;") (by decide +kernel)) (fun _ h9 => h9) rfl dX11_die_6 ?_
  refine lv_iload_n hx hb dX11_die_9 rfl (lv_at hl 1 rfl) ?_
  refine lv_iload_n hx hb dX11_die_10 rfl (lv_at hl 2 rfl) ?_
  have hPc := hP.sub (ws' := [(pt, .inr (0, [.ref w, .int mny, .int al])), (w, .inl (aC 1, 7, .inl f))]) [1, 2] rfl
  have hDc := hD.sub (ws' := [(pt, .inr (0, [.ref w, .int mny, .int al])), (w, .inl (aC 1, 7, .inl f))]) [1, 2] (by decide) rfl
  have hFc := va_free (wc := [(pt, .inr (0, [.ref w, .int mny, .int al])), (w, .inl (aC 1, 7, .inl f))]) hD hS hA [1, 2] rfl
  refine va_callv (va_runV (As := [.int p0, .int 1]) (rest := []) ⟨hx, hb, hml, hown, hts⟩ (c_X3_tellDeath l dC dI aC s.heap.size pt w f mny al p0 al2 h1 h2 h3 h4) (cwV 2 hts gX11_die_X3_tellDeath rfl rfl rfl (by decide +kernel) ⟨Nat.le_of_ble_eq_true rfl, Nat.le_of_ble_eq_true rfl⟩) (rf_pv hK hN hPc hDc (va_recv hK hP (ci := 0) (q0 := 1) rfl rfl)) rfl rfl hl.1 rfl (lv_room (Nat.le_of_ble_eq_true rfl)) dX11_die_11 ⟨Nat.le_of_ble_eq_true rfl, Nat.le_of_ble_eq_true rfl⟩) hS (fun q _ h => hFc q h) hFc (fun u1 t H1 locs ht hvm hwu1 hB hz1 hk1 hS => ?_)
  obtain ⟨hP1, hD1⟩ := hB
  rw [ht] at hP1
  try dsimp only at hwu1 hP1 hD1
  obtain ⟨hP, hD⟩ := va_join (wr := [(h0, .inr (11, [.ref pt, .ref fa, .int fc, .ref pa, o1, .ref md, o2, o3, .ref rg, o4, .ref mk, o5, o6, o7, o8]))]) (w1 := [(pt, .inr (0, [.ref w, .int mny, .int al2])), (w, .inl (aC 1, 7, .inl f))]) hP hD [1, 2] [0] rfl rfl (by decide) (by decide) hk1 hFc hP1 hD1
  clear hP1 hD1 hPc hDc hFc
  generalize H1 = H at hP hS ⊢
  have hP : va_P (dC, dI) rfCl [(h0, .inr (11, [.ref pt, .ref fa, .int fc, .ref pa, o1, .ref md, o2, o3, .ref rg, o4, .ref mk, o5, o6, o7, o8])), (pt, .inr (0, [.ref w, .int mny, .int al2])), (w, .inl (aC 1, 7, .inl f))] H := hP
  have hD : va_D A [(h0, .inr (11, [.ref pt, .ref fa, .int fc, .ref pa, o1, .ref md, o2, o3, .ref rg, o4, .ref mk, o5, o6, o7, o8])), (pt, .inr (0, [.ref w, .int mny, .int al2])), (w, .inl (aC 1, 7, .inl f))] := hD
  refine W.widen (k := 0) (n := 0) (Nat.le_of_ble_eq_true rfl) (Nat.le_of_ble_eq_true rfl) ?_
  refine lv_aload_n hx hb dX11_die_14 rfl (lv_at hl 0 rfl) ?_
  refine va_get (D := (dC, dI)) (ci := 11) (v := .ref pt) (C := RX11) (T := TX11) (N := 15) hx hb hts (by decide +kernel) hown hK hP 0 rfl rfl 0 (by decide) (hts (.fieldLink RX11 12 "Transversary" "points" "LTransversary$Points;") (by decide +kernel)) (fun _ h9 => h9) rfl dX11_die_15 ?_
  have hPc := hP.sub (ws' := [(pt, .inr (0, [.ref w, .int mny, .int al2]))]) [1] rfl
  have hDc := hD.sub (ws' := [(pt, .inr (0, [.ref w, .int mny, .int al2]))]) [1] (by decide) rfl
  refine W.callA (W.runV (As := []) (rest := []) ⟨hx, hb, hml, hown, hts⟩ (c_X3_howManyAlive l dC dI aC H.size pt (.ref w) mny al2) (cwV 0 hts gX11_die_X3_howManyAlive rfl rfl rfl (by decide +kernel) ⟨Nat.le_of_ble_eq_true rfl, Nat.le_of_ble_eq_true rfl⟩) (rf_pv hK hN hPc hDc (va_recv hK hP (ci := 0) (q0 := 1) rfl rfl)) rfl rfl hl.1 rfl (lv_room (Nat.le_of_ble_eq_true rfl)) dX11_die_18 ⟨Nat.le_of_ble_eq_true rfl, Nat.le_of_ble_eq_true rfl⟩) (fun t3 => ?_)
  refine W.eq (g2 := F0 m 21 ls [.int t3]) rfl ?_
  have hP9 := hP.sub (ws' := [(h0, .inr (11, [.ref pt, .ref fa, .int fc, .ref pa, o1, .ref md, o2, o3, .ref rg, o4, .ref mk, o5, o6, o7, o8])), (pt, .inr (0, [.ref w, .int mny, .int al2])), (w, .inl (aC 1, 7, .inl f))]) [0, 1, 2] rfl
  have hD9 := hD.sub (ws' := [(h0, .inr (11, [.ref pt, .ref fa, .int fc, .ref pa, o1, .ref md, o2, o3, .ref rg, o4, .ref mk, o5, o6, o7, o8])), (pt, .inr (0, [.ref w, .int mny, .int al2])), (w, .inl (aC 1, 7, .inl f))]) [0, 1, 2] (by decide) rfl
  refine W.widen (k := 0) (n := 0) (Nat.le_of_ble_eq_true rfl) (Nat.le_of_ble_eq_true rfl) ?_
  exact W.iret (v := t3) hx hb hr (fun t ht hW => ⟨⟨t3, (), rfl, trivial, by rw [ht]; exact hP9, hD9⟩, hS.F ht⟩) hS.2.2 dX11_die_21

set_option maxHeartbeats 4000000 in
set_option maxRecDepth 100000 in
theorem c_X7_copy (l : Launch) (dC : Nat → ClassId) (dI : Nat → Nat → Nat) (aC : Nat → ClassId) (sz : Nat) (h0 b : Nat) (r : Value) (f : Nat → Int32) (mny : Int32) (h1 : Nat) (b1 r1 : Value)  : Met l yX7_copy wsX7_copy ({ frames := 2, cells := 0, slots := 0, locals := 40 } : Room) (rf_Pc (dC, dI) aC [.ref h0, .ref h1] [(h0, .inr (1, [.ref b, r, .int mny])), (b, .inl (aC 0, 128, .inl f)), (h1, .inr (1, [b1, r1, .int 0]))] sz) (va_Qv (fun (u : Nat → Int32) => True) (fun (u : Nat → Int32) t => va_P (dC, dI) rfCl [(h0, .inr (1, [.ref b, r, .int 0])), (b, .inl (aC 0, 128, .inl u)), (h1, .inr (1, [b1, r1, .int 0]))] t.heap ∧ va_D (va_A [(h0, .inr (1, [.ref b, r, .int mny])), (b, .inl (aC 0, 128, .inl f)), (h1, .inr (1, [b1, r1, .int 0]))] sz) [(h0, .inr (1, [.ref b, r, .int 0])), (b, .inl (aC 0, 128, .inl u)), (h1, .inr (1, [b1, r1, .int 0]))]) (va_A [(h0, .inr (1, [.ref b, r, .int mny])), (b, .inl (aC 0, 128, .inl f)), (h1, .inr (1, [b1, r1, .int 0]))] sz)) 0 0 (va_A [(h0, .inr (1, [.ref b, r, .int mny])), (b, .inl (aC 0, 128, .inl f)), (h1, .inr (1, [b1, r1, .int 0]))] sz) := by
  refine Met.ofW (cc := cX7_copy) (maxL := 3) (ret := none) (by decide) rfl ?_
  intro p e s m args below meth c s₁ B hml hv
  obtain ⟨rfl, hsz, hP, hKN, hD0⟩ := hv
  obtain ⟨hK, hN⟩ := hKN
  have hx := B.exec
  have hb := B.bytes
  have hr := B.returns
  have hts := atoms_spec (ws := wsX7_copy) B.pre
  have hown : s.vm.findClass RX7 = some m.cls := findClass_of_methodNamed B.named
  have hlocks := B.notSynchronized
  subst hsz
  have hD := hD0.self (sz := s.heap.size)
  generalize hAe : va_A [(h0, .inr (1, [.ref b, r, .int mny])), (b, .inl (aC 0, 128, .inl f)), (h1, .inr (1, [b1, r1, .int 0]))] s.heap.size = A at hD ⊢
  have hA : ∀ q : Nat, s.heap.size ≤ q → A q := fun q h => by rw [← hAe]; exact Or.inr h
  have hS : va_S A s.heap s.heap [] := va_S.rf
  have hP : va_P (dC, dI) rfCl [(h0, .inr (1, [.ref b, r, .int mny])), (b, .inl (aC 0, 128, .inl f)), (h1, .inr (1, [b1, r1, .int 0]))] s.heap := hP
  have hl := lv_entry ([.ref h0, .ref h1]) (n := 3) (Nat.le_of_ble_eq_true rfl)
  rw [lg_entry_eq]
  generalize (lg_sl ([.ref h0, .ref h1]) ++ List.replicate (3 - (lg_sl ([.ref h0, .ref h1])).length) Slot.unset).toArray = ls at hl ⊢
  have hl : lv_has ls 3 [(0, .ref h0), (1, .ref h1)] := hl
  refine lv_aload_n hx hb dX7_copy_0 rfl (lv_at hl 0 rfl) ?_
  have hPc := hP.sub (ws' := [(h0, .inr (1, [.ref b, r, .int mny])), (b, .inl (aC 0, 128, .inl f))]) [0, 1] rfl
  have hDc := hD.sub (ws' := [(h0, .inr (1, [.ref b, r, .int mny])), (b, .inl (aC 0, 128, .inl f))]) [0, 1] (by decide) rfl
  have hFc := va_free (wc := [(h0, .inr (1, [.ref b, r, .int mny])), (b, .inl (aC 0, 128, .inl f))]) hD hS hA [0, 1] rfl
  refine va_callv (va_runV (As := []) (rest := []) ⟨hx, hb, hml, hown, hts⟩ (c_X7_clear l dC dI aC s.heap.size h0 b r f mny) (cwV 0 hts gX7_copy_X7_clear rfl rfl rfl (by decide +kernel) ⟨Nat.le_of_ble_eq_true rfl, Nat.le_of_ble_eq_true rfl⟩) (rf_pv hK hN hPc hDc (va_recv hK hP (ci := 1) (q0 := 0) rfl rfl)) rfl rfl hl.1 rfl (lv_room (Nat.le_of_ble_eq_true rfl)) dX7_copy_1 ⟨Nat.le_of_ble_eq_true rfl, Nat.le_of_ble_eq_true rfl⟩) hS (fun q _ h => hFc q h) hFc (fun u1 t H1 locs ht hvm hwu1 hB hz1 hk1 hS => ?_)
  obtain ⟨hP1, hD1⟩ := hB
  rw [ht] at hP1
  try dsimp only at hwu1 hP1 hD1
  obtain ⟨hP, hD⟩ := va_join (wr := [(h1, .inr (1, [b1, r1, .int 0]))]) (w1 := [(h0, .inr (1, [.ref b, r, .int 0])), (b, .inl (aC 0, 128, .inl u1))]) hP hD [0, 1] [2] rfl rfl (by decide) (by decide) hk1 hFc hP1 hD1
  clear hP1 hD1 hPc hDc hFc
  generalize H1 = H at hP hS ⊢
  have hP : va_P (dC, dI) rfCl [(h1, .inr (1, [b1, r1, .int 0])), (h0, .inr (1, [.ref b, r, .int 0])), (b, .inl (aC 0, 128, .inl u1))] H := hP
  have hD : va_D A [(h1, .inr (1, [b1, r1, .int 0])), (h0, .inr (1, [.ref b, r, .int 0])), (b, .inl (aC 0, 128, .inl u1))] := hD
  refine W.widen (k := 0) (n := 0) (Nat.le_of_ble_eq_true rfl) (Nat.le_of_ble_eq_true rfl) ?_
  refine lv_iconst (v := 0) hx hb dX7_copy_4 (by decide) ?_
  refine lv_istore_n (lv' := [(2, .int 0), (0, .ref h0), (1, .ref h1)]) hx hb dX7_copy_5 rfl hl (by decide) rfl (fun ls hl => ?_)
  refine lv_iload_n hx hb dX7_copy_6 rfl (lv_at hl 0 rfl) ?_
  refine lv_aload_n hx hb dX7_copy_7 rfl (lv_at hl 2 rfl) ?_
  have hPc := hP.sub (ws' := [(h1, .inr (1, [b1, r1, .int 0]))]) [0] rfl
  have hDc := hD.sub (ws' := [(h1, .inr (1, [b1, r1, .int 0]))]) [0] (by decide) rfl
  refine W.callR (W.runV (As := []) (rest := [.int 0]) ⟨hx, hb, hml, hown, hts⟩ (c_X7_many l dC dI aC H.size h1 b1 r1 0) (cwV 0 hts gX7_copy_X7_many rfl rfl rfl (by decide +kernel) ⟨Nat.le_of_ble_eq_true rfl, Nat.le_of_ble_eq_true rfl⟩) (rf_pv hK hN hPc hDc (va_recv hK hP (ci := 1) (q0 := 0) rfl rfl)) rfl rfl hl.1 rfl (lv_room (Nat.le_of_ble_eq_true rfl)) dX7_copy_8 ⟨Nat.le_of_ble_eq_true rfl, Nat.le_of_ble_eq_true rfl⟩) ?_
  refine W.eq (g2 := F0 m 11 ls [.int 0, .int 0]) rfl ?_
  refine lv_icmp_ge (tgt := 29) hx hb dX7_copy_11 (by decide) (fun _ => ?_) (fun c9 => absurd (by decide) c9)
  have hP9 := hP.sub (ws' := [(h0, .inr (1, [.ref b, r, .int 0])), (b, .inl (aC 0, 128, .inl u1)), (h1, .inr (1, [b1, r1, .int 0]))]) [1, 2, 0] rfl
  have hD9 := hD.sub (ws' := [(h0, .inr (1, [.ref b, r, .int 0])), (b, .inl (aC 0, 128, .inl u1)), (h1, .inr (1, [b1, r1, .int 0]))]) [1, 2, 0] (by decide) rfl
  refine W.widen (k := 0) (n := 0) (Nat.le_of_ble_eq_true rfl) (Nat.le_of_ble_eq_true rfl) ?_
  exact W.vret hx hb hr (fun t ht hW => ⟨⟨u1, rfl, trivial, by rw [ht]; exact hP9, hD9⟩, hS.F ht⟩) hS.2.2 dX7_copy_29

set_option maxHeartbeats 4000000 in
set_option maxRecDepth 100000 in
theorem c_X11_keep (l : Launch) (dC : Nat → ClassId) (dI : Nat → Nat → Nat) (aC : Nat → ClassId) (sz : Nat) (h0 pt fa pa md rg mk : Nat) (o1 o2 o3 o4 o5 o6 o7 o8 : Value) (ff : Nat → Option Nat) (s0 b0 : Nat) (r0 : Value) (f0 : Nat → Int32) (m0 : Int32) (b1 r1 : Value) (hf : ff 0 = some s0) : Met l yX11_keep wsX11_keep ({ frames := 3, cells := 0, slots := 0, locals := 80 } : Room) (rf_Pc (dC, dI) aC [.ref h0, .ref md] [(h0, .inr (11, [.ref pt, .ref fa, .int 0, .ref pa, o1, .ref md, o2, o3, .ref rg, o4, .ref mk, o5, o6, o7, o8])), (fa, .inl (aC 4, 5, .inr (.inr (.inr (.inr ff))))), (s0, .inr (1, [.ref b0, r0, .int m0])), (b0, .inl (aC 0, 128, .inl f0)), (md, .inr (1, [b1, r1, .int 0]))] sz) (va_Qi (fun (r : Int32) (u : Nat → Int32) => r = 0) (fun (u : Nat → Int32) t => va_P (dC, dI) rfCl [(h0, .inr (11, [.ref pt, .ref fa, .int 1, .ref pa, o1, .ref md, o2, o3, .ref rg, o4, .ref mk, o5, o6, o7, o8])), (fa, .inl (aC 4, 5, .inr (.inr (.inr (.inr ff))))), (s0, .inr (1, [.ref b0, r0, .int 0])), (b0, .inl (aC 0, 128, .inl u)), (md, .inr (1, [b1, r1, .int 0]))] t.heap ∧ va_D (va_A [(h0, .inr (11, [.ref pt, .ref fa, .int 0, .ref pa, o1, .ref md, o2, o3, .ref rg, o4, .ref mk, o5, o6, o7, o8])), (fa, .inl (aC 4, 5, .inr (.inr (.inr (.inr ff))))), (s0, .inr (1, [.ref b0, r0, .int m0])), (b0, .inl (aC 0, 128, .inl f0)), (md, .inr (1, [b1, r1, .int 0]))] sz) [(h0, .inr (11, [.ref pt, .ref fa, .int 1, .ref pa, o1, .ref md, o2, o3, .ref rg, o4, .ref mk, o5, o6, o7, o8])), (fa, .inl (aC 4, 5, .inr (.inr (.inr (.inr ff))))), (s0, .inr (1, [.ref b0, r0, .int 0])), (b0, .inl (aC 0, 128, .inl u)), (md, .inr (1, [b1, r1, .int 0]))]) (va_A [(h0, .inr (11, [.ref pt, .ref fa, .int 0, .ref pa, o1, .ref md, o2, o3, .ref rg, o4, .ref mk, o5, o6, o7, o8])), (fa, .inl (aC 4, 5, .inr (.inr (.inr (.inr ff))))), (s0, .inr (1, [.ref b0, r0, .int m0])), (b0, .inl (aC 0, 128, .inl f0)), (md, .inr (1, [b1, r1, .int 0]))] sz)) 0 0 (va_A [(h0, .inr (11, [.ref pt, .ref fa, .int 0, .ref pa, o1, .ref md, o2, o3, .ref rg, o4, .ref mk, o5, o6, o7, o8])), (fa, .inl (aC 4, 5, .inr (.inr (.inr (.inr ff))))), (s0, .inr (1, [.ref b0, r0, .int m0])), (b0, .inl (aC 0, 128, .inl f0)), (md, .inr (1, [b1, r1, .int 0]))] sz) := by
  refine Met.ofW (cc := cX11_keep) (maxL := 2) (ret := (some .int)) (by decide) rfl ?_
  intro p e s m args below meth c s₁ B hml hv
  obtain ⟨rfl, hsz, hP, hKN, hD0⟩ := hv
  obtain ⟨hK, hN⟩ := hKN
  have hx := B.exec
  have hb := B.bytes
  have hr := B.returns
  have hts := atoms_spec (ws := wsX11_keep) B.pre
  have hown : s.vm.findClass RX11 = some m.cls := findClass_of_methodNamed B.named
  have hlocks := B.notSynchronized
  subst hsz
  have hD := hD0.self (sz := s.heap.size)
  generalize hAe : va_A [(h0, .inr (11, [.ref pt, .ref fa, .int 0, .ref pa, o1, .ref md, o2, o3, .ref rg, o4, .ref mk, o5, o6, o7, o8])), (fa, .inl (aC 4, 5, .inr (.inr (.inr (.inr ff))))), (s0, .inr (1, [.ref b0, r0, .int m0])), (b0, .inl (aC 0, 128, .inl f0)), (md, .inr (1, [b1, r1, .int 0]))] s.heap.size = A at hD ⊢
  have hA : ∀ q : Nat, s.heap.size ≤ q → A q := fun q h => by rw [← hAe]; exact Or.inr h
  have hS : va_S A s.heap s.heap [] := va_S.rf
  have hP : va_P (dC, dI) rfCl [(h0, .inr (11, [.ref pt, .ref fa, .int 0, .ref pa, o1, .ref md, o2, o3, .ref rg, o4, .ref mk, o5, o6, o7, o8])), (fa, .inl (aC 4, 5, .inr (.inr (.inr (.inr ff))))), (s0, .inr (1, [.ref b0, r0, .int m0])), (b0, .inl (aC 0, 128, .inl f0)), (md, .inr (1, [b1, r1, .int 0]))] s.heap := hP
  have hl := lv_entry ([.ref h0, .ref md]) (n := 2) (Nat.le_of_ble_eq_true rfl)
  rw [lg_entry_eq]
  generalize (lg_sl ([.ref h0, .ref md]) ++ List.replicate (2 - (lg_sl ([.ref h0, .ref md])).length) Slot.unset).toArray = ls at hl ⊢
  have hl : lv_has ls 2 [(0, .ref h0), (1, .ref md)] := hl
  refine lv_aload_n hx hb dX11_keep_0 rfl (lv_at hl 0 rfl) ?_
  refine va_get (D := (dC, dI)) (ci := 11) (v := .int 0) (C := RX11) (T := TX11) (N := 15) hx hb hts (by decide +kernel) hown hK hP 0 rfl rfl 2 (by decide) (hts (.fieldLink RX11 108 "Transversary" "familyCount" "I") (by decide +kernel)) (fun _ h9 => h9) rfl dX11_keep_1 ?_
  refine lv_if_lt (tgt := 28) hx hb dX11_keep_4 (by decide) (fun c9 => absurd c9 (by decide)) (fun _ => ?_)
  refine lv_aload_n hx hb dX11_keep_7 rfl (lv_at hl 0 rfl) ?_
  refine va_get (D := (dC, dI)) (ci := 11) (v := .int 0) (C := RX11) (T := TX11) (N := 15) hx hb hts (by decide +kernel) hown hK hP 0 rfl rfl 2 (by decide) (hts (.fieldLink RX11 108 "Transversary" "familyCount" "I") (by decide +kernel)) (fun _ h9 => h9) rfl dX11_keep_8 ?_
  refine lv_aload_n hx hb dX11_keep_11 rfl (lv_at hl 0 rfl) ?_
  refine va_get (D := (dC, dI)) (ci := 11) (v := .ref fa) (C := RX11) (T := TX11) (N := 15) hx hb hts (by decide +kernel) hown hK hP 0 rfl rfl 1 (by decide) (hts (.fieldLink RX11 18 "Transversary" "families" "[LTransversary$Sets;") (by decide +kernel)) (fun _ h9 => h9) rfl dX11_keep_12 ?_
  refine va_alen (v := 5) hx hb hK hP 1 4 rfl rfl rfl dX11_keep_15 ?_
  refine lv_icmp_ge (tgt := 28) hx hb dX11_keep_16 (by decide) (fun c9 => absurd c9 (by decide)) (fun _ => ?_)
  refine lv_aload_n hx hb dX11_keep_19 rfl (lv_at hl 1 rfl) ?_
  have hPc := hP.sub (ws' := [(md, .inr (1, [b1, r1, .int 0]))]) [4] rfl
  have hDc := hD.sub (ws' := [(md, .inr (1, [b1, r1, .int 0]))]) [4] (by decide) rfl
  refine W.callR (W.runV (As := []) (rest := []) ⟨hx, hb, hml, hown, hts⟩ (c_X7_many l dC dI aC s.heap.size md b1 r1 0) (cwV 0 hts gX11_keep_X7_many rfl rfl rfl (by decide +kernel) ⟨Nat.le_of_ble_eq_true rfl, Nat.le_of_ble_eq_true rfl⟩) (rf_pv hK hN hPc hDc (va_recv hK hP (ci := 1) (q0 := 4) rfl rfl)) rfl rfl hl.1 rfl (lv_room (Nat.le_of_ble_eq_true rfl)) dX11_keep_20 ⟨Nat.le_of_ble_eq_true rfl, Nat.le_of_ble_eq_true rfl⟩) ?_
  refine W.eq (g2 := F0 m 23 ls [.int 0]) rfl ?_
  refine lv_bipush (v := 40) hx hb dX11_keep_23 (by decide) ?_
  refine lv_icmp_le (tgt := 31) hx hb dX11_keep_25 (by decide) (fun _ => ?_) (fun c9 => absurd (by decide) c9)
  refine lv_aload_n hx hb dX11_keep_31 rfl (lv_at hl 0 rfl) ?_
  refine va_get (D := (dC, dI)) (ci := 11) (v := .ref fa) (C := RX11) (T := TX11) (N := 15) hx hb hts (by decide +kernel) hown hK hP 0 rfl rfl 1 (by decide) (hts (.fieldLink RX11 18 "Transversary" "families" "[LTransversary$Sets;") (by decide +kernel)) (fun _ h9 => h9) rfl dX11_keep_32 ?_
  refine lv_aload_n hx hb dX11_keep_35 rfl (lv_at hl 0 rfl) ?_
  refine va_get (D := (dC, dI)) (ci := 11) (v := .int 0) (C := RX11) (T := TX11) (N := 15) hx hb hts (by decide +kernel) hown hK hP 0 rfl rfl 2 (by decide) (hts (.fieldLink RX11 108 "Transversary" "familyCount" "I") (by decide +kernel)) (fun _ h9 => h9) rfl dX11_keep_36 ?_
  refine va_aldq (C := "Transversary$Sets") hx hb hK hP 1 4 rfl rfl (vp_in_nI (n := 0) (N := 5) (by decide) (by decide)) dX11_keep_39 ?_
  refine W.eq (g2 := F0 m 40 ls [.ref s0]) (by rw [show ((0 : Int32)).toNatClampNeg = 0 from rfl, hf]; rfl) ?_
  refine lv_aload_n hx hb dX11_keep_40 rfl (lv_at hl 1 rfl) ?_
  have hPc := hP.sub (ws' := [(s0, .inr (1, [.ref b0, r0, .int m0])), (b0, .inl (aC 0, 128, .inl f0)), (md, .inr (1, [b1, r1, .int 0]))]) [2, 3, 4] rfl
  have hDc := hD.sub (ws' := [(s0, .inr (1, [.ref b0, r0, .int m0])), (b0, .inl (aC 0, 128, .inl f0)), (md, .inr (1, [b1, r1, .int 0]))]) [2, 3, 4] (by decide) rfl
  have hFc := va_free (wc := [(s0, .inr (1, [.ref b0, r0, .int m0])), (b0, .inl (aC 0, 128, .inl f0)), (md, .inr (1, [b1, r1, .int 0]))]) hD hS hA [2, 3, 4] rfl
  refine va_callv (va_runV (As := [.ref md]) (rest := []) ⟨hx, hb, hml, hown, hts⟩ (c_X7_copy l dC dI aC s.heap.size s0 b0 r0 f0 m0 md b1 r1) (cwV 1 hts gX11_keep_X7_copy rfl rfl rfl (by decide +kernel) ⟨Nat.le_of_ble_eq_true rfl, Nat.le_of_ble_eq_true rfl⟩) (rf_pv hK hN hPc hDc (va_recv hK hP (ci := 1) (q0 := 2) rfl rfl)) rfl rfl hl.1 rfl (lv_room (Nat.le_of_ble_eq_true rfl)) dX11_keep_41 ⟨Nat.le_of_ble_eq_true rfl, Nat.le_of_ble_eq_true rfl⟩) hS (fun q _ h => hFc q h) hFc (fun u1 t H1 locs ht hvm hwu1 hB hz1 hk1 hS => ?_)
  obtain ⟨hP1, hD1⟩ := hB
  rw [ht] at hP1
  try dsimp only at hwu1 hP1 hD1
  obtain ⟨hP, hD⟩ := va_join (wr := [(h0, .inr (11, [.ref pt, .ref fa, .int 0, .ref pa, o1, .ref md, o2, o3, .ref rg, o4, .ref mk, o5, o6, o7, o8])), (fa, .inl (aC 4, 5, .inr (.inr (.inr (.inr ff)))))]) (w1 := [(s0, .inr (1, [.ref b0, r0, .int 0])), (b0, .inl (aC 0, 128, .inl u1)), (md, .inr (1, [b1, r1, .int 0]))]) hP hD [2, 3, 4] [0, 1] rfl rfl (by decide) (by decide) hk1 hFc hP1 hD1
  clear hP1 hD1 hPc hDc hFc
  generalize H1 = H at hP hS ⊢
  have hP : va_P (dC, dI) rfCl [(h0, .inr (11, [.ref pt, .ref fa, .int 0, .ref pa, o1, .ref md, o2, o3, .ref rg, o4, .ref mk, o5, o6, o7, o8])), (fa, .inl (aC 4, 5, .inr (.inr (.inr (.inr ff))))), (s0, .inr (1, [.ref b0, r0, .int 0])), (b0, .inl (aC 0, 128, .inl u1)), (md, .inr (1, [b1, r1, .int 0]))] H := hP
  have hD : va_D A [(h0, .inr (11, [.ref pt, .ref fa, .int 0, .ref pa, o1, .ref md, o2, o3, .ref rg, o4, .ref mk, o5, o6, o7, o8])), (fa, .inl (aC 4, 5, .inr (.inr (.inr (.inr ff))))), (s0, .inr (1, [.ref b0, r0, .int 0])), (b0, .inl (aC 0, 128, .inl u1)), (md, .inr (1, [b1, r1, .int 0]))] := hD
  refine W.widen (k := 0) (n := 0) (Nat.le_of_ble_eq_true rfl) (Nat.le_of_ble_eq_true rfl) ?_
  refine lv_aload_n hx hb dX11_keep_44 rfl (lv_at hl 0 rfl) ?_
  refine lv_dup hx hb dX11_keep_45 rfl ?_
  refine va_get (D := (dC, dI)) (ci := 11) (v := .int 0) (C := RX11) (T := TX11) (N := 15) hx hb hts (by decide +kernel) hown hK hP 0 rfl rfl 2 (by decide) (hts (.fieldLink RX11 108 "Transversary" "familyCount" "I") (by decide +kernel)) (fun _ h9 => h9) rfl dX11_keep_46 ?_
  refine lv_iconst (v := 1) hx hb dX11_keep_49 (by decide) ?_
  refine lv_iadd hx hb dX11_keep_50 ?_
  refine lv_topi (fun t3 et3 => ?_)
  have h51 : t3 = 1 := by rw [et3]; decide
  subst h51
  refine va_put (D := (dC, dI)) (ci := 11) (v := .int 1) (ty := .int) (C := RX11) (T := TX11) (N := 15) hx hb hts (by decide +kernel) tyX11 tyX11_ok nmX11 hown hK hP hD hS 0 rfl rfl 2 (by decide) (hts (.fieldLink RX11 108 "Transversary" "familyCount" "I") (by decide +kernel)) (fun _ h9 => h9) rfl (by decide +kernel) rfl rfl (Nat.le_of_ble_eq_true rfl) dX11_keep_51 (fun H locs hP hD hS => ?_)
  have hP : va_P (dC, dI) rfCl [(h0, .inr (11, [.ref pt, .ref fa, .int 1, .ref pa, o1, .ref md, o2, o3, .ref rg, o4, .ref mk, o5, o6, o7, o8])), (fa, .inl (aC 4, 5, .inr (.inr (.inr (.inr ff))))), (s0, .inr (1, [.ref b0, r0, .int 0])), (b0, .inl (aC 0, 128, .inl u1)), (md, .inr (1, [b1, r1, .int 0]))] H := hP
  have hD : va_D A [(h0, .inr (11, [.ref pt, .ref fa, .int 1, .ref pa, o1, .ref md, o2, o3, .ref rg, o4, .ref mk, o5, o6, o7, o8])), (fa, .inl (aC 4, 5, .inr (.inr (.inr (.inr ff))))), (s0, .inr (1, [.ref b0, r0, .int 0])), (b0, .inl (aC 0, 128, .inl u1)), (md, .inr (1, [b1, r1, .int 0]))] := hD
  refine lv_aload_n hx hb dX11_keep_54 rfl (lv_at hl 0 rfl) ?_
  refine va_get (D := (dC, dI)) (ci := 11) (v := .int 1) (C := RX11) (T := TX11) (N := 15) hx hb hts (by decide +kernel) hown hK hP 0 rfl rfl 2 (by decide) (hts (.fieldLink RX11 108 "Transversary" "familyCount" "I") (by decide +kernel)) (fun _ h9 => h9) rfl dX11_keep_55 ?_
  refine lv_iconst (v := 1) hx hb dX11_keep_58 (by decide) ?_
  refine lv_isub hx hb dX11_keep_59 ?_
  refine lv_topi (fun t4 et4 => ?_)
  have h60 : t4 = 0 := by rw [et4]; decide
  subst h60
  have hP9 := hP.sub (ws' := [(h0, .inr (11, [.ref pt, .ref fa, .int 1, .ref pa, o1, .ref md, o2, o3, .ref rg, o4, .ref mk, o5, o6, o7, o8])), (fa, .inl (aC 4, 5, .inr (.inr (.inr (.inr ff))))), (s0, .inr (1, [.ref b0, r0, .int 0])), (b0, .inl (aC 0, 128, .inl u1)), (md, .inr (1, [b1, r1, .int 0]))]) [0, 1, 2, 3, 4] rfl
  have hD9 := hD.sub (ws' := [(h0, .inr (11, [.ref pt, .ref fa, .int 1, .ref pa, o1, .ref md, o2, o3, .ref rg, o4, .ref mk, o5, o6, o7, o8])), (fa, .inl (aC 4, 5, .inr (.inr (.inr (.inr ff))))), (s0, .inr (1, [.ref b0, r0, .int 0])), (b0, .inl (aC 0, 128, .inl u1)), (md, .inr (1, [b1, r1, .int 0]))]) [0, 1, 2, 3, 4] (by decide) rfl
  refine W.widen (k := 0) (n := 0) (Nat.le_of_ble_eq_true rfl) (Nat.le_of_ble_eq_true rfl) ?_
  exact W.iret (v := 0) hx hb hr (fun t ht hW => ⟨⟨0, u1, rfl, rfl, by rw [ht]; exact hP9, hD9⟩, hS.F ht⟩) hS.2.2 dX11_keep_60

set_option maxHeartbeats 4000000 in
set_option maxRecDepth 100000 in
theorem c_X11_family (l : Launch) (dC : Nat → ClassId) (dI : Nat → Nat → Nat) (aC : Nat → ClassId) (sz : Nat) (h0 pt fa pa md rg mk : Nat) (o1 o2 o3 o4 o5 o6 o7 o8 : Value) (ff : Nat → Option Nat) (s0 b0 : Nat) (r0 : Value) (f0 : Nat → Int32) (m0 : Int32) (b1 : Nat) (r1 : Value) (f1 : Nat → Int32) (m1 : Int32) (hf : ff 0 = some s0) : Met l yX11_family wsX11_family ({ frames := 4, cells := 0, slots := 0, locals := 120 } : Room) (rf_Pc (dC, dI) aC [.ref h0] [(h0, .inr (11, [.ref pt, .ref fa, .int 0, .ref pa, o1, .ref md, o2, o3, .ref rg, o4, .ref mk, o5, o6, o7, o8])), (fa, .inl (aC 4, 5, .inr (.inr (.inr (.inr ff))))), (s0, .inr (1, [.ref b0, r0, .int m0])), (b0, .inl (aC 0, 128, .inl f0)), (md, .inr (1, [.ref b1, r1, .int m1])), (b1, .inl (aC 0, 128, .inl f1))] sz) (va_Qi (fun (r : Int32) (u : (Nat → Int32) × (Nat → Int32)) => r = 0) (fun (u : (Nat → Int32) × (Nat → Int32)) t => va_P (dC, dI) rfCl [(h0, .inr (11, [.ref pt, .ref fa, .int 1, .ref pa, o1, .ref md, o2, o3, .ref rg, o4, .ref mk, o5, o6, o7, o8])), (fa, .inl (aC 4, 5, .inr (.inr (.inr (.inr ff))))), (s0, .inr (1, [.ref b0, r0, .int 0])), (b0, .inl (aC 0, 128, .inl u.1)), (md, .inr (1, [.ref b1, r1, .int 0])), (b1, .inl (aC 0, 128, .inl u.2))] t.heap ∧ va_D (va_A [(h0, .inr (11, [.ref pt, .ref fa, .int 0, .ref pa, o1, .ref md, o2, o3, .ref rg, o4, .ref mk, o5, o6, o7, o8])), (fa, .inl (aC 4, 5, .inr (.inr (.inr (.inr ff))))), (s0, .inr (1, [.ref b0, r0, .int m0])), (b0, .inl (aC 0, 128, .inl f0)), (md, .inr (1, [.ref b1, r1, .int m1])), (b1, .inl (aC 0, 128, .inl f1))] sz) [(h0, .inr (11, [.ref pt, .ref fa, .int 1, .ref pa, o1, .ref md, o2, o3, .ref rg, o4, .ref mk, o5, o6, o7, o8])), (fa, .inl (aC 4, 5, .inr (.inr (.inr (.inr ff))))), (s0, .inr (1, [.ref b0, r0, .int 0])), (b0, .inl (aC 0, 128, .inl u.1)), (md, .inr (1, [.ref b1, r1, .int 0])), (b1, .inl (aC 0, 128, .inl u.2))]) (va_A [(h0, .inr (11, [.ref pt, .ref fa, .int 0, .ref pa, o1, .ref md, o2, o3, .ref rg, o4, .ref mk, o5, o6, o7, o8])), (fa, .inl (aC 4, 5, .inr (.inr (.inr (.inr ff))))), (s0, .inr (1, [.ref b0, r0, .int m0])), (b0, .inl (aC 0, 128, .inl f0)), (md, .inr (1, [.ref b1, r1, .int m1])), (b1, .inl (aC 0, 128, .inl f1))] sz)) 0 0 (va_A [(h0, .inr (11, [.ref pt, .ref fa, .int 0, .ref pa, o1, .ref md, o2, o3, .ref rg, o4, .ref mk, o5, o6, o7, o8])), (fa, .inl (aC 4, 5, .inr (.inr (.inr (.inr ff))))), (s0, .inr (1, [.ref b0, r0, .int m0])), (b0, .inl (aC 0, 128, .inl f0)), (md, .inr (1, [.ref b1, r1, .int m1])), (b1, .inl (aC 0, 128, .inl f1))] sz) := by
  refine Met.ofW (cc := cX11_family) (maxL := 1) (ret := (some .int)) (by decide) rfl ?_
  intro p e s m args below meth c s₁ B hml hv
  obtain ⟨rfl, hsz, hP, hKN, hD0⟩ := hv
  obtain ⟨hK, hN⟩ := hKN
  have hx := B.exec
  have hb := B.bytes
  have hr := B.returns
  have hts := atoms_spec (ws := wsX11_family) B.pre
  have hown : s.vm.findClass RX11 = some m.cls := findClass_of_methodNamed B.named
  have hlocks := B.notSynchronized
  subst hsz
  have hD := hD0.self (sz := s.heap.size)
  generalize hAe : va_A [(h0, .inr (11, [.ref pt, .ref fa, .int 0, .ref pa, o1, .ref md, o2, o3, .ref rg, o4, .ref mk, o5, o6, o7, o8])), (fa, .inl (aC 4, 5, .inr (.inr (.inr (.inr ff))))), (s0, .inr (1, [.ref b0, r0, .int m0])), (b0, .inl (aC 0, 128, .inl f0)), (md, .inr (1, [.ref b1, r1, .int m1])), (b1, .inl (aC 0, 128, .inl f1))] s.heap.size = A at hD ⊢
  have hA : ∀ q : Nat, s.heap.size ≤ q → A q := fun q h => by rw [← hAe]; exact Or.inr h
  have hS : va_S A s.heap s.heap [] := va_S.rf
  have hP : va_P (dC, dI) rfCl [(h0, .inr (11, [.ref pt, .ref fa, .int 0, .ref pa, o1, .ref md, o2, o3, .ref rg, o4, .ref mk, o5, o6, o7, o8])), (fa, .inl (aC 4, 5, .inr (.inr (.inr (.inr ff))))), (s0, .inr (1, [.ref b0, r0, .int m0])), (b0, .inl (aC 0, 128, .inl f0)), (md, .inr (1, [.ref b1, r1, .int m1])), (b1, .inl (aC 0, 128, .inl f1))] s.heap := hP
  have hl := lv_entry ([.ref h0]) (n := 1) (Nat.le_of_ble_eq_true rfl)
  rw [lg_entry_eq]
  generalize (lg_sl ([.ref h0]) ++ List.replicate (1 - (lg_sl ([.ref h0])).length) Slot.unset).toArray = ls at hl ⊢
  have hl : lv_has ls 1 [(0, .ref h0)] := hl
  refine lv_aload_n hx hb dX11_family_0 rfl (lv_at hl 0 rfl) ?_
  have hPc := hP.sub (ws' := [(h0, .inr (11, [.ref pt, .ref fa, .int 0, .ref pa, o1, .ref md, o2, o3, .ref rg, o4, .ref mk, o5, o6, o7, o8]))]) [0] rfl
  have hDc := hD.sub (ws' := [(h0, .inr (11, [.ref pt, .ref fa, .int 0, .ref pa, o1, .ref md, o2, o3, .ref rg, o4, .ref mk, o5, o6, o7, o8]))]) [0] (by decide) rfl
  refine va_csv (W.runV (As := []) (rest := []) ⟨hx, hb, hml, hown, hts⟩ (c_X11_checkRoom l dC dI aC s.heap.size h0 pt fa pa md rg mk o1 o2 o3 o4 o5 o6 o7 o8 0 (by decide)) (cwV 0 hts gX11_family_X11_checkRoom rfl rfl rfl (by decide +kernel) ⟨Nat.le_of_ble_eq_true rfl, Nat.le_of_ble_eq_true rfl⟩) (rf_pv hK hN hPc hDc (va_recv hK hP (ci := 11) (q0 := 0) rfl rfl)) rfl rfl hl.1 rfl (lv_room (Nat.le_of_ble_eq_true rfl)) dX11_family_1 ⟨Nat.le_of_ble_eq_true rfl, Nat.le_of_ble_eq_true rfl⟩) (fun _ => ?_)
  refine lv_aload_n hx hb dX11_family_4 rfl (lv_at hl 0 rfl) ?_
  refine va_get (D := (dC, dI)) (ci := 11) (v := .ref md) (C := RX11) (T := TX11) (N := 15) hx hb hts (by decide +kernel) hown hK hP 0 rfl rfl 5 (by decide) (hts (.fieldLink RX11 30 "Transversary" "made" "LTransversary$Sets;") (by decide +kernel)) (fun _ h9 => h9) rfl dX11_family_5 ?_
  have hPc := hP.sub (ws' := [(md, .inr (1, [.ref b1, r1, .int m1])), (b1, .inl (aC 0, 128, .inl f1))]) [4, 5] rfl
  have hDc := hD.sub (ws' := [(md, .inr (1, [.ref b1, r1, .int m1])), (b1, .inl (aC 0, 128, .inl f1))]) [4, 5] (by decide) rfl
  have hFc := va_free (wc := [(md, .inr (1, [.ref b1, r1, .int m1])), (b1, .inl (aC 0, 128, .inl f1))]) hD hS hA [4, 5] rfl
  refine va_callv (va_runV (As := []) (rest := []) ⟨hx, hb, hml, hown, hts⟩ (c_X7_clear l dC dI aC s.heap.size md b1 r1 f1 m1) (cwV 0 hts gX11_family_X7_clear rfl rfl rfl (by decide +kernel) ⟨Nat.le_of_ble_eq_true rfl, Nat.le_of_ble_eq_true rfl⟩) (rf_pv hK hN hPc hDc (va_recv hK hP (ci := 1) (q0 := 4) rfl rfl)) rfl rfl hl.1 rfl (lv_room (Nat.le_of_ble_eq_true rfl)) dX11_family_8 ⟨Nat.le_of_ble_eq_true rfl, Nat.le_of_ble_eq_true rfl⟩) hS (fun q _ h => hFc q h) hFc (fun u1 t H1 locs ht hvm hwu1 hB hz1 hk1 hS => ?_)
  obtain ⟨hP1, hD1⟩ := hB
  rw [ht] at hP1
  try dsimp only at hwu1 hP1 hD1
  obtain ⟨hP, hD⟩ := va_join (wr := [(h0, .inr (11, [.ref pt, .ref fa, .int 0, .ref pa, o1, .ref md, o2, o3, .ref rg, o4, .ref mk, o5, o6, o7, o8])), (fa, .inl (aC 4, 5, .inr (.inr (.inr (.inr ff))))), (s0, .inr (1, [.ref b0, r0, .int m0])), (b0, .inl (aC 0, 128, .inl f0))]) (w1 := [(md, .inr (1, [.ref b1, r1, .int 0])), (b1, .inl (aC 0, 128, .inl u1))]) hP hD [4, 5] [0, 1, 2, 3] rfl rfl (by decide) (by decide) hk1 hFc hP1 hD1
  clear hP1 hD1 hPc hDc hFc
  generalize H1 = H at hP hS ⊢
  have hP : va_P (dC, dI) rfCl [(h0, .inr (11, [.ref pt, .ref fa, .int 0, .ref pa, o1, .ref md, o2, o3, .ref rg, o4, .ref mk, o5, o6, o7, o8])), (fa, .inl (aC 4, 5, .inr (.inr (.inr (.inr ff))))), (s0, .inr (1, [.ref b0, r0, .int m0])), (b0, .inl (aC 0, 128, .inl f0)), (md, .inr (1, [.ref b1, r1, .int 0])), (b1, .inl (aC 0, 128, .inl u1))] H := hP
  have hD : va_D A [(h0, .inr (11, [.ref pt, .ref fa, .int 0, .ref pa, o1, .ref md, o2, o3, .ref rg, o4, .ref mk, o5, o6, o7, o8])), (fa, .inl (aC 4, 5, .inr (.inr (.inr (.inr ff))))), (s0, .inr (1, [.ref b0, r0, .int m0])), (b0, .inl (aC 0, 128, .inl f0)), (md, .inr (1, [.ref b1, r1, .int 0])), (b1, .inl (aC 0, 128, .inl u1))] := hD
  refine W.widen (k := 0) (n := 0) (Nat.le_of_ble_eq_true rfl) (Nat.le_of_ble_eq_true rfl) ?_
  refine lv_aload_n hx hb dX11_family_11 rfl (lv_at hl 0 rfl) ?_
  refine lv_aload_n hx hb dX11_family_12 rfl (lv_at hl 0 rfl) ?_
  refine va_get (D := (dC, dI)) (ci := 11) (v := .ref md) (C := RX11) (T := TX11) (N := 15) hx hb hts (by decide +kernel) hown hK hP 0 rfl rfl 5 (by decide) (hts (.fieldLink RX11 30 "Transversary" "made" "LTransversary$Sets;") (by decide +kernel)) (fun _ h9 => h9) rfl dX11_family_13 ?_
  have hPc := hP.sub (ws' := [(h0, .inr (11, [.ref pt, .ref fa, .int 0, .ref pa, o1, .ref md, o2, o3, .ref rg, o4, .ref mk, o5, o6, o7, o8])), (fa, .inl (aC 4, 5, .inr (.inr (.inr (.inr ff))))), (s0, .inr (1, [.ref b0, r0, .int m0])), (b0, .inl (aC 0, 128, .inl f0)), (md, .inr (1, [.ref b1, r1, .int 0]))]) [0, 1, 2, 3, 4] rfl
  have hDc := hD.sub (ws' := [(h0, .inr (11, [.ref pt, .ref fa, .int 0, .ref pa, o1, .ref md, o2, o3, .ref rg, o4, .ref mk, o5, o6, o7, o8])), (fa, .inl (aC 4, 5, .inr (.inr (.inr (.inr ff))))), (s0, .inr (1, [.ref b0, r0, .int m0])), (b0, .inl (aC 0, 128, .inl f0)), (md, .inr (1, [.ref b1, r1, .int 0]))]) [0, 1, 2, 3, 4] (by decide) rfl
  have hFc := va_free (wc := [(h0, .inr (11, [.ref pt, .ref fa, .int 0, .ref pa, o1, .ref md, o2, o3, .ref rg, o4, .ref mk, o5, o6, o7, o8])), (fa, .inl (aC 4, 5, .inr (.inr (.inr (.inr ff))))), (s0, .inr (1, [.ref b0, r0, .int m0])), (b0, .inl (aC 0, 128, .inl f0)), (md, .inr (1, [.ref b1, r1, .int 0]))]) hD hS hA [0, 1, 2, 3, 4] rfl
  refine va_calli (va_runV (As := [.ref md]) (rest := []) ⟨hx, hb, hml, hown, hts⟩ (c_X11_keep l dC dI aC H.size h0 pt fa pa md rg mk o1 o2 o3 o4 o5 o6 o7 o8 ff s0 b0 r0 f0 m0 (.ref b1) r1 hf) (cwV 1 hts gX11_family_X11_keep rfl rfl rfl (by decide +kernel) ⟨Nat.le_of_ble_eq_true rfl, Nat.le_of_ble_eq_true rfl⟩) (rf_pv hK hN hPc hDc (va_recv hK hP (ci := 11) (q0 := 0) rfl rfl)) rfl rfl hl.1 rfl (lv_room (Nat.le_of_ble_eq_true rfl)) dX11_family_16 ⟨Nat.le_of_ble_eq_true rfl, Nat.le_of_ble_eq_true rfl⟩) hS (fun q _ h => hFc q h) hFc (fun r4 u3 t H1 locs ht hvm hwu3 hB hz1 hk1 hS => ?_)
  obtain ⟨hP1, hD1⟩ := hB
  rw [ht] at hP1
  try dsimp only at hwu3 hP1 hD1
  obtain ⟨hP, hD⟩ := va_join (wr := [(b1, .inl (aC 0, 128, .inl u1))]) (w1 := [(h0, .inr (11, [.ref pt, .ref fa, .int 1, .ref pa, o1, .ref md, o2, o3, .ref rg, o4, .ref mk, o5, o6, o7, o8])), (fa, .inl (aC 4, 5, .inr (.inr (.inr (.inr ff))))), (s0, .inr (1, [.ref b0, r0, .int 0])), (b0, .inl (aC 0, 128, .inl u3)), (md, .inr (1, [.ref b1, r1, .int 0]))]) hP hD [0, 1, 2, 3, 4] [5] rfl rfl (by decide) (by decide) hk1 hFc hP1 hD1
  clear hP1 hD1 hPc hDc hFc
  generalize H1 = H at hP hS ⊢
  have hP : va_P (dC, dI) rfCl [(b1, .inl (aC 0, 128, .inl u1)), (h0, .inr (11, [.ref pt, .ref fa, .int 1, .ref pa, o1, .ref md, o2, o3, .ref rg, o4, .ref mk, o5, o6, o7, o8])), (fa, .inl (aC 4, 5, .inr (.inr (.inr (.inr ff))))), (s0, .inr (1, [.ref b0, r0, .int 0])), (b0, .inl (aC 0, 128, .inl u3)), (md, .inr (1, [.ref b1, r1, .int 0]))] H := hP
  have hD : va_D A [(b1, .inl (aC 0, 128, .inl u1)), (h0, .inr (11, [.ref pt, .ref fa, .int 1, .ref pa, o1, .ref md, o2, o3, .ref rg, o4, .ref mk, o5, o6, o7, o8])), (fa, .inl (aC 4, 5, .inr (.inr (.inr (.inr ff))))), (s0, .inr (1, [.ref b0, r0, .int 0])), (b0, .inl (aC 0, 128, .inl u3)), (md, .inr (1, [.ref b1, r1, .int 0]))] := hD
  refine W.widen (k := 0) (n := 0) (Nat.le_of_ble_eq_true rfl) (Nat.le_of_ble_eq_true rfl) ?_
  have hP9 := hP.sub (ws' := [(h0, .inr (11, [.ref pt, .ref fa, .int 1, .ref pa, o1, .ref md, o2, o3, .ref rg, o4, .ref mk, o5, o6, o7, o8])), (fa, .inl (aC 4, 5, .inr (.inr (.inr (.inr ff))))), (s0, .inr (1, [.ref b0, r0, .int 0])), (b0, .inl (aC 0, 128, .inl u3)), (md, .inr (1, [.ref b1, r1, .int 0])), (b1, .inl (aC 0, 128, .inl u1))]) [1, 2, 3, 4, 5, 0] rfl
  have hD9 := hD.sub (ws' := [(h0, .inr (11, [.ref pt, .ref fa, .int 1, .ref pa, o1, .ref md, o2, o3, .ref rg, o4, .ref mk, o5, o6, o7, o8])), (fa, .inl (aC 4, 5, .inr (.inr (.inr (.inr ff))))), (s0, .inr (1, [.ref b0, r0, .int 0])), (b0, .inl (aC 0, 128, .inl u3)), (md, .inr (1, [.ref b1, r1, .int 0])), (b1, .inl (aC 0, 128, .inl u1))]) [1, 2, 3, 4, 5, 0] (by decide) rfl
  refine W.widen (k := 0) (n := 0) (Nat.le_of_ble_eq_true rfl) (Nat.le_of_ble_eq_true rfl) ?_
  exact W.iret (v := r4) hx hb hr (fun t ht hW => ⟨⟨r4, (u3, u1), rfl, hwu3, by rw [ht]; exact hP9, hD9⟩, hS.F ht⟩) hS.2.2 dX11_family_19

set_option maxHeartbeats 4000000 in
set_option maxRecDepth 100000 in
theorem c_X11_familyOf (l : Launch) (dC : Nat → ClassId) (dI : Nat → Nat → Nat) (aC : Nat → ClassId) (sz : Nat) (h0 pt fa pa md rg mk : Nat) (o1 o2 o3 o4 o5 o6 o7 o8 : Value) (ff : Nat → Option Nat) (s0 : Nat) (hf : ff 0 = some s0) : Met l yX11_familyOf wsX11_familyOf ({ frames := 1, cells := 0, slots := 0, locals := 0 } : Room) (rf_Pc (dC, dI) aC [.ref h0, .int 0] [(h0, .inr (11, [.ref pt, .ref fa, .int 1, .ref pa, o1, .ref md, o2, o3, .ref rg, o4, .ref mk, o5, o6, o7, o8])), (fa, .inl (aC 4, 5, .inr (.inr (.inr (.inr ff)))))] sz) (va_Sr (fun k => k = s0) (fun k => .ref k)) 0 0 (fun _ => False) := by
  refine Met.ofW (cc := cX11_familyOf) (maxL := 2) (ret := (some (.object "Transversary$Sets"))) (by decide) rfl ?_
  intro p e s m args below meth c s₁ B hml hv
  obtain ⟨rfl, hsz, hP, hKN, hD0⟩ := hv
  obtain ⟨hK, hN⟩ := hKN
  have hx := B.exec
  have hb := B.bytes
  have hr := B.returns
  have hts := atoms_spec (ws := wsX11_familyOf) B.pre
  have hown : s.vm.findClass RX11 = some m.cls := findClass_of_methodNamed B.named
  have hlocks := B.notSynchronized
  subst hsz
  have hD := hD0.self (sz := s.heap.size)
  generalize hAe : va_A [(h0, .inr (11, [.ref pt, .ref fa, .int 1, .ref pa, o1, .ref md, o2, o3, .ref rg, o4, .ref mk, o5, o6, o7, o8])), (fa, .inl (aC 4, 5, .inr (.inr (.inr (.inr ff)))))] s.heap.size = A at hD
  have hA : ∀ q : Nat, s.heap.size ≤ q → A q := fun q h => by rw [← hAe]; exact Or.inr h
  have hS : va_S A s.heap s.heap [] := va_S.rf
  have hP : va_P (dC, dI) rfCl [(h0, .inr (11, [.ref pt, .ref fa, .int 1, .ref pa, o1, .ref md, o2, o3, .ref rg, o4, .ref mk, o5, o6, o7, o8])), (fa, .inl (aC 4, 5, .inr (.inr (.inr (.inr ff)))))] s.heap := hP
  have hl := lv_entry ([.ref h0, .int 0]) (n := 2) (Nat.le_of_ble_eq_true rfl)
  rw [lg_entry_eq]
  generalize (lg_sl ([.ref h0, .int 0]) ++ List.replicate (2 - (lg_sl ([.ref h0, .int 0])).length) Slot.unset).toArray = ls at hl ⊢
  have hl : lv_has ls 2 [(0, .ref h0), (1, .int 0)] := hl
  refine lv_iload_n hx hb dX11_familyOf_0 rfl (lv_at hl 1 rfl) ?_
  refine lv_if_lt (tgt := 21) hx hb dX11_familyOf_1 (by decide) (fun c9 => absurd c9 (by decide)) (fun _ => ?_)
  refine lv_iload_n hx hb dX11_familyOf_4 rfl (lv_at hl 1 rfl) ?_
  refine lv_aload_n hx hb dX11_familyOf_5 rfl (lv_at hl 0 rfl) ?_
  refine va_get (D := (dC, dI)) (ci := 11) (v := .int 1) (C := RX11) (T := TX11) (N := 15) hx hb hts (by decide +kernel) hown hK hP 0 rfl rfl 2 (by decide) (hts (.fieldLink RX11 108 "Transversary" "familyCount" "I") (by decide +kernel)) (fun _ h9 => h9) rfl dX11_familyOf_6 ?_
  refine lv_icmp_ge (tgt := 21) hx hb dX11_familyOf_9 (by decide) (fun c9 => absurd c9 (by decide)) (fun _ => ?_)
  refine lv_iload_n hx hb dX11_familyOf_12 rfl (lv_at hl 1 rfl) ?_
  refine lv_aload_n hx hb dX11_familyOf_13 rfl (lv_at hl 0 rfl) ?_
  refine va_get (D := (dC, dI)) (ci := 11) (v := .ref fa) (C := RX11) (T := TX11) (N := 15) hx hb hts (by decide +kernel) hown hK hP 0 rfl rfl 1 (by decide) (hts (.fieldLink RX11 18 "Transversary" "families" "[LTransversary$Sets;") (by decide +kernel)) (fun _ h9 => h9) rfl dX11_familyOf_14 ?_
  refine va_alen (v := 5) hx hb hK hP 1 4 rfl rfl rfl dX11_familyOf_17 ?_
  refine lv_icmp_lt (tgt := 32) hx hb dX11_familyOf_18 (by decide) (fun _ => ?_) (fun c9 => absurd (by decide) c9)
  refine lv_aload_n hx hb dX11_familyOf_32 rfl (lv_at hl 0 rfl) ?_
  refine va_get (D := (dC, dI)) (ci := 11) (v := .ref fa) (C := RX11) (T := TX11) (N := 15) hx hb hts (by decide +kernel) hown hK hP 0 rfl rfl 1 (by decide) (hts (.fieldLink RX11 18 "Transversary" "families" "[LTransversary$Sets;") (by decide +kernel)) (fun _ h9 => h9) rfl dX11_familyOf_33 ?_
  refine lv_iload_n hx hb dX11_familyOf_36 rfl (lv_at hl 1 rfl) ?_
  refine va_aldq (C := "Transversary$Sets") hx hb hK hP 1 4 rfl rfl (vp_in_nI (n := 0) (N := 5) (by decide) (by decide)) dX11_familyOf_37 ?_
  refine W.eq (g2 := F0 m 38 ls [.ref s0]) (by rw [show ((0 : Int32)).toNatClampNeg = 0 from rfl, hf]; rfl) ?_
  exact W.aret (v := .ref s0) hx hb hr (Or.inl ⟨_, rfl⟩) (Or.inr ⟨_, rfl⟩) (fun t ht hW => ⟨_, rfl, rfl, ht⟩) (fun q h => nomatch h) dX11_familyOf_38

set_option maxHeartbeats 4000000 in
set_option maxRecDepth 100000 in
theorem c_X1_partsInto (l : Launch) (dC : Nat → ClassId) (dI : Nat → Nat → Nat) (aC : Nat → ClassId) (sz : Nat) (h0 pa pb : Nat) (pr : Value) (pf : Nat → Int32) (pm : Int32) (s0 : Nat) (b0 r0 : Value) (al : Int32)  : Met l yX1_partsInto wsX1_partsInto ({ frames := 2, cells := 0, slots := 0, locals := 40 } : Room) (rf_Pc (dC, dI) aC [.ref h0, .ref pa, .ref s0, .int al] [(pa, .inr (1, [.ref pb, pr, .int pm])), (pb, .inl (aC 0, 128, .inl pf)), (s0, .inr (1, [b0, r0, .int 0]))] sz) (va_Qv (fun (u : Nat → Int32) => True) (fun (u : Nat → Int32) t => va_P (dC, dI) rfCl [(pa, .inr (1, [.ref pb, pr, .int 0])), (pb, .inl (aC 0, 128, .inl u)), (s0, .inr (1, [b0, r0, .int 0]))] t.heap ∧ va_D (va_A [(pa, .inr (1, [.ref pb, pr, .int pm])), (pb, .inl (aC 0, 128, .inl pf)), (s0, .inr (1, [b0, r0, .int 0]))] sz) [(pa, .inr (1, [.ref pb, pr, .int 0])), (pb, .inl (aC 0, 128, .inl u)), (s0, .inr (1, [b0, r0, .int 0]))]) (va_A [(pa, .inr (1, [.ref pb, pr, .int pm])), (pb, .inl (aC 0, 128, .inl pf)), (s0, .inr (1, [b0, r0, .int 0]))] sz)) 0 0 (va_A [(pa, .inr (1, [.ref pb, pr, .int pm])), (pb, .inl (aC 0, 128, .inl pf)), (s0, .inr (1, [b0, r0, .int 0]))] sz) := by
  refine Met.ofW (cc := cX1_partsInto) (maxL := 5) (ret := none) (by decide) rfl ?_
  intro p e s m args below meth c s₁ B hml hv
  obtain ⟨rfl, hsz, hP, hKN, hD0⟩ := hv
  obtain ⟨hK, hN⟩ := hKN
  have hx := B.exec
  have hb := B.bytes
  have hr := B.returns
  have hts := atoms_spec (ws := wsX1_partsInto) B.pre
  have hown : s.vm.findClass RX1 = some m.cls := findClass_of_methodNamed B.named
  have hlocks := B.notSynchronized
  subst hsz
  have hD := hD0.self (sz := s.heap.size)
  generalize hAe : va_A [(pa, .inr (1, [.ref pb, pr, .int pm])), (pb, .inl (aC 0, 128, .inl pf)), (s0, .inr (1, [b0, r0, .int 0]))] s.heap.size = A at hD ⊢
  have hA : ∀ q : Nat, s.heap.size ≤ q → A q := fun q h => by rw [← hAe]; exact Or.inr h
  have hS : va_S A s.heap s.heap [] := va_S.rf
  have hP : va_P (dC, dI) rfCl [(pa, .inr (1, [.ref pb, pr, .int pm])), (pb, .inl (aC 0, 128, .inl pf)), (s0, .inr (1, [b0, r0, .int 0]))] s.heap := hP
  have hl := lv_entry ([.ref h0, .ref pa, .ref s0, .int al]) (n := 5) (Nat.le_of_ble_eq_true rfl)
  rw [lg_entry_eq]
  generalize (lg_sl ([.ref h0, .ref pa, .ref s0, .int al]) ++ List.replicate (5 - (lg_sl ([.ref h0, .ref pa, .ref s0, .int al])).length) Slot.unset).toArray = ls at hl ⊢
  have hl : lv_has ls 5 [(0, .ref h0), (1, .ref pa), (2, .ref s0), (3, .int al)] := hl
  refine lv_aload_n hx hb dX1_partsInto_0 rfl (lv_at hl 1 rfl) ?_
  have hPc := hP.sub (ws' := [(pa, .inr (1, [.ref pb, pr, .int pm])), (pb, .inl (aC 0, 128, .inl pf))]) [0, 1] rfl
  have hDc := hD.sub (ws' := [(pa, .inr (1, [.ref pb, pr, .int pm])), (pb, .inl (aC 0, 128, .inl pf))]) [0, 1] (by decide) rfl
  have hFc := va_free (wc := [(pa, .inr (1, [.ref pb, pr, .int pm])), (pb, .inl (aC 0, 128, .inl pf))]) hD hS hA [0, 1] rfl
  refine va_callv (va_runV (As := []) (rest := []) ⟨hx, hb, hml, hown, hts⟩ (c_X7_clear l dC dI aC s.heap.size pa pb pr pf pm) (cwV 0 hts gX1_partsInto_X7_clear rfl rfl rfl (by decide +kernel) ⟨Nat.le_of_ble_eq_true rfl, Nat.le_of_ble_eq_true rfl⟩) (rf_pv hK hN hPc hDc (va_recv hK hP (ci := 1) (q0 := 0) rfl rfl)) rfl rfl hl.1 rfl (lv_room (Nat.le_of_ble_eq_true rfl)) dX1_partsInto_1 ⟨Nat.le_of_ble_eq_true rfl, Nat.le_of_ble_eq_true rfl⟩) hS (fun q _ h => hFc q h) hFc (fun u1 t H1 locs ht hvm hwu1 hB hz1 hk1 hS => ?_)
  obtain ⟨hP1, hD1⟩ := hB
  rw [ht] at hP1
  try dsimp only at hwu1 hP1 hD1
  obtain ⟨hP, hD⟩ := va_join (wr := [(s0, .inr (1, [b0, r0, .int 0]))]) (w1 := [(pa, .inr (1, [.ref pb, pr, .int 0])), (pb, .inl (aC 0, 128, .inl u1))]) hP hD [0, 1] [2] rfl rfl (by decide) (by decide) hk1 hFc hP1 hD1
  clear hP1 hD1 hPc hDc hFc
  generalize H1 = H at hP hS ⊢
  have hP : va_P (dC, dI) rfCl [(s0, .inr (1, [b0, r0, .int 0])), (pa, .inr (1, [.ref pb, pr, .int 0])), (pb, .inl (aC 0, 128, .inl u1))] H := hP
  have hD : va_D A [(s0, .inr (1, [b0, r0, .int 0])), (pa, .inr (1, [.ref pb, pr, .int 0])), (pb, .inl (aC 0, 128, .inl u1))] := hD
  refine W.widen (k := 0) (n := 0) (Nat.le_of_ble_eq_true rfl) (Nat.le_of_ble_eq_true rfl) ?_
  refine lv_iconst (v := 0) hx hb dX1_partsInto_4 (by decide) ?_
  refine lv_istore (lv' := [(4, .int 0), (0, .ref h0), (1, .ref pa), (2, .ref s0), (3, .int al)]) hx hb dX1_partsInto_5 hl (by decide) rfl (fun ls hl => ?_)
  refine lv_iload hx hb dX1_partsInto_7 (lv_at hl 0 rfl) ?_
  refine lv_aload_n hx hb dX1_partsInto_9 rfl (lv_at hl 3 rfl) ?_
  have hPc := hP.sub (ws' := [(s0, .inr (1, [b0, r0, .int 0]))]) [0] rfl
  have hDc := hD.sub (ws' := [(s0, .inr (1, [b0, r0, .int 0]))]) [0] (by decide) rfl
  refine W.callR (W.runV (As := []) (rest := [.int 0]) ⟨hx, hb, hml, hown, hts⟩ (c_X7_many l dC dI aC H.size s0 b0 r0 0) (cwV 0 hts gX1_partsInto_X7_many rfl rfl rfl (by decide +kernel) ⟨Nat.le_of_ble_eq_true rfl, Nat.le_of_ble_eq_true rfl⟩) (rf_pv hK hN hPc hDc (va_recv hK hP (ci := 1) (q0 := 0) rfl rfl)) rfl rfl hl.1 rfl (lv_room (Nat.le_of_ble_eq_true rfl)) dX1_partsInto_10 ⟨Nat.le_of_ble_eq_true rfl, Nat.le_of_ble_eq_true rfl⟩) ?_
  refine W.eq (g2 := F0 m 13 ls [.int 0, .int 0]) rfl ?_
  refine lv_icmp_ge (tgt := 34) hx hb dX1_partsInto_13 (by decide) (fun _ => ?_) (fun c9 => absurd (by decide) c9)
  have hP9 := hP.sub (ws' := [(pa, .inr (1, [.ref pb, pr, .int 0])), (pb, .inl (aC 0, 128, .inl u1)), (s0, .inr (1, [b0, r0, .int 0]))]) [1, 2, 0] rfl
  have hD9 := hD.sub (ws' := [(pa, .inr (1, [.ref pb, pr, .int 0])), (pb, .inl (aC 0, 128, .inl u1)), (s0, .inr (1, [b0, r0, .int 0]))]) [1, 2, 0] (by decide) rfl
  refine W.widen (k := 0) (n := 0) (Nat.le_of_ble_eq_true rfl) (Nat.le_of_ble_eq_true rfl) ?_
  exact W.vret hx hb hr (fun t ht hW => ⟨⟨u1, rfl, trivial, by rw [ht]; exact hP9, hD9⟩, hS.F ht⟩) hS.2.2 dX1_partsInto_34

set_option maxHeartbeats 4000000 in
set_option maxRecDepth 100000 in
theorem c_X11_partsOf (l : Launch) (dC : Nat → ClassId) (dI : Nat → Nat → Nat) (aC : Nat → ClassId) (sz : Nat) (h0 pt fa pa md rg mk : Nat) (o1 o2 o3 o4 o5 o6 o7 o8 : Value) (ff : Nat → Option Nat) (s0 : Nat) (b0 r0 w : Value) (mny al : Int32) (k1 k2 : Value) (pb : Nat) (pr : Value) (pf : Nat → Int32) (pm : Int32) (hf : ff 0 = some s0) : Met l yX11_partsOf wsX11_partsOf ({ frames := 3, cells := 0, slots := 0, locals := 80 } : Room) (rf_Pc (dC, dI) aC [.ref h0, .int 0] [(h0, .inr (11, [.ref pt, .ref fa, .int 1, .ref pa, o1, .ref md, o2, o3, .ref rg, o4, .ref mk, o5, o6, o7, o8])), (fa, .inl (aC 4, 5, .inr (.inr (.inr (.inr ff))))), (s0, .inr (1, [b0, r0, .int 0])), (pt, .inr (0, [w, .int mny, .int al])), (mk, .inr (6, [k1, k2])), (pa, .inr (1, [.ref pb, pr, .int pm])), (pb, .inl (aC 0, 128, .inl pf))] sz) (va_Qr (fun (u : Nat → Int32) => True) (fun (u : Nat → Int32) (ra : Nat) t => ra = pa ∧ va_P (dC, dI) rfCl [(h0, .inr (11, [.ref pt, .ref fa, .int 1, .ref pa, o1, .ref md, o2, o3, .ref rg, o4, .ref mk, o5, o6, o7, o8])), (fa, .inl (aC 4, 5, .inr (.inr (.inr (.inr ff))))), (s0, .inr (1, [b0, r0, .int 0])), (pt, .inr (0, [w, .int mny, .int al])), (mk, .inr (6, [k1, k2])), (pa, .inr (1, [.ref pb, pr, .int 0])), (pb, .inl (aC 0, 128, .inl u))] t.heap ∧ va_D (va_A [(h0, .inr (11, [.ref pt, .ref fa, .int 1, .ref pa, o1, .ref md, o2, o3, .ref rg, o4, .ref mk, o5, o6, o7, o8])), (fa, .inl (aC 4, 5, .inr (.inr (.inr (.inr ff))))), (s0, .inr (1, [b0, r0, .int 0])), (pt, .inr (0, [w, .int mny, .int al])), (mk, .inr (6, [k1, k2])), (pa, .inr (1, [.ref pb, pr, .int pm])), (pb, .inl (aC 0, 128, .inl pf))] sz) [(h0, .inr (11, [.ref pt, .ref fa, .int 1, .ref pa, o1, .ref md, o2, o3, .ref rg, o4, .ref mk, o5, o6, o7, o8])), (fa, .inl (aC 4, 5, .inr (.inr (.inr (.inr ff))))), (s0, .inr (1, [b0, r0, .int 0])), (pt, .inr (0, [w, .int mny, .int al])), (mk, .inr (6, [k1, k2])), (pa, .inr (1, [.ref pb, pr, .int 0])), (pb, .inl (aC 0, 128, .inl u))]) (va_A [(h0, .inr (11, [.ref pt, .ref fa, .int 1, .ref pa, o1, .ref md, o2, o3, .ref rg, o4, .ref mk, o5, o6, o7, o8])), (fa, .inl (aC 4, 5, .inr (.inr (.inr (.inr ff))))), (s0, .inr (1, [b0, r0, .int 0])), (pt, .inr (0, [w, .int mny, .int al])), (mk, .inr (6, [k1, k2])), (pa, .inr (1, [.ref pb, pr, .int pm])), (pb, .inl (aC 0, 128, .inl pf))] sz)) 0 0 (va_A [(h0, .inr (11, [.ref pt, .ref fa, .int 1, .ref pa, o1, .ref md, o2, o3, .ref rg, o4, .ref mk, o5, o6, o7, o8])), (fa, .inl (aC 4, 5, .inr (.inr (.inr (.inr ff))))), (s0, .inr (1, [b0, r0, .int 0])), (pt, .inr (0, [w, .int mny, .int al])), (mk, .inr (6, [k1, k2])), (pa, .inr (1, [.ref pb, pr, .int pm])), (pb, .inl (aC 0, 128, .inl pf))] sz) := by
  refine Met.ofW (cc := cX11_partsOf) (maxL := 2) (ret := (some (.object "Transversary$Sets"))) (by decide) rfl ?_
  intro p e s m args below meth c s₁ B hml hv
  obtain ⟨rfl, hsz, hP, hKN, hD0⟩ := hv
  obtain ⟨hK, hN⟩ := hKN
  have hx := B.exec
  have hb := B.bytes
  have hr := B.returns
  have hts := atoms_spec (ws := wsX11_partsOf) B.pre
  have hown : s.vm.findClass RX11 = some m.cls := findClass_of_methodNamed B.named
  have hlocks := B.notSynchronized
  subst hsz
  have hD := hD0.self (sz := s.heap.size)
  generalize hAe : va_A [(h0, .inr (11, [.ref pt, .ref fa, .int 1, .ref pa, o1, .ref md, o2, o3, .ref rg, o4, .ref mk, o5, o6, o7, o8])), (fa, .inl (aC 4, 5, .inr (.inr (.inr (.inr ff))))), (s0, .inr (1, [b0, r0, .int 0])), (pt, .inr (0, [w, .int mny, .int al])), (mk, .inr (6, [k1, k2])), (pa, .inr (1, [.ref pb, pr, .int pm])), (pb, .inl (aC 0, 128, .inl pf))] s.heap.size = A at hD ⊢
  have hA : ∀ q : Nat, s.heap.size ≤ q → A q := fun q h => by rw [← hAe]; exact Or.inr h
  have hS : va_S A s.heap s.heap [] := va_S.rf
  have hP : va_P (dC, dI) rfCl [(h0, .inr (11, [.ref pt, .ref fa, .int 1, .ref pa, o1, .ref md, o2, o3, .ref rg, o4, .ref mk, o5, o6, o7, o8])), (fa, .inl (aC 4, 5, .inr (.inr (.inr (.inr ff))))), (s0, .inr (1, [b0, r0, .int 0])), (pt, .inr (0, [w, .int mny, .int al])), (mk, .inr (6, [k1, k2])), (pa, .inr (1, [.ref pb, pr, .int pm])), (pb, .inl (aC 0, 128, .inl pf))] s.heap := hP
  have hl := lv_entry ([.ref h0, .int 0]) (n := 2) (Nat.le_of_ble_eq_true rfl)
  rw [lg_entry_eq]
  generalize (lg_sl ([.ref h0, .int 0]) ++ List.replicate (2 - (lg_sl ([.ref h0, .int 0])).length) Slot.unset).toArray = ls at hl ⊢
  have hl : lv_has ls 2 [(0, .ref h0), (1, .int 0)] := hl
  refine lv_aload_n hx hb dX11_partsOf_0 rfl (lv_at hl 0 rfl) ?_
  refine va_get (D := (dC, dI)) (ci := 11) (v := .ref mk) (C := RX11) (T := TX11) (N := 15) hx hb hts (by decide +kernel) hown hK hP 0 rfl rfl 10 (by decide) (hts (.fieldLink RX11 68 "Transversary" "makers" "LTransversary$Makers;") (by decide +kernel)) (fun _ h9 => h9) rfl dX11_partsOf_1 ?_
  refine lv_aload_n hx hb dX11_partsOf_4 rfl (lv_at hl 0 rfl) ?_
  refine va_get (D := (dC, dI)) (ci := 11) (v := .ref pa) (C := RX11) (T := TX11) (N := 15) hx hb hts (by decide +kernel) hown hK hP 0 rfl rfl 3 (by decide) (hts (.fieldLink RX11 23 "Transversary" "parts" "LTransversary$Sets;") (by decide +kernel)) (fun _ h9 => h9) rfl dX11_partsOf_5 ?_
  refine lv_aload_n hx hb dX11_partsOf_8 rfl (lv_at hl 0 rfl) ?_
  refine lv_iload_n hx hb dX11_partsOf_9 rfl (lv_at hl 1 rfl) ?_
  have hPc := hP.sub (ws' := [(h0, .inr (11, [.ref pt, .ref fa, .int 1, .ref pa, o1, .ref md, o2, o3, .ref rg, o4, .ref mk, o5, o6, o7, o8])), (fa, .inl (aC 4, 5, .inr (.inr (.inr (.inr ff)))))]) [0, 1] rfl
  have hDc := hD.sub (ws' := [(h0, .inr (11, [.ref pt, .ref fa, .int 1, .ref pa, o1, .ref md, o2, o3, .ref rg, o4, .ref mk, o5, o6, o7, o8])), (fa, .inl (aC 4, 5, .inr (.inr (.inr (.inr ff)))))]) [0, 1] (by decide) rfl
  refine va_csr (W.runV (As := [.int 0]) (rest := [.ref pa, .ref mk]) ⟨hx, hb, hml, hown, hts⟩ (c_X11_familyOf l dC dI aC s.heap.size h0 pt fa pa md rg mk o1 o2 o3 o4 o5 o6 o7 o8 ff s0 hf) (cwV 1 hts gX11_partsOf_X11_familyOf rfl rfl rfl (by decide +kernel) ⟨Nat.le_of_ble_eq_true rfl, Nat.le_of_ble_eq_true rfl⟩) (rf_pv hK hN hPc hDc (va_recv hK hP (ci := 11) (q0 := 0) rfl rfl)) rfl rfl hl.1 rfl (lv_room (Nat.le_of_ble_eq_true rfl)) dX11_partsOf_10 ⟨Nat.le_of_ble_eq_true rfl, Nat.le_of_ble_eq_true rfl⟩) (fun k9 hk9 => ?_)
  rw [hk9]
  refine lv_aload_n hx hb dX11_partsOf_13 rfl (lv_at hl 0 rfl) ?_
  refine va_get (D := (dC, dI)) (ci := 11) (v := .ref pt) (C := RX11) (T := TX11) (N := 15) hx hb hts (by decide +kernel) hown hK hP 0 rfl rfl 0 (by decide) (hts (.fieldLink RX11 12 "Transversary" "points" "LTransversary$Points;") (by decide +kernel)) (fun _ h9 => h9) rfl dX11_partsOf_14 ?_
  have hPc := hP.sub (ws' := [(pt, .inr (0, [w, .int mny, .int al]))]) [3] rfl
  have hDc := hD.sub (ws' := [(pt, .inr (0, [w, .int mny, .int al]))]) [3] (by decide) rfl
  refine W.callR (W.runV (As := []) (rest := [.ref s0, .ref pa, .ref mk]) ⟨hx, hb, hml, hown, hts⟩ (c_X3_alive l dC dI aC s.heap.size pt w mny al) (cwV 0 hts gX11_partsOf_X3_alive rfl rfl rfl (by decide +kernel) ⟨Nat.le_of_ble_eq_true rfl, Nat.le_of_ble_eq_true rfl⟩) (rf_pv hK hN hPc hDc (va_recv hK hP (ci := 0) (q0 := 3) rfl rfl)) rfl rfl hl.1 rfl (lv_room (Nat.le_of_ble_eq_true rfl)) dX11_partsOf_17 ⟨Nat.le_of_ble_eq_true rfl, Nat.le_of_ble_eq_true rfl⟩) ?_
  refine W.eq (g2 := F0 m 20 ls [.int al, .ref s0, .ref pa, .ref mk]) rfl ?_
  have hPc := hP.sub (ws' := [(pa, .inr (1, [.ref pb, pr, .int pm])), (pb, .inl (aC 0, 128, .inl pf)), (s0, .inr (1, [b0, r0, .int 0]))]) [5, 6, 2] rfl
  have hDc := hD.sub (ws' := [(pa, .inr (1, [.ref pb, pr, .int pm])), (pb, .inl (aC 0, 128, .inl pf)), (s0, .inr (1, [b0, r0, .int 0]))]) [5, 6, 2] (by decide) rfl
  have hFc := va_free (wc := [(pa, .inr (1, [.ref pb, pr, .int pm])), (pb, .inl (aC 0, 128, .inl pf)), (s0, .inr (1, [b0, r0, .int 0]))]) hD hS hA [5, 6, 2] rfl
  refine va_callv (va_runV (As := [.ref pa, .ref s0, .int al]) (rest := []) ⟨hx, hb, hml, hown, hts⟩ (c_X1_partsInto l dC dI aC s.heap.size mk pa pb pr pf pm s0 b0 r0 al) (cwV 3 hts gX11_partsOf_X1_partsInto rfl rfl rfl (by decide +kernel) ⟨Nat.le_of_ble_eq_true rfl, Nat.le_of_ble_eq_true rfl⟩) (rf_pv hK hN hPc hDc (va_recv hK hP (ci := 6) (q0 := 4) rfl rfl)) rfl rfl hl.1 rfl (lv_room (Nat.le_of_ble_eq_true rfl)) dX11_partsOf_20 ⟨Nat.le_of_ble_eq_true rfl, Nat.le_of_ble_eq_true rfl⟩) hS (fun q _ h => hFc q h) hFc (fun u1 t H1 locs ht hvm hwu1 hB hz1 hk1 hS => ?_)
  obtain ⟨hP1, hD1⟩ := hB
  rw [ht] at hP1
  try dsimp only at hwu1 hP1 hD1
  obtain ⟨hP, hD⟩ := va_join (wr := [(h0, .inr (11, [.ref pt, .ref fa, .int 1, .ref pa, o1, .ref md, o2, o3, .ref rg, o4, .ref mk, o5, o6, o7, o8])), (fa, .inl (aC 4, 5, .inr (.inr (.inr (.inr ff))))), (pt, .inr (0, [w, .int mny, .int al])), (mk, .inr (6, [k1, k2]))]) (w1 := [(pa, .inr (1, [.ref pb, pr, .int 0])), (pb, .inl (aC 0, 128, .inl u1)), (s0, .inr (1, [b0, r0, .int 0]))]) hP hD [5, 6, 2] [0, 1, 3, 4] rfl rfl (by decide) (by decide) hk1 hFc hP1 hD1
  clear hP1 hD1 hPc hDc hFc
  generalize H1 = H at hP hS ⊢
  have hP : va_P (dC, dI) rfCl [(h0, .inr (11, [.ref pt, .ref fa, .int 1, .ref pa, o1, .ref md, o2, o3, .ref rg, o4, .ref mk, o5, o6, o7, o8])), (fa, .inl (aC 4, 5, .inr (.inr (.inr (.inr ff))))), (pt, .inr (0, [w, .int mny, .int al])), (mk, .inr (6, [k1, k2])), (pa, .inr (1, [.ref pb, pr, .int 0])), (pb, .inl (aC 0, 128, .inl u1)), (s0, .inr (1, [b0, r0, .int 0]))] H := hP
  have hD : va_D A [(h0, .inr (11, [.ref pt, .ref fa, .int 1, .ref pa, o1, .ref md, o2, o3, .ref rg, o4, .ref mk, o5, o6, o7, o8])), (fa, .inl (aC 4, 5, .inr (.inr (.inr (.inr ff))))), (pt, .inr (0, [w, .int mny, .int al])), (mk, .inr (6, [k1, k2])), (pa, .inr (1, [.ref pb, pr, .int 0])), (pb, .inl (aC 0, 128, .inl u1)), (s0, .inr (1, [b0, r0, .int 0]))] := hD
  refine W.widen (k := 0) (n := 0) (Nat.le_of_ble_eq_true rfl) (Nat.le_of_ble_eq_true rfl) ?_
  refine lv_aload_n hx hb dX11_partsOf_23 rfl (lv_at hl 0 rfl) ?_
  refine va_get (D := (dC, dI)) (ci := 11) (v := .ref pa) (C := RX11) (T := TX11) (N := 15) hx hb hts (by decide +kernel) hown hK hP 0 rfl rfl 3 (by decide) (hts (.fieldLink RX11 23 "Transversary" "parts" "LTransversary$Sets;") (by decide +kernel)) (fun _ h9 => h9) rfl dX11_partsOf_24 ?_
  have hP9 := hP.sub (ws' := [(h0, .inr (11, [.ref pt, .ref fa, .int 1, .ref pa, o1, .ref md, o2, o3, .ref rg, o4, .ref mk, o5, o6, o7, o8])), (fa, .inl (aC 4, 5, .inr (.inr (.inr (.inr ff))))), (s0, .inr (1, [b0, r0, .int 0])), (pt, .inr (0, [w, .int mny, .int al])), (mk, .inr (6, [k1, k2])), (pa, .inr (1, [.ref pb, pr, .int 0])), (pb, .inl (aC 0, 128, .inl u1))]) [0, 1, 6, 2, 3, 4, 5] rfl
  have hD9 := hD.sub (ws' := [(h0, .inr (11, [.ref pt, .ref fa, .int 1, .ref pa, o1, .ref md, o2, o3, .ref rg, o4, .ref mk, o5, o6, o7, o8])), (fa, .inl (aC 4, 5, .inr (.inr (.inr (.inr ff))))), (s0, .inr (1, [b0, r0, .int 0])), (pt, .inr (0, [w, .int mny, .int al])), (mk, .inr (6, [k1, k2])), (pa, .inr (1, [.ref pb, pr, .int 0])), (pb, .inl (aC 0, 128, .inl u1))]) [0, 1, 6, 2, 3, 4, 5] (by decide) rfl
  refine W.widen (k := 0) (n := 0) (Nat.le_of_ble_eq_true rfl) (Nat.le_of_ble_eq_true rfl) ?_
  exact W.aret (v := .ref pa) hx hb hr (Or.inl ⟨_, rfl⟩) (Or.inr ⟨_, rfl⟩) (fun t ht hW => ⟨⟨u1, pa, rfl, trivial, rfl, by rw [ht]; exact hP9, hD9⟩, hS.F ht⟩) hS.2.2 dX11_partsOf_27
end
section
theorem rf_pred (n : Nat) : nI (n + 1) + (-1) = nI n := (Int32.sub_eq_add_neg _ _).symm.trans (nI_pred n)
theorem rf_in0 : ∀ i, i < 127 → (if nI (i + 1) &&& ((0 : Int32) ^^^ (-1)) = 0 then (1 : Int32) else 0) = 0 := by decide +kernel
theorem rf_in1 : ∀ i, i < 127 → (if nI (i + 1) &&& ((0 : Int32) &&& ((0 : Int32) ^^^ (-1)) ^^^ (-1)) = 0 then (1 : Int32) else 0) = 0 := by decide +kernel

set_option maxHeartbeats 4000000 in
set_option maxRecDepth 100000 in
theorem c_X7_hasWithin (l : Launch) (dC : Nat → ClassId) (dI : Nat → Nat → Nat) (aC : Nat → ClassId) (sz : Nat) (h0 : Nat) (b r : Value) (p0 p1 : Int32)  : Met l yX7_hasWithin wsX7_hasWithin ({ frames := 1, cells := 0, slots := 0, locals := 0 } : Room) (rf_Pc (dC, dI) aC [.ref h0, .int p0, .int p1] [(h0, .inr (1, [b, r, .int 0]))] sz) (QcRead 0) 0 0 (fun _ => False) := by
  refine Met.ofW (cc := cX7_hasWithin) (maxL := 4) (ret := (some .boolean)) (by decide) rfl ?_
  intro p e s m args below meth c s₁ B hml hv
  obtain ⟨rfl, hsz, hP, hKN, hD0⟩ := hv
  obtain ⟨hK, hN⟩ := hKN
  have hx := B.exec
  have hb := B.bytes
  have hr := B.returns
  have hts := atoms_spec (ws := wsX7_hasWithin) B.pre
  have hown : s.vm.findClass RX7 = some m.cls := findClass_of_methodNamed B.named
  have hlocks := B.notSynchronized
  subst hsz
  have hD := hD0.self (sz := s.heap.size)
  generalize hAe : va_A [(h0, .inr (1, [b, r, .int 0]))] s.heap.size = A at hD
  have hA : ∀ q : Nat, s.heap.size ≤ q → A q := fun q h => by rw [← hAe]; exact Or.inr h
  have hS : va_S A s.heap s.heap [] := va_S.rf
  have hP : va_P (dC, dI) rfCl [(h0, .inr (1, [b, r, .int 0]))] s.heap := hP
  have hl := lv_entry ([.ref h0, .int p0, .int p1]) (n := 4) (Nat.le_of_ble_eq_true rfl)
  rw [lg_entry_eq]
  generalize (lg_sl ([.ref h0, .int p0, .int p1]) ++ List.replicate (4 - (lg_sl ([.ref h0, .int p0, .int p1])).length) Slot.unset).toArray = ls at hl ⊢
  have hl : lv_has ls 4 [(0, .ref h0), (1, .int p0), (2, .int p1)] := hl
  refine lv_iconst (v := 0) hx hb dX7_hasWithin_0 (by decide) ?_
  refine lv_istore_n (lv' := [(3, .int 0), (0, .ref h0), (1, .int p0), (2, .int p1)]) hx hb dX7_hasWithin_1 rfl hl (by decide) rfl (fun ls hl => ?_)
  refine lv_iload_n hx hb dX7_hasWithin_2 rfl (lv_at hl 0 rfl) ?_
  refine lv_aload_n hx hb dX7_hasWithin_3 rfl (lv_at hl 1 rfl) ?_
  refine va_get (D := (dC, dI)) (ci := 1) (v := .int 0) (C := RX7) (T := TX7) (N := 3) hx hb hts (by decide +kernel) hown hK hP 0 rfl rfl 2 (by decide) (hts (.fieldLink RX7 19 "Transversary$Sets" "many" "I") (by decide +kernel)) (fun _ h9 => h9) rfl dX7_hasWithin_4 ?_
  refine lv_icmp_ge (tgt := 42) hx hb dX7_hasWithin_7 (by decide) (fun _ => ?_) (fun c9 => absurd (by decide) c9)
  refine lv_iconst (v := 0) hx hb dX7_hasWithin_42 (by decide) ?_
  exact W.zret (v := 0) hx hb hr rfl (fun t ht hW => ⟨rfl, ht⟩) (fun q h => nomatch h) dX7_hasWithin_43

set_option maxHeartbeats 4000000 in
set_option maxRecDepth 100000 in
theorem c_X5_canWin (l : Launch) (dC : Nat → ClassId) (dI : Nat → Nat → Nat) (aC : Nat → ClassId) (sz : Nat) (h0 : Nat)  : Met l yX5_canWin wsX5_canWin ({ frames := 3, cells := 0, slots := 0, locals := 80 } : Room) (rf_Pc (dC, dI) aC [.ref h0, .int 0, .int 0, .int 0, .int 0] [] sz) (QcRead 0) 0 0 (fun _ => False) := by
  refine Met.ofW (cc := cX5_canWin) (maxL := 10) (ret := (some .boolean)) (by decide) rfl ?_
  intro p e s m args below meth c s₁ B hml hv
  obtain ⟨rfl, hsz, hP, hKN, hD0⟩ := hv
  obtain ⟨hK, hN⟩ := hKN
  have hx := B.exec
  have hb := B.bytes
  have hr := B.returns
  have hts := atoms_spec (ws := wsX5_canWin) B.pre
  have hown : s.vm.findClass RX5 = some m.cls := findClass_of_methodNamed B.named
  have hlocks := B.notSynchronized
  subst hsz
  have hD := hD0.self (sz := s.heap.size)
  generalize hAe : va_A [] s.heap.size = A at hD
  have hA : ∀ q : Nat, s.heap.size ≤ q → A q := fun q h => by rw [← hAe]; exact Or.inr h
  have hS : va_S A s.heap s.heap [] := va_S.rf
  have hP : va_P (dC, dI) rfCl [] s.heap := hP
  have hl := lv_entry ([.ref h0, .int 0, .int 0, .int 0, .int 0]) (n := 10) (Nat.le_of_ble_eq_true rfl)
  rw [lg_entry_eq]
  generalize (lg_sl ([.ref h0, .int 0, .int 0, .int 0, .int 0]) ++ List.replicate (10 - (lg_sl ([.ref h0, .int 0, .int 0, .int 0, .int 0])).length) Slot.unset).toArray = ls at hl ⊢
  have hl : lv_has ls 10 [(0, .ref h0), (1, .int 0), (2, .int 0), (3, .int 0), (4, .int 0)] := hl
  refine lv_iload_n hx hb dX5_canWin_0 rfl (lv_at hl 3 rfl) ?_
  refine lv_iload_n hx hb dX5_canWin_1 rfl (lv_at hl 1 rfl) ?_
  refine lv_iconst (v := -1) hx hb dX5_canWin_2 (by decide) ?_
  refine lv_ixor hx hb dX5_canWin_3 ?_
  refine lv_topi (fun t1 et1 => ?_)
  refine lv_iand hx hb dX5_canWin_4 ?_
  refine lv_topi (fun t2 et2 => ?_)
  refine lv_iload_n hx hb dX5_canWin_5 rfl (lv_at hl 2 rfl) ?_
  refine lv_iconst (v := -1) hx hb dX5_canWin_6 (by decide) ?_
  refine lv_ixor hx hb dX5_canWin_7 ?_
  refine lv_topi (fun t3 et3 => ?_)
  refine lv_iand hx hb dX5_canWin_8 ?_
  refine lv_topi (fun t4 et4 => ?_)
  refine lv_istore (lv' := [(5, .int t4), (0, .ref h0), (1, .int 0), (2, .int 0), (3, .int 0), (4, .int 0)]) hx hb dX5_canWin_9 hl (by decide) rfl (fun ls hl => ?_)
  refine lv_iload_n hx hb dX5_canWin_11 rfl (lv_at hl 2 rfl) ?_
  have hPc := hP.sub (ws' := []) [] rfl
  have hDc := hD.sub (ws' := []) [] (by decide) rfl
  refine W.callA (rf_cr (va_runSN (As := [.int 0]) (rest := []) ⟨hx, hb, hml, hown, hts⟩ (c_X11_sizeOf l dC dI aC s.heap.size 0) (⟨va_cnB 1 hts (goodIn_sub (by decide +kernel) (by decide +kernel)) rfl rfl rfl (rf_nst hN 1 (q := (RX5, 33, yX11_sizeOf, "Transversary")) rfl) (hts (.initialized RX11) (by decide +kernel)) (by decide +kernel) ⟨Nat.le_of_ble_eq_true rfl, Nat.le_of_ble_eq_true rfl⟩, hts (.static yX11_sizeOf) (by decide +kernel), trivial⟩) (rf_ps hK hN hPc hDc) rfl rfl hl.1 rfl (lv_room (Nat.le_of_ble_eq_true rfl)) dX5_canWin_12 ⟨Nat.le_of_ble_eq_true rfl, Nat.le_of_ble_eq_true rfl⟩)) (fun t5 => ?_)
  refine W.eq (g2 := F0 m 15 ls [.int t5]) rfl ?_
  refine lv_iload_n hx hb dX5_canWin_15 rfl (lv_at hl 3 rfl) ?_
  have hPc := hP.sub (ws' := []) [] rfl
  have hDc := hD.sub (ws' := []) [] (by decide) rfl
  refine W.callA (rf_cr (va_runSN (As := [.int 0]) (rest := [.int t5]) ⟨hx, hb, hml, hown, hts⟩ (c_X11_sizeOf l dC dI aC s.heap.size 0) (⟨va_cnB 1 hts (goodIn_sub (by decide +kernel) (by decide +kernel)) rfl rfl rfl (rf_nst hN 1 (q := (RX5, 33, yX11_sizeOf, "Transversary")) rfl) (hts (.initialized RX11) (by decide +kernel)) (by decide +kernel) ⟨Nat.le_of_ble_eq_true rfl, Nat.le_of_ble_eq_true rfl⟩, hts (.static yX11_sizeOf) (by decide +kernel), trivial⟩) (rf_ps hK hN hPc hDc) rfl rfl hl.1 rfl (lv_room (Nat.le_of_ble_eq_true rfl)) dX5_canWin_16 ⟨Nat.le_of_ble_eq_true rfl, Nat.le_of_ble_eq_true rfl⟩)) (fun t6 => ?_)
  refine W.eq (g2 := F0 m 19 ls [.int t6, .int t5]) rfl ?_
  refine lv_isub hx hb dX5_canWin_19 ?_
  refine lv_topi (fun t7 et7 => ?_)
  refine lv_istore (lv' := [(6, .int t7), (5, .int t4), (0, .ref h0), (1, .int 0), (2, .int 0), (3, .int 0), (4, .int 0)]) hx hb dX5_canWin_20 hl (by decide) rfl (fun ls hl => ?_)
  refine lv_iload hx hb dX5_canWin_22 (lv_at hl 1 rfl) ?_
  have h5 : t4 = 0 := by rw [et4, et3, et2, et1]; decide
  refine lv_if_eq (tgt := 32) hx hb dX5_canWin_24 (by decide) (fun _ => ?_) (fun c9 => absurd h5 c9)
  refine lv_iload hx hb dX5_canWin_32 (lv_at hl 6 rfl) ?_
  exact W.zret (v := 0) hx hb hr rfl (fun t ht hW => ⟨rfl, ht⟩) (fun q h => nomatch h) dX5_canWin_34

set_option maxHeartbeats 4000000 in
set_option maxRecDepth 100000 in
theorem c_X5_playBackwards (l : Launch) (dC : Nat → ClassId) (dI : Nat → Nat → Nat) (aC : Nat → ClassId) (sz : Nat) (h0 : Nat) (g1 g2 g3 g4 : Value) (wi : Nat) (wf : Nat → Int64) (pa : Nat) (pb pr : Value)  : Met l yX5_playBackwards wsX5_playBackwards ({ frames := 4, cells := 0, slots := 0, locals := 120 } : Room) (rf_Pc (dC, dI) aC [.ref h0, .ref pa, .int 0] [(h0, .inr (4, [g1, g2, g3, g4, .ref wi])), (wi, .inl (aC 2, 256, .inr (.inl wf))), (pa, .inr (1, [pb, pr, .int 0]))] sz) (va_Qv (fun (u : Nat → Int64) => True) (fun (u : Nat → Int64) t => va_P (dC, dI) rfCl [(h0, .inr (4, [g1, g2, g3, g4, .ref wi])), (wi, .inl (aC 2, 256, .inr (.inl u))), (pa, .inr (1, [pb, pr, .int 0]))] t.heap ∧ va_D (va_A [(h0, .inr (4, [g1, g2, g3, g4, .ref wi])), (wi, .inl (aC 2, 256, .inr (.inl wf))), (pa, .inr (1, [pb, pr, .int 0]))] sz) [(h0, .inr (4, [g1, g2, g3, g4, .ref wi])), (wi, .inl (aC 2, 256, .inr (.inl u))), (pa, .inr (1, [pb, pr, .int 0]))]) (va_A [(h0, .inr (4, [g1, g2, g3, g4, .ref wi])), (wi, .inl (aC 2, 256, .inr (.inl wf))), (pa, .inr (1, [pb, pr, .int 0]))] sz)) 0 0 (va_A [(h0, .inr (4, [g1, g2, g3, g4, .ref wi])), (wi, .inl (aC 2, 256, .inr (.inl wf))), (pa, .inr (1, [pb, pr, .int 0]))] sz) := by
  refine Met.ofW (cc := cX5_playBackwards) (maxL := 6) (ret := none) (by decide) rfl ?_
  intro p e s m args below meth c s₁ B hml hv
  obtain ⟨rfl, hsz, hP, hKN, hD0⟩ := hv
  obtain ⟨hK, hN⟩ := hKN
  have hx := B.exec
  have hb := B.bytes
  have hr := B.returns
  have hts := atoms_spec (ws := wsX5_playBackwards) B.pre
  have hown : s.vm.findClass RX5 = some m.cls := findClass_of_methodNamed B.named
  have hlocks := B.notSynchronized
  subst hsz
  have hD := hD0.self (sz := s.heap.size)
  generalize hAe : va_A [(h0, .inr (4, [g1, g2, g3, g4, .ref wi])), (wi, .inl (aC 2, 256, .inr (.inl wf))), (pa, .inr (1, [pb, pr, .int 0]))] s.heap.size = A at hD ⊢
  have hA : ∀ q : Nat, s.heap.size ≤ q → A q := fun q h => by rw [← hAe]; exact Or.inr h
  have hS : va_S A s.heap s.heap [] := va_S.rf
  have hP : va_P (dC, dI) rfCl [(h0, .inr (4, [g1, g2, g3, g4, .ref wi])), (wi, .inl (aC 2, 256, .inr (.inl wf))), (pa, .inr (1, [pb, pr, .int 0]))] s.heap := hP
  have hl := lv_entry ([.ref h0, .ref pa, .int 0]) (n := 6) (Nat.le_of_ble_eq_true rfl)
  rw [lg_entry_eq]
  generalize (lg_sl ([.ref h0, .ref pa, .int 0]) ++ List.replicate (6 - (lg_sl ([.ref h0, .ref pa, .int 0])).length) Slot.unset).toArray = ls at hl ⊢
  have hl : lv_has ls 6 [(0, .ref h0), (1, .ref pa), (2, .int 0)] := hl
  refine lv_iconst (v := 0) hx hb dX5_playBackwards_0 (by decide) ?_
  refine lv_istore_n (lv' := [(3, .int 0), (0, .ref h0), (1, .ref pa), (2, .int 0)]) hx hb dX5_playBackwards_1 rfl hl (by decide) rfl (fun ls hl => ?_)
  have loop : ∀ (n i : Nat) (x_loop : Int32) (wf1 : Nat → Int64), i ≤ 256 → 257 ≤ i + n → x_loop = nI i → ∀ (H : Heap) (locs : List Loc), va_P (dC, dI) rfCl [(h0, .inr (4, [g1, g2, g3, g4, .ref wi])), (wi, .inl (aC 2, 256, .inr (.inl wf1))), (pa, .inr (1, [pb, pr, .int 0]))] H → va_D A [(h0, .inr (4, [g1, g2, g3, g4, .ref wi])), (wi, .inl (aC 2, 256, .inr (.inl wf1))), (pa, .inr (1, [pb, pr, .int 0]))] → va_S A s.heap H locs → ∀ ls : Array Slot, lv_has ls 6 [(3, .int x_loop), (0, .ref h0), (1, .ref pa), (2, .int 0)] → W p l e (headSpec wsX5_playBackwards ({ frames := 4, cells := 0, slots := 0, locals := 120 } : Room)).room s m ([.ref h0, .ref pa, .int 0] : List Value).toArray below meth c H locs 0 0 (MQ below (va_Qv (fun (u : Nat → Int64) => True) (fun (u : Nat → Int64) t => va_P (dC, dI) rfCl [(h0, .inr (4, [g1, g2, g3, g4, .ref wi])), (wi, .inl (aC 2, 256, .inr (.inl u))), (pa, .inr (1, [pb, pr, .int 0]))] t.heap ∧ va_D A [(h0, .inr (4, [g1, g2, g3, g4, .ref wi])), (wi, .inl (aC 2, 256, .inr (.inl u))), (pa, .inr (1, [pb, pr, .int 0]))]) A) ([.ref h0, .ref pa, .int 0] : List Value).toArray s 0 0 A) (F0 m 2 ls []) := by
    intro n
    induction n with
    | zero =>
      intro i x_loop wf1 h1 h2
      exact absurd h2 (by omega)
    | succ n ih =>
      intro i x_loop wf1 hi hn ex H locs hP hD hS ls hl
      refine lv_iload_n hx hb dX5_playBackwards_2 rfl (lv_at hl 0 rfl) ?_
      refine lv_aload_n hx hb dX5_playBackwards_3 rfl (lv_at hl 1 rfl) ?_
      refine va_get (D := (dC, dI)) (ci := 4) (v := .ref wi) (C := RX5) (T := TX5) (N := 5) hx hb hts (by decide +kernel) hown hK hP 0 rfl rfl 4 (by decide) (hts (.fieldLink RX5 21 "Transversary$Rings" "wins" "[J") (by decide +kernel)) (fun _ h9 => h9) rfl dX5_playBackwards_4 ?_
      refine va_alen (v := 256) hx hb hK hP 1 2 rfl rfl rfl dX5_playBackwards_7 ?_
      by_cases hlt : i < 256
      · have hbr : ¬ (256 : Int32) ≤ x_loop := by rw [ex]; exact nI_ge hlt (by decide)
        refine lv_icmp_ge (tgt := 24) hx hb dX5_playBackwards_8 (by decide) (fun c9 => absurd c9 hbr) (fun _ => ?_)
        have h_in : vp_in x_loop 256 := by rw [ex]; exact vp_in_nI hlt (by decide)
        refine lv_aload_n hx hb dX5_playBackwards_11 rfl (lv_at hl 1 rfl) ?_
        refine va_get (D := (dC, dI)) (ci := 4) (v := .ref wi) (C := RX5) (T := TX5) (N := 5) hx hb hts (by decide +kernel) hown hK hP 0 rfl rfl 4 (by decide) (hts (.fieldLink RX5 21 "Transversary$Rings" "wins" "[J") (by decide +kernel)) (fun _ h9 => h9) rfl dX5_playBackwards_12 ?_
        refine lv_iload_n hx hb dX5_playBackwards_15 rfl (lv_at hl 0 rfl) ?_
        refine lv_lconst (v := 0) hx hb dX5_playBackwards_16 rfl ?_
        refine va_last hx hb hK hP hD hS 1 2 rfl rfl h_in dX5_playBackwards_17 (fun H locs hP hD hS => ?_)
        have hP : va_P (dC, dI) rfCl [(h0, .inr (4, [g1, g2, g3, g4, .ref wi])), (wi, .inl (aC 2, 256, .inr (.inl (vp_updL wf1 (x_loop).toNatClampNeg 0)))), (pa, .inr (1, [pb, pr, .int 0]))] H := hP
        have hD : va_D A [(h0, .inr (4, [g1, g2, g3, g4, .ref wi])), (wi, .inl (aC 2, 256, .inr (.inl (vp_updL wf1 (x_loop).toNatClampNeg 0)))), (pa, .inr (1, [pb, pr, .int 0]))] := hD
        generalize (vp_updL wf1 (x_loop).toNatClampNeg 0) = f2 at hP hD
        have hP : va_P (dC, dI) rfCl [(h0, .inr (4, [g1, g2, g3, g4, .ref wi])), (wi, .inl (aC 2, 256, .inr (.inl f2))), (pa, .inr (1, [pb, pr, .int 0]))] H := hP
        have hD : va_D A [(h0, .inr (4, [g1, g2, g3, g4, .ref wi])), (wi, .inl (aC 2, 256, .inr (.inl f2))), (pa, .inr (1, [pb, pr, .int 0]))] := hD
        obtain ⟨x_loop2, ex_loop2⟩ : ∃ y : Int32, y = x_loop + (1) := ⟨_, rfl⟩
        refine lv_iinc (v := x_loop2) (lv' := [(3, .int x_loop2), (0, .ref h0), (1, .ref pa), (2, .int 0)]) hx hb dX5_playBackwards_18 hl (k := 0) rfl (by rw [ex_loop2]; rfl) (by decide) rfl (fun ls hl => ?_)
        refine lv_goto (tgt := 2) hx hb dX5_playBackwards_21 (by decide) ?_
        exact ih (i + 1) x_loop2 f2 (by omega) (by omega) (by rw [ex_loop2, ex]; exact nI_1 i) H locs hP hD hS ls (lv_sub hl [0, 1, 2, 3] rfl)
      · have hbr : (256 : Int32) ≤ x_loop := by rw [ex, show i = 256 by omega]; decide
        refine lv_icmp_ge (tgt := 24) hx hb dX5_playBackwards_8 (by decide) (fun _ => ?_) (fun c9 => absurd hbr c9)
        refine lv_bipush (v := 127) hx hb dX5_playBackwards_24 (by decide) ?_
        refine lv_istore_n (lv' := [(3, .int 127), (0, .ref h0), (1, .ref pa), (2, .int 0)]) hx hb dX5_playBackwards_26 rfl hl (by decide) rfl (fun ls hl => ?_)
        have outer : ∀ (i : Nat) (x3 : Int32), i < 128 → x3 = nI i → ∀ (H : Heap) (locs : List Loc), va_P (dC, dI) rfCl [(h0, .inr (4, [g1, g2, g3, g4, .ref wi])), (wi, .inl (aC 2, 256, .inr (.inl wf1))), (pa, .inr (1, [pb, pr, .int 0]))] H → va_D A [(h0, .inr (4, [g1, g2, g3, g4, .ref wi])), (wi, .inl (aC 2, 256, .inr (.inl wf1))), (pa, .inr (1, [pb, pr, .int 0]))] → va_S A s.heap H locs → ∀ ls : Array Slot, lv_has ls 6 [(3, .int x3), (0, .ref h0), (1, .ref pa), (2, .int 0)] → W p l e (headSpec wsX5_playBackwards ({ frames := 4, cells := 0, slots := 0, locals := 120 } : Room)).room s m ([.ref h0, .ref pa, .int 0] : List Value).toArray below meth c H locs 0 0 (MQ below (va_Qv (fun (u : Nat → Int64) => True) (fun (u : Nat → Int64) t => va_P (dC, dI) rfCl [(h0, .inr (4, [g1, g2, g3, g4, .ref wi])), (wi, .inl (aC 2, 256, .inr (.inl u))), (pa, .inr (1, [pb, pr, .int 0]))] t.heap ∧ va_D A [(h0, .inr (4, [g1, g2, g3, g4, .ref wi])), (wi, .inl (aC 2, 256, .inr (.inl u))), (pa, .inr (1, [pb, pr, .int 0]))]) A) ([.ref h0, .ref pa, .int 0] : List Value).toArray s 0 0 A) (F0 m 27 ls []) := by
          intro i
          induction i with
          | zero =>
            intro x3 hi ex H locs hP hD hS ls hl
            have ex0 : x3 = 0 := ex
            subst ex0
            refine lv_iload_n hx hb dX5_playBackwards_27 rfl (lv_at hl 0 rfl) ?_
            refine lv_if_lt (tgt := 115) hx hb dX5_playBackwards_28 (by decide) (fun c9 => absurd c9 (by decide)) (fun _ => ?_)
            refine lv_iload_n hx hb dX5_playBackwards_31 rfl (lv_at hl 0 rfl) ?_
            refine lv_iload_n hx hb dX5_playBackwards_32 rfl (lv_at hl 3 rfl) ?_
            have hPc := hP.sub (ws' := []) [] rfl
            have hDc := hD.sub (ws' := []) [] (by decide) rfl
            refine W.callR (rf_cr (va_runSN (As := [.int 0, .int 0]) (rest := []) ⟨hx, hb, hml, hown, hts⟩ (c_X11_isIn l dC dI aC H.size 0 0 1 (by decide)) (⟨va_cnB 2 hts (goodIn_sub (by decide +kernel) (by decide +kernel)) rfl rfl rfl (rf_nst hN 2 (q := (RX5, 29, yX11_isIn, "Transversary")) rfl) (hts (.initialized RX11) (by decide +kernel)) (by decide +kernel) ⟨Nat.le_of_ble_eq_true rfl, Nat.le_of_ble_eq_true rfl⟩, hts (.static yX11_isIn) (by decide +kernel), trivial⟩) (rf_ps hK hN hPc hDc) rfl rfl hl.1 rfl (lv_room (Nat.le_of_ble_eq_true rfl)) dX5_playBackwards_33 ⟨Nat.le_of_ble_eq_true rfl, Nat.le_of_ble_eq_true rfl⟩)) ?_
            refine W.eq (g2 := F0 m 36 ls [.int 1]) rfl ?_
            refine lv_if_eq (tgt := 109) hx hb dX5_playBackwards_36 (by decide) (fun c9 => absurd c9 (by decide)) (fun _ => ?_)
            refine lv_aload_n hx hb dX5_playBackwards_39 rfl (lv_at hl 2 rfl) ?_
            refine lv_iload_n hx hb dX5_playBackwards_40 rfl (lv_at hl 0 rfl) ?_
            refine lv_iconst (v := 0) hx hb dX5_playBackwards_41 (by decide) ?_
            have hPc := hP.sub (ws' := [(pa, .inr (1, [pb, pr, .int 0]))]) [2] rfl
            have hDc := hD.sub (ws' := [(pa, .inr (1, [pb, pr, .int 0]))]) [2] (by decide) rfl
            refine W.callR (W.runV (As := [.int 0, .int 0]) (rest := []) ⟨hx, hb, hml, hown, hts⟩ (c_X7_hasWithin l dC dI aC H.size pa pb pr 0 0) (cwV 2 hts gX5_playBackwards_X7_hasWithin rfl rfl rfl (by decide +kernel) ⟨Nat.le_of_ble_eq_true rfl, Nat.le_of_ble_eq_true rfl⟩) (rf_pv hK hN hPc hDc (va_recv hK hP (ci := 1) (q0 := 2) rfl rfl)) rfl rfl hl.1 rfl (lv_room (Nat.le_of_ble_eq_true rfl)) dX5_playBackwards_42 ⟨Nat.le_of_ble_eq_true rfl, Nat.le_of_ble_eq_true rfl⟩) ?_
            refine W.eq (g2 := F0 m 45 ls [.int 0]) rfl ?_
            refine lv_istore (lv' := [(4, .int 0), (3, .int 0), (0, .ref h0), (1, .ref pa), (2, .int 0)]) hx hb dX5_playBackwards_45 hl (by decide) rfl (fun ls hl => ?_)
            refine lv_bipush (v := 127) hx hb dX5_playBackwards_47 (by decide) ?_
            refine lv_istore (lv' := [(5, .int 127), (4, .int 0), (3, .int 0), (0, .ref h0), (1, .ref pa), (2, .int 0)]) hx hb dX5_playBackwards_49 hl (by decide) rfl (fun ls hl => ?_)
            have inner : ∀ (j : Nat) (x5 : Int32), j < 128 → x5 = nI j → ∀ (H : Heap) (locs : List Loc), va_P (dC, dI) rfCl [(h0, .inr (4, [g1, g2, g3, g4, .ref wi])), (wi, .inl (aC 2, 256, .inr (.inl wf1))), (pa, .inr (1, [pb, pr, .int 0]))] H → va_D A [(h0, .inr (4, [g1, g2, g3, g4, .ref wi])), (wi, .inl (aC 2, 256, .inr (.inl wf1))), (pa, .inr (1, [pb, pr, .int 0]))] → va_S A s.heap H locs → ∀ ls : Array Slot, lv_has ls 6 [(5, .int x5), (4, .int 0), (3, .int 0), (0, .ref h0), (1, .ref pa), (2, .int 0)] → W p l e (headSpec wsX5_playBackwards ({ frames := 4, cells := 0, slots := 0, locals := 120 } : Room)).room s m ([.ref h0, .ref pa, .int 0] : List Value).toArray below meth c H locs 0 0 (MQ below (va_Qv (fun (u : Nat → Int64) => True) (fun (u : Nat → Int64) t => va_P (dC, dI) rfCl [(h0, .inr (4, [g1, g2, g3, g4, .ref wi])), (wi, .inl (aC 2, 256, .inr (.inl u))), (pa, .inr (1, [pb, pr, .int 0]))] t.heap ∧ va_D A [(h0, .inr (4, [g1, g2, g3, g4, .ref wi])), (wi, .inl (aC 2, 256, .inr (.inl u))), (pa, .inr (1, [pb, pr, .int 0]))]) A) ([.ref h0, .ref pa, .int 0] : List Value).toArray s 0 0 A) (F0 m 51 ls []) := by
              intro j
              induction j with
              | zero =>
                intro x5 hj ey H locs hP hD hS ls hl
                have ey0 : x5 = 0 := ey
                subst ey0
                refine lv_iload hx hb dX5_playBackwards_51 (lv_at hl 0 rfl) ?_
                refine lv_if_lt (tgt := 109) hx hb dX5_playBackwards_53 (by decide) (fun c9 => absurd c9 (by decide)) (fun _ => ?_)
                refine lv_iload hx hb dX5_playBackwards_56 (lv_at hl 0 rfl) ?_
                refine lv_iload_n hx hb dX5_playBackwards_58 rfl (lv_at hl 5 rfl) ?_
                refine lv_iload_n hx hb dX5_playBackwards_59 rfl (lv_at hl 2 rfl) ?_
                refine lv_iconst (v := -1) hx hb dX5_playBackwards_60 (by decide) ?_
                refine lv_ixor hx hb dX5_playBackwards_61 ?_
                refine lv_topi (fun t1 et1 => ?_)
                refine lv_iand hx hb dX5_playBackwards_62 ?_
                refine lv_topi (fun t2 et2 => ?_)
                have hPc := hP.sub (ws' := []) [] rfl
                have hDc := hD.sub (ws' := []) [] (by decide) rfl
                refine W.callR (rf_cr (va_runSN (As := [.int 0, .int t2]) (rest := []) ⟨hx, hb, hml, hown, hts⟩ (c_X11_isIn l dC dI aC H.size 0 t2 1 (by rw [et2, et1]; decide)) (⟨va_cnB 2 hts (goodIn_sub (by decide +kernel) (by decide +kernel)) rfl rfl rfl (rf_nst hN 2 (q := (RX5, 29, yX11_isIn, "Transversary")) rfl) (hts (.initialized RX11) (by decide +kernel)) (by decide +kernel) ⟨Nat.le_of_ble_eq_true rfl, Nat.le_of_ble_eq_true rfl⟩, hts (.static yX11_isIn) (by decide +kernel), trivial⟩) (rf_ps hK hN hPc hDc) rfl rfl hl.1 rfl (lv_room (Nat.le_of_ble_eq_true rfl)) dX5_playBackwards_63 ⟨Nat.le_of_ble_eq_true rfl, Nat.le_of_ble_eq_true rfl⟩)) ?_
                refine W.eq (g2 := F0 m 66 ls [.int 1]) rfl ?_
                refine lv_if_eq (tgt := 103) hx hb dX5_playBackwards_66 (by decide) (fun c9 => absurd c9 (by decide)) (fun _ => ?_)
                refine lv_aload_n hx hb dX5_playBackwards_69 rfl (lv_at hl 3 rfl) ?_
                refine lv_iload_n hx hb dX5_playBackwards_70 rfl (lv_at hl 2 rfl) ?_
                refine lv_iload hx hb dX5_playBackwards_71 (lv_at hl 0 rfl) ?_
                refine lv_iload_n hx hb dX5_playBackwards_73 rfl (lv_at hl 5 rfl) ?_
                refine lv_iload hx hb dX5_playBackwards_74 (lv_at hl 1 rfl) ?_
                have hPc := hP.sub (ws' := []) [] rfl
                have hDc := hD.sub (ws' := []) [] (by decide) rfl
                refine W.callR (W.runV (As := [.int 0, .int 0, .int 0, .int 0]) (rest := []) ⟨hx, hb, hml, hown, hts⟩ (c_X5_canWin l dC dI aC H.size h0) (cwV 4 hts gX5_playBackwards_X5_canWin rfl rfl rfl (by decide +kernel) ⟨Nat.le_of_ble_eq_true rfl, Nat.le_of_ble_eq_true rfl⟩) (rf_pv hK hN hPc hDc (va_recv hK hP (ci := 4) (q0 := 0) rfl rfl)) rfl rfl hl.1 rfl (lv_room (Nat.le_of_ble_eq_true rfl)) dX5_playBackwards_76 ⟨Nat.le_of_ble_eq_true rfl, Nat.le_of_ble_eq_true rfl⟩) ?_
                refine W.eq (g2 := F0 m 79 ls [.int 0]) rfl ?_
                refine lv_if_eq (tgt := 103) hx hb dX5_playBackwards_79 (by decide) (fun _ => ?_) (fun c9 => absurd rfl c9)
                obtain ⟨y5, ey5⟩ : ∃ y : Int32, y = 0 + (-1) := ⟨_, rfl⟩
                refine lv_iinc (v := y5) (lv' := [(5, .int y5), (4, .int 0), (3, .int 0), (0, .ref h0), (1, .ref pa), (2, .int 0)]) hx hb dX5_playBackwards_103 hl (k := 0) rfl (by rw [ey5]; rfl) (by decide) rfl (fun ls hl => ?_)
                refine lv_goto (tgt := 51) hx hb dX5_playBackwards_106 (by decide) ?_
                have ey9 : y5 = -1 := by rw [ey5]; decide
                subst ey9
                refine lv_iload hx hb dX5_playBackwards_51 (lv_at hl 0 rfl) ?_
                refine lv_if_lt (tgt := 109) hx hb dX5_playBackwards_53 (by decide) (fun _ => ?_) (fun c9 => absurd (by decide) c9)
                obtain ⟨y3, ey3⟩ : ∃ y : Int32, y = 0 + (-1) := ⟨_, rfl⟩
                refine lv_iinc (v := y3) (lv' := [(3, .int y3), (5, .int (-1)), (4, .int 0), (0, .ref h0), (1, .ref pa), (2, .int 0)]) hx hb dX5_playBackwards_109 hl (k := 2) rfl (by rw [ey3]; rfl) (by decide) rfl (fun ls hl => ?_)
                refine lv_goto (tgt := 27) hx hb dX5_playBackwards_112 (by decide) ?_
                have ey3b : y3 = -1 := by rw [ey3]; decide
                subst ey3b
                refine lv_iload_n hx hb dX5_playBackwards_27 rfl (lv_at hl 0 rfl) ?_
                refine lv_if_lt (tgt := 115) hx hb dX5_playBackwards_28 (by decide) (fun _ => ?_) (fun c9 => absurd (by decide) c9)
                have hP9 := hP.sub (ws' := [(h0, .inr (4, [g1, g2, g3, g4, .ref wi])), (wi, .inl (aC 2, 256, .inr (.inl wf1))), (pa, .inr (1, [pb, pr, .int 0]))]) [0, 1, 2] rfl
                have hD9 := hD.sub (ws' := [(h0, .inr (4, [g1, g2, g3, g4, .ref wi])), (wi, .inl (aC 2, 256, .inr (.inl wf1))), (pa, .inr (1, [pb, pr, .int 0]))]) [0, 1, 2] (by decide) rfl
                refine W.widen (k := 0) (n := 0) (Nat.le_of_ble_eq_true rfl) (Nat.le_of_ble_eq_true rfl) ?_
                exact W.vret hx hb hr (fun t ht hW => ⟨⟨wf1, rfl, trivial, by rw [ht]; exact hP9, hD9⟩, hS.F ht⟩) hS.2.2 dX5_playBackwards_115
              | succ j ihj =>
                intro x5 hj ey H locs hP hD hS ls hl
                have hn5 : ¬ x5 < 0 := by rw [ey]; exact nI_pos (by omega)
                refine lv_iload hx hb dX5_playBackwards_51 (lv_at hl 0 rfl) ?_
                refine lv_if_lt (tgt := 109) hx hb dX5_playBackwards_53 (by decide) (fun c9 => absurd c9 hn5) (fun _ => ?_)
                refine lv_iload hx hb dX5_playBackwards_56 (lv_at hl 0 rfl) ?_
                refine lv_iload_n hx hb dX5_playBackwards_58 rfl (lv_at hl 5 rfl) ?_
                refine lv_iload_n hx hb dX5_playBackwards_59 rfl (lv_at hl 2 rfl) ?_
                refine lv_iconst (v := -1) hx hb dX5_playBackwards_60 (by decide) ?_
                refine lv_ixor hx hb dX5_playBackwards_61 ?_
                refine lv_topi (fun t3 et3 => ?_)
                refine lv_iand hx hb dX5_playBackwards_62 ?_
                refine lv_topi (fun t4 et4 => ?_)
                have hPc := hP.sub (ws' := []) [] rfl
                have hDc := hD.sub (ws' := []) [] (by decide) rfl
                refine W.callR (rf_cr (va_runSN (As := [.int x5, .int t4]) (rest := []) ⟨hx, hb, hml, hown, hts⟩ (c_X11_isIn l dC dI aC H.size x5 t4 0 (by rw [et4, et3, ey]; exact rf_in1 j (by omega))) (⟨va_cnB 2 hts (goodIn_sub (by decide +kernel) (by decide +kernel)) rfl rfl rfl (rf_nst hN 2 (q := (RX5, 29, yX11_isIn, "Transversary")) rfl) (hts (.initialized RX11) (by decide +kernel)) (by decide +kernel) ⟨Nat.le_of_ble_eq_true rfl, Nat.le_of_ble_eq_true rfl⟩, hts (.static yX11_isIn) (by decide +kernel), trivial⟩) (rf_ps hK hN hPc hDc) rfl rfl hl.1 rfl (lv_room (Nat.le_of_ble_eq_true rfl)) dX5_playBackwards_63 ⟨Nat.le_of_ble_eq_true rfl, Nat.le_of_ble_eq_true rfl⟩)) ?_
                refine W.eq (g2 := F0 m 66 ls [.int 0]) rfl ?_
                refine lv_if_eq (tgt := 103) hx hb dX5_playBackwards_66 (by decide) (fun _ => ?_) (fun c9 => absurd rfl c9)
                obtain ⟨y5, ey5⟩ : ∃ y : Int32, y = x5 + (-1) := ⟨_, rfl⟩
                refine lv_iinc (v := y5) (lv' := [(5, .int y5), (4, .int 0), (3, .int 0), (0, .ref h0), (1, .ref pa), (2, .int 0)]) hx hb dX5_playBackwards_103 hl (k := 0) rfl (by rw [ey5]; rfl) (by decide) rfl (fun ls hl => ?_)
                refine lv_goto (tgt := 51) hx hb dX5_playBackwards_106 (by decide) ?_
                exact ihj y5 (by omega) (by rw [ey5, ey]; exact rf_pred j) H locs hP hD hS ls (lv_sub hl [0, 1, 2, 3, 4, 5] rfl)
            exact inner 127 127 (by decide) rfl H _ hP hD hS ls (lv_sub hl [0, 1, 2, 3, 4, 5] rfl)
          | succ i ihi =>
            intro x3 hi ex H locs hP hD hS ls hl
            have hn3 : ¬ x3 < 0 := by rw [ex]; exact nI_pos (by omega)
            refine lv_iload_n hx hb dX5_playBackwards_27 rfl (lv_at hl 0 rfl) ?_
            refine lv_if_lt (tgt := 115) hx hb dX5_playBackwards_28 (by decide) (fun c9 => absurd c9 hn3) (fun _ => ?_)
            refine lv_iload_n hx hb dX5_playBackwards_31 rfl (lv_at hl 0 rfl) ?_
            refine lv_iload_n hx hb dX5_playBackwards_32 rfl (lv_at hl 3 rfl) ?_
            have hPc := hP.sub (ws' := []) [] rfl
            have hDc := hD.sub (ws' := []) [] (by decide) rfl
            refine W.callR (rf_cr (va_runSN (As := [.int x3, .int 0]) (rest := []) ⟨hx, hb, hml, hown, hts⟩ (c_X11_isIn l dC dI aC H.size x3 0 0 (by rw [ex]; exact rf_in0 i (by omega))) (⟨va_cnB 2 hts (goodIn_sub (by decide +kernel) (by decide +kernel)) rfl rfl rfl (rf_nst hN 2 (q := (RX5, 29, yX11_isIn, "Transversary")) rfl) (hts (.initialized RX11) (by decide +kernel)) (by decide +kernel) ⟨Nat.le_of_ble_eq_true rfl, Nat.le_of_ble_eq_true rfl⟩, hts (.static yX11_isIn) (by decide +kernel), trivial⟩) (rf_ps hK hN hPc hDc) rfl rfl hl.1 rfl (lv_room (Nat.le_of_ble_eq_true rfl)) dX5_playBackwards_33 ⟨Nat.le_of_ble_eq_true rfl, Nat.le_of_ble_eq_true rfl⟩)) ?_
            refine W.eq (g2 := F0 m 36 ls [.int 0]) rfl ?_
            refine lv_if_eq (tgt := 109) hx hb dX5_playBackwards_36 (by decide) (fun _ => ?_) (fun c9 => absurd rfl c9)
            obtain ⟨y3, ey3⟩ : ∃ y : Int32, y = x3 + (-1) := ⟨_, rfl⟩
            refine lv_iinc (v := y3) (lv' := [(3, .int y3), (0, .ref h0), (1, .ref pa), (2, .int 0)]) hx hb dX5_playBackwards_109 hl (k := 0) rfl (by rw [ey3]; rfl) (by decide) rfl (fun ls hl => ?_)
            refine lv_goto (tgt := 27) hx hb dX5_playBackwards_112 (by decide) ?_
            exact ihi y3 (by omega) (by rw [ey3, ex]; exact rf_pred i) H locs hP hD hS ls (lv_sub hl [0, 1, 2, 3] rfl)
        exact outer 127 127 (by decide) rfl H _ hP hD hS ls (lv_sub hl [0, 1, 2, 3] rfl)
  exact loop 257 0 0 wf (by decide) (by decide) rfl s.heap [] hP hD hS ls (lv_sub hl [0, 1, 2, 3] rfl)

set_option maxHeartbeats 4000000 in
set_option maxRecDepth 100000 in
theorem c_X5_winningPoint (l : Launch) (dC : Nat → ClassId) (dI : Nat → Nat → Nat) (aC : Nat → ClassId) (sz : Nat) (h0 : Nat) (g1 g2 g3 g4 : Value) (wi : Nat) (wf : Nat → Int64) (pa : Nat) (pb pr : Value)  : Met l yX5_winningPoint wsX5_winningPoint ({ frames := 5, cells := 0, slots := 0, locals := 160 } : Room) (rf_Pc (dC, dI) aC [.ref h0, .ref pa, .int 0] [(h0, .inr (4, [g1, g2, g3, g4, .ref wi])), (wi, .inl (aC 2, 256, .inr (.inl wf))), (pa, .inr (1, [pb, pr, .int 0]))] sz) (va_Qi (fun (r : Int32) (u : Nat → Int64) => True) (fun (u : Nat → Int64) t => va_P (dC, dI) rfCl [(h0, .inr (4, [g1, g2, g3, g4, .ref wi])), (wi, .inl (aC 2, 256, .inr (.inl u))), (pa, .inr (1, [pb, pr, .int 0]))] t.heap ∧ va_D (va_A [(h0, .inr (4, [g1, g2, g3, g4, .ref wi])), (wi, .inl (aC 2, 256, .inr (.inl wf))), (pa, .inr (1, [pb, pr, .int 0]))] sz) [(h0, .inr (4, [g1, g2, g3, g4, .ref wi])), (wi, .inl (aC 2, 256, .inr (.inl u))), (pa, .inr (1, [pb, pr, .int 0]))]) (va_A [(h0, .inr (4, [g1, g2, g3, g4, .ref wi])), (wi, .inl (aC 2, 256, .inr (.inl wf))), (pa, .inr (1, [pb, pr, .int 0]))] sz)) 0 0 (va_A [(h0, .inr (4, [g1, g2, g3, g4, .ref wi])), (wi, .inl (aC 2, 256, .inr (.inl wf))), (pa, .inr (1, [pb, pr, .int 0]))] sz) := by
  refine Met.ofW (cc := cX5_winningPoint) (maxL := 4) (ret := (some .int)) (by decide) rfl ?_
  intro p e s m args below meth c s₁ B hml hv
  obtain ⟨rfl, hsz, hP, hKN, hD0⟩ := hv
  obtain ⟨hK, hN⟩ := hKN
  have hx := B.exec
  have hb := B.bytes
  have hr := B.returns
  have hts := atoms_spec (ws := wsX5_winningPoint) B.pre
  have hown : s.vm.findClass RX5 = some m.cls := findClass_of_methodNamed B.named
  have hlocks := B.notSynchronized
  subst hsz
  have hD := hD0.self (sz := s.heap.size)
  generalize hAe : va_A [(h0, .inr (4, [g1, g2, g3, g4, .ref wi])), (wi, .inl (aC 2, 256, .inr (.inl wf))), (pa, .inr (1, [pb, pr, .int 0]))] s.heap.size = A at hD ⊢
  have hA : ∀ q : Nat, s.heap.size ≤ q → A q := fun q h => by rw [← hAe]; exact Or.inr h
  have hS : va_S A s.heap s.heap [] := va_S.rf
  have hP : va_P (dC, dI) rfCl [(h0, .inr (4, [g1, g2, g3, g4, .ref wi])), (wi, .inl (aC 2, 256, .inr (.inl wf))), (pa, .inr (1, [pb, pr, .int 0]))] s.heap := hP
  have hl := lv_entry ([.ref h0, .ref pa, .int 0]) (n := 4) (Nat.le_of_ble_eq_true rfl)
  rw [lg_entry_eq]
  generalize (lg_sl ([.ref h0, .ref pa, .int 0]) ++ List.replicate (4 - (lg_sl ([.ref h0, .ref pa, .int 0])).length) Slot.unset).toArray = ls at hl ⊢
  have hl : lv_has ls 4 [(0, .ref h0), (1, .ref pa), (2, .int 0)] := hl
  refine lv_aload_n hx hb dX5_winningPoint_0 rfl (lv_at hl 0 rfl) ?_
  refine lv_aload_n hx hb dX5_winningPoint_1 rfl (lv_at hl 1 rfl) ?_
  refine lv_iload_n hx hb dX5_winningPoint_2 rfl (lv_at hl 2 rfl) ?_
  have hPc := hP.sub (ws' := [(h0, .inr (4, [g1, g2, g3, g4, .ref wi])), (wi, .inl (aC 2, 256, .inr (.inl wf))), (pa, .inr (1, [pb, pr, .int 0]))]) [0, 1, 2] rfl
  have hDc := hD.sub (ws' := [(h0, .inr (4, [g1, g2, g3, g4, .ref wi])), (wi, .inl (aC 2, 256, .inr (.inl wf))), (pa, .inr (1, [pb, pr, .int 0]))]) [0, 1, 2] (by decide) rfl
  have hFc := va_free (wc := [(h0, .inr (4, [g1, g2, g3, g4, .ref wi])), (wi, .inl (aC 2, 256, .inr (.inl wf))), (pa, .inr (1, [pb, pr, .int 0]))]) hD hS hA [0, 1, 2] rfl
  refine va_callv (va_runV (As := [.ref pa, .int 0]) (rest := []) ⟨hx, hb, hml, hown, hts⟩ (c_X5_playBackwards l dC dI aC s.heap.size h0 g1 g2 g3 g4 wi wf pa pb pr) (cwV 2 hts gX5_winningPoint_X5_playBackwards rfl rfl rfl (by decide +kernel) ⟨Nat.le_of_ble_eq_true rfl, Nat.le_of_ble_eq_true rfl⟩) (rf_pv hK hN hPc hDc (va_recv hK hP (ci := 4) (q0 := 0) rfl rfl)) rfl rfl hl.1 rfl (lv_room (Nat.le_of_ble_eq_true rfl)) dX5_winningPoint_3 ⟨Nat.le_of_ble_eq_true rfl, Nat.le_of_ble_eq_true rfl⟩) hS (fun q _ h => hFc q h) hFc (fun u1 t H1 locs ht hvm hwu1 hB hz1 hk1 hS => ?_)
  obtain ⟨hP1, hD1⟩ := hB
  rw [ht] at hP1
  try dsimp only at hwu1 hP1 hD1
  obtain ⟨hP, hD⟩ := va_join (wr := []) (w1 := [(h0, .inr (4, [g1, g2, g3, g4, .ref wi])), (wi, .inl (aC 2, 256, .inr (.inl u1))), (pa, .inr (1, [pb, pr, .int 0]))]) hP hD [0, 1, 2] [] rfl rfl (by decide) (by decide) hk1 hFc hP1 hD1
  clear hP1 hD1 hPc hDc hFc
  generalize H1 = H at hP hS ⊢
  have hP : va_P (dC, dI) rfCl [(h0, .inr (4, [g1, g2, g3, g4, .ref wi])), (wi, .inl (aC 2, 256, .inr (.inl u1))), (pa, .inr (1, [pb, pr, .int 0]))] H := hP
  have hD : va_D A [(h0, .inr (4, [g1, g2, g3, g4, .ref wi])), (wi, .inl (aC 2, 256, .inr (.inl u1))), (pa, .inr (1, [pb, pr, .int 0]))] := hD
  refine W.widen (k := 0) (n := 0) (Nat.le_of_ble_eq_true rfl) (Nat.le_of_ble_eq_true rfl) ?_
  refine lv_iconst (v := 0) hx hb dX5_winningPoint_6 (by decide) ?_
  refine lv_istore_n (lv' := [(3, .int 0), (0, .ref h0), (1, .ref pa), (2, .int 0)]) hx hb dX5_winningPoint_7 rfl hl (by decide) rfl (fun ls hl => ?_)
  have loop : ∀ (n i : Nat) (x_loop : Int32), i ≤ 7 → 8 ≤ i + n → x_loop = nI i → ∀ (H : Heap) (locs : List Loc), va_P (dC, dI) rfCl [(h0, .inr (4, [g1, g2, g3, g4, .ref wi])), (wi, .inl (aC 2, 256, .inr (.inl u1))), (pa, .inr (1, [pb, pr, .int 0]))] H → va_D A [(h0, .inr (4, [g1, g2, g3, g4, .ref wi])), (wi, .inl (aC 2, 256, .inr (.inl u1))), (pa, .inr (1, [pb, pr, .int 0]))] → va_S A s.heap H locs → ∀ ls : Array Slot, lv_has ls 4 [(3, .int x_loop), (0, .ref h0), (1, .ref pa), (2, .int 0)] → W p l e (headSpec wsX5_winningPoint ({ frames := 5, cells := 0, slots := 0, locals := 160 } : Room)).room s m ([.ref h0, .ref pa, .int 0] : List Value).toArray below meth c H locs 0 0 (MQ below (va_Qi (fun (r : Int32) (u : Nat → Int64) => True) (fun (u : Nat → Int64) t => va_P (dC, dI) rfCl [(h0, .inr (4, [g1, g2, g3, g4, .ref wi])), (wi, .inl (aC 2, 256, .inr (.inl u))), (pa, .inr (1, [pb, pr, .int 0]))] t.heap ∧ va_D A [(h0, .inr (4, [g1, g2, g3, g4, .ref wi])), (wi, .inl (aC 2, 256, .inr (.inl u))), (pa, .inr (1, [pb, pr, .int 0]))]) A) ([.ref h0, .ref pa, .int 0] : List Value).toArray s 0 0 A) (F0 m 8 ls []) := by
    intro n
    induction n with
    | zero =>
      intro i x_loop h1 h2
      exact absurd h2 (by omega)
    | succ n ih =>
      intro i x_loop hi hn ex H locs hP hD hS ls hl
      refine lv_iload_n hx hb dX5_winningPoint_8 rfl (lv_at hl 0 rfl) ?_
      refine lv_bipush (v := 7) hx hb dX5_winningPoint_9 (by decide) ?_
      by_cases hlt : i < 7
      · have hbr : ¬ (7 : Int32) ≤ x_loop := by rw [ex]; exact nI_ge hlt (by decide)
        refine lv_icmp_ge (tgt := 41) hx hb dX5_winningPoint_11 (by decide) (fun c9 => absurd c9 hbr) (fun _ => ?_)
        have h_in : vp_in x_loop 7 := by rw [ex]; exact vp_in_nI hlt (by decide)
        refine lv_iload_n hx hb dX5_winningPoint_14 rfl (lv_at hl 3 rfl) ?_
        refine lv_iconst (v := 1) hx hb dX5_winningPoint_15 (by decide) ?_
        refine lv_iload_n hx hb dX5_winningPoint_16 rfl (lv_at hl 0 rfl) ?_
        refine lv_ishl hx hb dX5_winningPoint_17 ?_
        refine lv_topi (fun t3 et3 => ?_)
        refine lv_iand hx hb dX5_winningPoint_18 ?_
        refine lv_topi (fun t4 et4 => ?_)
        have h0z : t4 = 0 := by rw [et4]; exact Int32.zero_and
        refine lv_if_eq (tgt := 35) hx hb dX5_winningPoint_19 (by decide) (fun _ => ?_) (fun c9 => absurd h0z c9)
        obtain ⟨x_loop2, ex_loop2⟩ : ∃ y : Int32, y = x_loop + (1) := ⟨_, rfl⟩
        refine lv_iinc (v := x_loop2) (lv' := [(3, .int x_loop2), (0, .ref h0), (1, .ref pa), (2, .int 0)]) hx hb dX5_winningPoint_35 hl (k := 0) rfl (by rw [ex_loop2]; rfl) (by decide) rfl (fun ls hl => ?_)
        refine lv_goto (tgt := 8) hx hb dX5_winningPoint_38 (by decide) ?_
        exact ih (i + 1) x_loop2 (by omega) (by omega) (by rw [ex_loop2, ex]; exact nI_1 i) H locs hP hD hS ls (lv_sub hl [0, 1, 2, 3] rfl)
      · have hbr : (7 : Int32) ≤ x_loop := by rw [ex, show i = 7 by omega]; decide
        refine lv_icmp_ge (tgt := 41) hx hb dX5_winningPoint_11 (by decide) (fun _ => ?_) (fun c9 => absurd hbr c9)
        refine lv_iconst (v := -1) hx hb dX5_winningPoint_41 (by decide) ?_
        have hP9 := hP.sub (ws' := [(h0, .inr (4, [g1, g2, g3, g4, .ref wi])), (wi, .inl (aC 2, 256, .inr (.inl u1))), (pa, .inr (1, [pb, pr, .int 0]))]) [0, 1, 2] rfl
        have hD9 := hD.sub (ws' := [(h0, .inr (4, [g1, g2, g3, g4, .ref wi])), (wi, .inl (aC 2, 256, .inr (.inl u1))), (pa, .inr (1, [pb, pr, .int 0]))]) [0, 1, 2] (by decide) rfl
        refine W.widen (k := 0) (n := 0) (Nat.le_of_ble_eq_true rfl) (Nat.le_of_ble_eq_true rfl) ?_
        exact W.iret (v := (-1)) hx hb hr (fun t ht hW => ⟨⟨(-1), u1, rfl, trivial, by rw [ht]; exact hP9, hD9⟩, hS.F ht⟩) hS.2.2 dX5_winningPoint_42
  exact loop 8 0 0 (by decide) (by decide) rfl H _ hP hD hS ls (lv_sub hl [0, 1, 2, 3] rfl)

set_option maxHeartbeats 4000000 in
set_option maxRecDepth 100000 in
theorem c_X11_game (l : Launch) (dC : Nat → ClassId) (dI : Nat → Nat → Nat) (aC : Nat → ClassId) (sz : Nat) (h0 pt fa pa md rg mk : Nat) (o1 o2 o3 o4 o5 o6 o7 o8 : Value) (ff : Nat → Option Nat) (s0 : Nat) (b0 r0 w : Value) (mny : Int32) (k1 k2 : Value) (pb : Nat) (pr : Value) (pf : Nat → Int32) (pm : Int32) (g1 g2 g3 g4 : Value) (wi : Nat) (wf : Nat → Int64) (hf : ff 0 = some s0) : Met l yX11_game wsX11_game ({ frames := 6, cells := 0, slots := 0, locals := 200 } : Room) (rf_Pc (dC, dI) aC [.ref h0, .int 0] [(h0, .inr (11, [.ref pt, .ref fa, .int 1, .ref pa, o1, .ref md, o2, o3, .ref rg, o4, .ref mk, o5, o6, o7, o8])), (fa, .inl (aC 4, 5, .inr (.inr (.inr (.inr ff))))), (s0, .inr (1, [b0, r0, .int 0])), (pt, .inr (0, [w, .int mny, .int 0])), (mk, .inr (6, [k1, k2])), (pa, .inr (1, [.ref pb, pr, .int pm])), (pb, .inl (aC 0, 128, .inl pf)), (rg, .inr (4, [g1, g2, g3, g4, .ref wi])), (wi, .inl (aC 2, 256, .inr (.inl wf)))] sz) (va_Qi (fun (r : Int32) (u : (Nat → Int32) × (Nat → Int64)) => True) (fun (u : (Nat → Int32) × (Nat → Int64)) t => va_P (dC, dI) rfCl [(h0, .inr (11, [.ref pt, .ref fa, .int 1, .ref pa, o1, .ref md, o2, o3, .ref rg, o4, .ref mk, o5, o6, o7, o8])), (fa, .inl (aC 4, 5, .inr (.inr (.inr (.inr ff))))), (s0, .inr (1, [b0, r0, .int 0])), (pt, .inr (0, [w, .int mny, .int 0])), (mk, .inr (6, [k1, k2])), (pa, .inr (1, [.ref pb, pr, .int 0])), (pb, .inl (aC 0, 128, .inl u.1)), (rg, .inr (4, [g1, g2, g3, g4, .ref wi])), (wi, .inl (aC 2, 256, .inr (.inl u.2)))] t.heap ∧ va_D (va_A [(h0, .inr (11, [.ref pt, .ref fa, .int 1, .ref pa, o1, .ref md, o2, o3, .ref rg, o4, .ref mk, o5, o6, o7, o8])), (fa, .inl (aC 4, 5, .inr (.inr (.inr (.inr ff))))), (s0, .inr (1, [b0, r0, .int 0])), (pt, .inr (0, [w, .int mny, .int 0])), (mk, .inr (6, [k1, k2])), (pa, .inr (1, [.ref pb, pr, .int pm])), (pb, .inl (aC 0, 128, .inl pf)), (rg, .inr (4, [g1, g2, g3, g4, .ref wi])), (wi, .inl (aC 2, 256, .inr (.inl wf)))] sz) [(h0, .inr (11, [.ref pt, .ref fa, .int 1, .ref pa, o1, .ref md, o2, o3, .ref rg, o4, .ref mk, o5, o6, o7, o8])), (fa, .inl (aC 4, 5, .inr (.inr (.inr (.inr ff))))), (s0, .inr (1, [b0, r0, .int 0])), (pt, .inr (0, [w, .int mny, .int 0])), (mk, .inr (6, [k1, k2])), (pa, .inr (1, [.ref pb, pr, .int 0])), (pb, .inl (aC 0, 128, .inl u.1)), (rg, .inr (4, [g1, g2, g3, g4, .ref wi])), (wi, .inl (aC 2, 256, .inr (.inl u.2)))]) (va_A [(h0, .inr (11, [.ref pt, .ref fa, .int 1, .ref pa, o1, .ref md, o2, o3, .ref rg, o4, .ref mk, o5, o6, o7, o8])), (fa, .inl (aC 4, 5, .inr (.inr (.inr (.inr ff))))), (s0, .inr (1, [b0, r0, .int 0])), (pt, .inr (0, [w, .int mny, .int 0])), (mk, .inr (6, [k1, k2])), (pa, .inr (1, [.ref pb, pr, .int pm])), (pb, .inl (aC 0, 128, .inl pf)), (rg, .inr (4, [g1, g2, g3, g4, .ref wi])), (wi, .inl (aC 2, 256, .inr (.inl wf)))] sz)) 0 0 (va_A [(h0, .inr (11, [.ref pt, .ref fa, .int 1, .ref pa, o1, .ref md, o2, o3, .ref rg, o4, .ref mk, o5, o6, o7, o8])), (fa, .inl (aC 4, 5, .inr (.inr (.inr (.inr ff))))), (s0, .inr (1, [b0, r0, .int 0])), (pt, .inr (0, [w, .int mny, .int 0])), (mk, .inr (6, [k1, k2])), (pa, .inr (1, [.ref pb, pr, .int pm])), (pb, .inl (aC 0, 128, .inl pf)), (rg, .inr (4, [g1, g2, g3, g4, .ref wi])), (wi, .inl (aC 2, 256, .inr (.inl wf)))] sz) := by
  refine Met.ofW (cc := cX11_game) (maxL := 2) (ret := (some .int)) (by decide) rfl ?_
  intro p e s m args below meth c s₁ B hml hv
  obtain ⟨rfl, hsz, hP, hKN, hD0⟩ := hv
  obtain ⟨hK, hN⟩ := hKN
  have hx := B.exec
  have hb := B.bytes
  have hr := B.returns
  have hts := atoms_spec (ws := wsX11_game) B.pre
  have hown : s.vm.findClass RX11 = some m.cls := findClass_of_methodNamed B.named
  have hlocks := B.notSynchronized
  subst hsz
  have hD := hD0.self (sz := s.heap.size)
  generalize hAe : va_A [(h0, .inr (11, [.ref pt, .ref fa, .int 1, .ref pa, o1, .ref md, o2, o3, .ref rg, o4, .ref mk, o5, o6, o7, o8])), (fa, .inl (aC 4, 5, .inr (.inr (.inr (.inr ff))))), (s0, .inr (1, [b0, r0, .int 0])), (pt, .inr (0, [w, .int mny, .int 0])), (mk, .inr (6, [k1, k2])), (pa, .inr (1, [.ref pb, pr, .int pm])), (pb, .inl (aC 0, 128, .inl pf)), (rg, .inr (4, [g1, g2, g3, g4, .ref wi])), (wi, .inl (aC 2, 256, .inr (.inl wf)))] s.heap.size = A at hD ⊢
  have hA : ∀ q : Nat, s.heap.size ≤ q → A q := fun q h => by rw [← hAe]; exact Or.inr h
  have hS : va_S A s.heap s.heap [] := va_S.rf
  have hP : va_P (dC, dI) rfCl [(h0, .inr (11, [.ref pt, .ref fa, .int 1, .ref pa, o1, .ref md, o2, o3, .ref rg, o4, .ref mk, o5, o6, o7, o8])), (fa, .inl (aC 4, 5, .inr (.inr (.inr (.inr ff))))), (s0, .inr (1, [b0, r0, .int 0])), (pt, .inr (0, [w, .int mny, .int 0])), (mk, .inr (6, [k1, k2])), (pa, .inr (1, [.ref pb, pr, .int pm])), (pb, .inl (aC 0, 128, .inl pf)), (rg, .inr (4, [g1, g2, g3, g4, .ref wi])), (wi, .inl (aC 2, 256, .inr (.inl wf)))] s.heap := hP
  have hl := lv_entry ([.ref h0, .int 0]) (n := 2) (Nat.le_of_ble_eq_true rfl)
  rw [lg_entry_eq]
  generalize (lg_sl ([.ref h0, .int 0]) ++ List.replicate (2 - (lg_sl ([.ref h0, .int 0])).length) Slot.unset).toArray = ls at hl ⊢
  have hl : lv_has ls 2 [(0, .ref h0), (1, .int 0)] := hl
  refine lv_aload_n hx hb dX11_game_0 rfl (lv_at hl 0 rfl) ?_
  refine va_get (D := (dC, dI)) (ci := 11) (v := .ref rg) (C := RX11) (T := TX11) (N := 15) hx hb hts (by decide +kernel) hown hK hP 0 rfl rfl 8 (by decide) (hts (.fieldLink RX11 52 "Transversary" "rings" "LTransversary$Rings;") (by decide +kernel)) (fun _ h9 => h9) rfl dX11_game_1 ?_
  refine lv_aload_n hx hb dX11_game_4 rfl (lv_at hl 0 rfl) ?_
  refine lv_iload_n hx hb dX11_game_5 rfl (lv_at hl 1 rfl) ?_
  have hPc := hP.sub (ws' := [(h0, .inr (11, [.ref pt, .ref fa, .int 1, .ref pa, o1, .ref md, o2, o3, .ref rg, o4, .ref mk, o5, o6, o7, o8])), (fa, .inl (aC 4, 5, .inr (.inr (.inr (.inr ff))))), (s0, .inr (1, [b0, r0, .int 0])), (pt, .inr (0, [w, .int mny, .int 0])), (mk, .inr (6, [k1, k2])), (pa, .inr (1, [.ref pb, pr, .int pm])), (pb, .inl (aC 0, 128, .inl pf))]) [0, 1, 2, 3, 4, 5, 6] rfl
  have hDc := hD.sub (ws' := [(h0, .inr (11, [.ref pt, .ref fa, .int 1, .ref pa, o1, .ref md, o2, o3, .ref rg, o4, .ref mk, o5, o6, o7, o8])), (fa, .inl (aC 4, 5, .inr (.inr (.inr (.inr ff))))), (s0, .inr (1, [b0, r0, .int 0])), (pt, .inr (0, [w, .int mny, .int 0])), (mk, .inr (6, [k1, k2])), (pa, .inr (1, [.ref pb, pr, .int pm])), (pb, .inl (aC 0, 128, .inl pf))]) [0, 1, 2, 3, 4, 5, 6] (by decide) rfl
  have hFc := va_free (wc := [(h0, .inr (11, [.ref pt, .ref fa, .int 1, .ref pa, o1, .ref md, o2, o3, .ref rg, o4, .ref mk, o5, o6, o7, o8])), (fa, .inl (aC 4, 5, .inr (.inr (.inr (.inr ff))))), (s0, .inr (1, [b0, r0, .int 0])), (pt, .inr (0, [w, .int mny, .int 0])), (mk, .inr (6, [k1, k2])), (pa, .inr (1, [.ref pb, pr, .int pm])), (pb, .inl (aC 0, 128, .inl pf))]) hD hS hA [0, 1, 2, 3, 4, 5, 6] rfl
  refine va_callr (va_runV (As := [.int 0]) (rest := [.ref rg]) ⟨hx, hb, hml, hown, hts⟩ (c_X11_partsOf l dC dI aC s.heap.size h0 pt fa pa md rg mk o1 o2 o3 o4 o5 o6 o7 o8 ff s0 b0 r0 w mny 0 k1 k2 pb pr pf pm hf) (cwV 1 hts gX11_game_X11_partsOf rfl rfl rfl (by decide +kernel) ⟨Nat.le_of_ble_eq_true rfl, Nat.le_of_ble_eq_true rfl⟩) (rf_pv hK hN hPc hDc (va_recv hK hP (ci := 11) (q0 := 0) rfl rfl)) rfl rfl hl.1 rfl (lv_room (Nat.le_of_ble_eq_true rfl)) dX11_game_6 ⟨Nat.le_of_ble_eq_true rfl, Nat.le_of_ble_eq_true rfl⟩) hS (fun q _ h => hFc q h) hFc (fun u1 r2 t H1 locs ht hvm hwu1 hB hz1 hk1 hS => ?_)
  obtain ⟨hra, hP1, hD1⟩ := hB
  rw [ht] at hP1
  try dsimp only at hwu1 hP1 hD1
  obtain ⟨hP, hD⟩ := va_join (wr := [(rg, .inr (4, [g1, g2, g3, g4, .ref wi])), (wi, .inl (aC 2, 256, .inr (.inl wf)))]) (w1 := [(h0, .inr (11, [.ref pt, .ref fa, .int 1, .ref pa, o1, .ref md, o2, o3, .ref rg, o4, .ref mk, o5, o6, o7, o8])), (fa, .inl (aC 4, 5, .inr (.inr (.inr (.inr ff))))), (s0, .inr (1, [b0, r0, .int 0])), (pt, .inr (0, [w, .int mny, .int 0])), (mk, .inr (6, [k1, k2])), (pa, .inr (1, [.ref pb, pr, .int 0])), (pb, .inl (aC 0, 128, .inl u1))]) hP hD [0, 1, 2, 3, 4, 5, 6] [7, 8] rfl rfl (by decide) (by decide) hk1 hFc hP1 hD1
  clear hP1 hD1 hPc hDc hFc
  generalize H1 = H at hP hS ⊢
  rw [hra]
  have hP : va_P (dC, dI) rfCl [(rg, .inr (4, [g1, g2, g3, g4, .ref wi])), (wi, .inl (aC 2, 256, .inr (.inl wf))), (h0, .inr (11, [.ref pt, .ref fa, .int 1, .ref pa, o1, .ref md, o2, o3, .ref rg, o4, .ref mk, o5, o6, o7, o8])), (fa, .inl (aC 4, 5, .inr (.inr (.inr (.inr ff))))), (s0, .inr (1, [b0, r0, .int 0])), (pt, .inr (0, [w, .int mny, .int 0])), (mk, .inr (6, [k1, k2])), (pa, .inr (1, [.ref pb, pr, .int 0])), (pb, .inl (aC 0, 128, .inl u1))] H := hP
  have hD : va_D A [(rg, .inr (4, [g1, g2, g3, g4, .ref wi])), (wi, .inl (aC 2, 256, .inr (.inl wf))), (h0, .inr (11, [.ref pt, .ref fa, .int 1, .ref pa, o1, .ref md, o2, o3, .ref rg, o4, .ref mk, o5, o6, o7, o8])), (fa, .inl (aC 4, 5, .inr (.inr (.inr (.inr ff))))), (s0, .inr (1, [b0, r0, .int 0])), (pt, .inr (0, [w, .int mny, .int 0])), (mk, .inr (6, [k1, k2])), (pa, .inr (1, [.ref pb, pr, .int 0])), (pb, .inl (aC 0, 128, .inl u1))] := hD
  refine W.widen (k := 0) (n := 0) (Nat.le_of_ble_eq_true rfl) (Nat.le_of_ble_eq_true rfl) ?_
  refine lv_aload_n hx hb dX11_game_9 rfl (lv_at hl 0 rfl) ?_
  refine va_get (D := (dC, dI)) (ci := 11) (v := .ref pt) (C := RX11) (T := TX11) (N := 15) hx hb hts (by decide +kernel) hown hK hP 2 rfl rfl 0 (by decide) (hts (.fieldLink RX11 12 "Transversary" "points" "LTransversary$Points;") (by decide +kernel)) (fun _ h9 => h9) rfl dX11_game_10 ?_
  have hPc := hP.sub (ws' := [(pt, .inr (0, [w, .int mny, .int 0]))]) [5] rfl
  have hDc := hD.sub (ws' := [(pt, .inr (0, [w, .int mny, .int 0]))]) [5] (by decide) rfl
  refine W.callR (W.runV (As := []) (rest := [.ref pa, .ref rg]) ⟨hx, hb, hml, hown, hts⟩ (c_X3_alive l dC dI aC H.size pt w mny 0) (cwV 0 hts gX11_game_X3_alive rfl rfl rfl (by decide +kernel) ⟨Nat.le_of_ble_eq_true rfl, Nat.le_of_ble_eq_true rfl⟩) (rf_pv hK hN hPc hDc (va_recv hK hP (ci := 0) (q0 := 5) rfl rfl)) rfl rfl hl.1 rfl (lv_room (Nat.le_of_ble_eq_true rfl)) dX11_game_13 ⟨Nat.le_of_ble_eq_true rfl, Nat.le_of_ble_eq_true rfl⟩) ?_
  refine W.eq (g2 := F0 m 16 ls [.int 0, .ref pa, .ref rg]) rfl ?_
  have hPc := hP.sub (ws' := [(rg, .inr (4, [g1, g2, g3, g4, .ref wi])), (wi, .inl (aC 2, 256, .inr (.inl wf))), (pa, .inr (1, [.ref pb, pr, .int 0]))]) [0, 1, 7] rfl
  have hDc := hD.sub (ws' := [(rg, .inr (4, [g1, g2, g3, g4, .ref wi])), (wi, .inl (aC 2, 256, .inr (.inl wf))), (pa, .inr (1, [.ref pb, pr, .int 0]))]) [0, 1, 7] (by decide) rfl
  have hFc := va_free (wc := [(rg, .inr (4, [g1, g2, g3, g4, .ref wi])), (wi, .inl (aC 2, 256, .inr (.inl wf))), (pa, .inr (1, [.ref pb, pr, .int 0]))]) hD hS hA [0, 1, 7] rfl
  refine va_calli (va_runV (As := [.ref pa, .int 0]) (rest := []) ⟨hx, hb, hml, hown, hts⟩ (c_X5_winningPoint l dC dI aC H.size rg g1 g2 g3 g4 wi wf pa (.ref pb) pr) (cwV 2 hts gX11_game_X5_winningPoint rfl rfl rfl (by decide +kernel) ⟨Nat.le_of_ble_eq_true rfl, Nat.le_of_ble_eq_true rfl⟩) (rf_pv hK hN hPc hDc (va_recv hK hP (ci := 4) (q0 := 0) rfl rfl)) rfl rfl hl.1 rfl (lv_room (Nat.le_of_ble_eq_true rfl)) dX11_game_16 ⟨Nat.le_of_ble_eq_true rfl, Nat.le_of_ble_eq_true rfl⟩) hS (fun q _ h => hFc q h) hFc (fun r4 u3 t H1 locs ht hvm hwu3 hB hz1 hk1 hS => ?_)
  obtain ⟨hP1, hD1⟩ := hB
  rw [ht] at hP1
  try dsimp only at hwu3 hP1 hD1
  obtain ⟨hP, hD⟩ := va_join (wr := [(h0, .inr (11, [.ref pt, .ref fa, .int 1, .ref pa, o1, .ref md, o2, o3, .ref rg, o4, .ref mk, o5, o6, o7, o8])), (fa, .inl (aC 4, 5, .inr (.inr (.inr (.inr ff))))), (s0, .inr (1, [b0, r0, .int 0])), (pt, .inr (0, [w, .int mny, .int 0])), (mk, .inr (6, [k1, k2])), (pb, .inl (aC 0, 128, .inl u1))]) (w1 := [(rg, .inr (4, [g1, g2, g3, g4, .ref wi])), (wi, .inl (aC 2, 256, .inr (.inl u3))), (pa, .inr (1, [.ref pb, pr, .int 0]))]) hP hD [0, 1, 7] [2, 3, 4, 5, 6, 8] rfl rfl (by decide) (by decide) hk1 hFc hP1 hD1
  clear hP1 hD1 hPc hDc hFc
  generalize H1 = H at hP hS ⊢
  have hP : va_P (dC, dI) rfCl [(h0, .inr (11, [.ref pt, .ref fa, .int 1, .ref pa, o1, .ref md, o2, o3, .ref rg, o4, .ref mk, o5, o6, o7, o8])), (fa, .inl (aC 4, 5, .inr (.inr (.inr (.inr ff))))), (s0, .inr (1, [b0, r0, .int 0])), (pt, .inr (0, [w, .int mny, .int 0])), (mk, .inr (6, [k1, k2])), (pb, .inl (aC 0, 128, .inl u1)), (rg, .inr (4, [g1, g2, g3, g4, .ref wi])), (wi, .inl (aC 2, 256, .inr (.inl u3))), (pa, .inr (1, [.ref pb, pr, .int 0]))] H := hP
  have hD : va_D A [(h0, .inr (11, [.ref pt, .ref fa, .int 1, .ref pa, o1, .ref md, o2, o3, .ref rg, o4, .ref mk, o5, o6, o7, o8])), (fa, .inl (aC 4, 5, .inr (.inr (.inr (.inr ff))))), (s0, .inr (1, [b0, r0, .int 0])), (pt, .inr (0, [w, .int mny, .int 0])), (mk, .inr (6, [k1, k2])), (pb, .inl (aC 0, 128, .inl u1)), (rg, .inr (4, [g1, g2, g3, g4, .ref wi])), (wi, .inl (aC 2, 256, .inr (.inl u3))), (pa, .inr (1, [.ref pb, pr, .int 0]))] := hD
  refine W.widen (k := 0) (n := 0) (Nat.le_of_ble_eq_true rfl) (Nat.le_of_ble_eq_true rfl) ?_
  have hP9 := hP.sub (ws' := [(h0, .inr (11, [.ref pt, .ref fa, .int 1, .ref pa, o1, .ref md, o2, o3, .ref rg, o4, .ref mk, o5, o6, o7, o8])), (fa, .inl (aC 4, 5, .inr (.inr (.inr (.inr ff))))), (s0, .inr (1, [b0, r0, .int 0])), (pt, .inr (0, [w, .int mny, .int 0])), (mk, .inr (6, [k1, k2])), (pa, .inr (1, [.ref pb, pr, .int 0])), (pb, .inl (aC 0, 128, .inl u1)), (rg, .inr (4, [g1, g2, g3, g4, .ref wi])), (wi, .inl (aC 2, 256, .inr (.inl u3)))]) [0, 1, 2, 3, 4, 8, 5, 6, 7] rfl
  have hD9 := hD.sub (ws' := [(h0, .inr (11, [.ref pt, .ref fa, .int 1, .ref pa, o1, .ref md, o2, o3, .ref rg, o4, .ref mk, o5, o6, o7, o8])), (fa, .inl (aC 4, 5, .inr (.inr (.inr (.inr ff))))), (s0, .inr (1, [b0, r0, .int 0])), (pt, .inr (0, [w, .int mny, .int 0])), (mk, .inr (6, [k1, k2])), (pa, .inr (1, [.ref pb, pr, .int 0])), (pb, .inl (aC 0, 128, .inl u1)), (rg, .inr (4, [g1, g2, g3, g4, .ref wi])), (wi, .inl (aC 2, 256, .inr (.inl u3)))]) [0, 1, 2, 3, 4, 8, 5, 6, 7] (by decide) rfl
  refine W.widen (k := 0) (n := 0) (Nat.le_of_ble_eq_true rfl) (Nat.le_of_ble_eq_true rfl) ?_
  exact W.iret (v := r4) hx hb hr (fun t ht hW => ⟨⟨r4, (u1, u3), rfl, trivial, by rw [ht]; exact hP9, hD9⟩, hS.F ht⟩) hS.2.2 dX11_game_19
end
section
theorem rf_inner (c : ClassId) (K : Nat) : Jvm.Free.Multi.innerC c K (defaultValue .long) = vp_cell c (K, .inr (.inl (fun _ => 0))) := by
  show ({ cls := c, slots := Array.replicate K (.long 0), vm := .none } : Cell) = _
  rw [arrV_new]
  rfl
theorem rf_innerI (c : ClassId) (K : Nat) : Jvm.Free.Multi.innerC c K (defaultValue .int) = vp_cell c (K, .inl (fun _ => 0)) := by
  show ({ cls := c, slots := Array.replicate K (.int 0), vm := .none } : Cell) = _
  rw [arrV_new]
  rfl

set_option maxHeartbeats 4000000 in
set_option maxRecDepth 100000 in
theorem c_X0_init (l : Launch) (dC : Nat → ClassId) (dI : Nat → Nat → Nat) (aC : Nat → ClassId) (sz : Nat) (h0 : Nat)  : Met l yX0_init wsX0_init ({ frames := 2, cells := 11, slots := 1033, locals := 40 } : Room) (rf_Pc (dC, dI) aC [.ref h0] [(h0, .inr (2, [.null, .null, .null, .null, .null]))] sz) (va_Qv (fun (u : Unit) => True) (fun (u : Unit) t => va_P (dC, dI) rfCl [] t.heap ∧ va_D (va_A [(h0, .inr (2, [.null, .null, .null, .null, .null]))] sz) []) (va_A [(h0, .inr (2, [.null, .null, .null, .null, .null]))] sz)) 11 1033 (va_A [(h0, .inr (2, [.null, .null, .null, .null, .null]))] sz) := by
  refine Met.ofW (cc := cX0_init) (maxL := 1) (ret := none) (by decide) rfl ?_
  intro p e s m args below meth c s₁ B hml hv
  obtain ⟨rfl, hsz, hP, hKN, hD0⟩ := hv
  obtain ⟨hK, hN⟩ := hKN
  have hx := B.exec
  have hb := B.bytes
  have hr := B.returns
  have hts := atoms_spec (ws := wsX0_init) B.pre
  have hown : s.vm.findClass RX0 = some m.cls := findClass_of_methodNamed B.named
  have hlocks := B.notSynchronized
  have hin : meth.name = "<init>" := (name_of_methodNamed B.named B.method).1
  subst hsz
  have hD := hD0.self (sz := s.heap.size)
  generalize hAe : va_A [(h0, .inr (2, [.null, .null, .null, .null, .null]))] s.heap.size = A at hD ⊢
  have hA : ∀ q : Nat, s.heap.size ≤ q → A q := fun q h => by rw [← hAe]; exact Or.inr h
  have hS : va_S A s.heap s.heap [] := va_S.rf
  have hP : va_P (dC, dI) rfCl [(h0, .inr (2, [.null, .null, .null, .null, .null]))] s.heap := hP
  have hl := lv_entry ([.ref h0]) (n := 1) (Nat.le_of_ble_eq_true rfl)
  rw [lg_entry_eq]
  generalize (lg_sl ([.ref h0]) ++ List.replicate (1 - (lg_sl ([.ref h0])).length) Slot.unset).toArray = ls at hl ⊢
  have hl : lv_has ls 1 [(0, .ref h0)] := hl
  refine lv_aload_n hx hb dX0_init_0 rfl (lv_at hl 0 rfl) ?_
  refine W.objInit hx hb hown (hts (.methodLink RX0 3 objectInit) (by decide +kernel)) (hts (.instanceMethod objectInit) (by decide +kernel)) (hts (.code objectInit ⟨#[0xb1]⟩ 1 none) (by decide +kernel)) rfl (by rw [hml]; exact hl.1) rfl dX0_init_1 (Nat.le_of_ble_eq_true rfl) (Nat.le_of_ble_eq_true rfl) ?_
  refine W.eq (g2 := F0 m 4 ls []) rfl ?_
  refine lv_aload_n hx hb dX0_init_4 rfl (lv_at hl 0 rfl) ?_
  refine va_new (ci := 1) (fs := [.null, .null, .int 0]) (C := RX7) (T := TX7) (N := 3) hx hb hts (by decide +kernel) tyX7 tyX7_ok hown (hts (.classLink RX0 9 RX7) (by decide +kernel)) (hts (.instantiable RX7 3) (by decide +kernel)) (hts (.initialized RX7) (by decide +kernel)) hK hP hD hS hA rfl (fun j hj => by rcases (show j = 0 ∨ j = 1 ∨ j = 2 by omega) with rfl | rfl | rfl <;> rfl) (Nat.le_of_ble_eq_true rfl) (Nat.le_of_ble_eq_true rfl) dX0_init_5 (fun q1 H hP hD hS => ?_)
  have hP : va_P (dC, dI) rfCl [(h0, .inr (2, [.null, .null, .null, .null, .null])), (q1, .inr (1, [.null, .null, .int 0]))] H := hP
  have hD : va_D A [(h0, .inr (2, [.null, .null, .null, .null, .null])), (q1, .inr (1, [.null, .null, .int 0]))] := hD
  refine W.widen (k := 1) (n := 3) (Nat.le_of_ble_eq_true rfl) (Nat.le_of_ble_eq_true rfl) ?_
  refine lv_dup hx hb dX0_init_8 rfl ?_
  have hPc := hP.sub (ws' := [(q1, .inr (1, [.null, .null, .int 0]))]) [1] rfl
  have hDc := hD.sub (ws' := [(q1, .inr (1, [.null, .null, .int 0]))]) [1] (by decide) rfl
  have hFc := va_free (wc := [(q1, .inr (1, [.null, .null, .int 0]))]) hD hS hA [1] rfl
  refine va_callv (va_runIN (As := []) (rest := [.ref q1, .ref h0]) ⟨hx, hb, hml, hown, hts⟩ (c_X7_init l dC dI aC H.size q1) (⟨va_cnB 0 hts (goodIn_sub (by decide +kernel) (by decide +kernel)) rfl rfl rfl (rf_nst hN 3 (q := (RX0, 11, yX7_init, "Transversary")) rfl) (hts (.initialized RX7) (by decide +kernel)) (by decide +kernel) ⟨Nat.le_of_ble_eq_true rfl, Nat.le_of_ble_eq_true rfl⟩, rfl, hts (.instanceMethod yX7_init) (by decide +kernel)⟩) (rf_ps hK hN hPc hDc) rfl rfl hl.1 rfl (lv_room (Nat.le_of_ble_eq_true rfl)) dX0_init_9 ⟨Nat.le_of_ble_eq_true rfl, Nat.le_of_ble_eq_true rfl⟩) hS (fun q _ h => hFc q h) hFc (fun u2 t H1 locs ht hvm hwu2 hB hz1 hk1 hS => ?_)
  obtain ⟨hP1, hD1⟩ := hB
  rw [ht] at hP1
  try dsimp only at hwu2 hP1 hD1
  obtain ⟨hP, hD⟩ := va_join (wr := [(h0, .inr (2, [.null, .null, .null, .null, .null]))]) (w1 := [(q1, .inr (1, [.ref (u2.1), .ref (u2.2), .int 0])), ((u2.1), .inl (aC 0, 128, .inl (fun _ => 0))), ((u2.2), .inl (aC 1, 128, .inl (fun _ => 0)))]) hP hD [1] [0] rfl rfl (by decide) (by decide) hk1 hFc hP1 hD1
  clear hP1 hD1 hPc hDc hFc
  generalize H1 = H at hP hS ⊢
  have hP : va_P (dC, dI) rfCl [(h0, .inr (2, [.null, .null, .null, .null, .null])), (q1, .inr (1, [.ref (u2.1), .ref (u2.2), .int 0])), ((u2.1), .inl (aC 0, 128, .inl (fun _ => 0))), ((u2.2), .inl (aC 1, 128, .inl (fun _ => 0)))] H := hP
  have hD : va_D A [(h0, .inr (2, [.null, .null, .null, .null, .null])), (q1, .inr (1, [.ref (u2.1), .ref (u2.2), .int 0])), ((u2.1), .inl (aC 0, 128, .inl (fun _ => 0))), ((u2.2), .inl (aC 1, 128, .inl (fun _ => 0)))] := hD
  refine W.widen (k := 3) (n := 259) (Nat.le_of_ble_eq_true rfl) (Nat.le_of_ble_eq_true rfl) ?_
  obtain ⟨b4, r5⟩ := u2
  try dsimp only at hP hD
  have hP : va_P (dC, dI) rfCl [(h0, .inr (2, [.null, .null, .null, .null, .null])), (q1, .inr (1, [.ref b4, .ref r5, .int 0])), (b4, .inl (aC 0, 128, .inl (fun _ => 0))), (r5, .inl (aC 1, 128, .inl (fun _ => 0)))] H := hP
  have hD : va_D A [(h0, .inr (2, [.null, .null, .null, .null, .null])), (q1, .inr (1, [.ref b4, .ref r5, .int 0])), (b4, .inl (aC 0, 128, .inl (fun _ => 0))), (r5, .inl (aC 1, 128, .inl (fun _ => 0)))] := hD
  refine va_putF (D := (dC, dI)) (ci := 2) (v := .ref q1) (ty := (.object "Transversary$Sets")) (C := RX0) (T := TX0) (N := 5) hx hb hts (by decide +kernel) tyX0 tyX0_ok nmX0 hown hK hP hD hS 0 rfl rfl 0 (by decide) (hts (.fieldLink RX0 12 "Transversary$Covers" "least" "LTransversary$Sets;") (by decide +kernel)) (fun _ h9 => h9) rfl hin rfl (by decide +kernel) rfl rfl (Nat.le_of_ble_eq_true rfl) dX0_init_12 (fun H locs hP hD hS => ?_)
  have hP : va_P (dC, dI) rfCl [(h0, .inr (2, [.ref q1, .null, .null, .null, .null])), (q1, .inr (1, [.ref b4, .ref r5, .int 0])), (b4, .inl (aC 0, 128, .inl (fun _ => 0))), (r5, .inl (aC 1, 128, .inl (fun _ => 0)))] H := hP
  have hD : va_D A [(h0, .inr (2, [.ref q1, .null, .null, .null, .null])), (q1, .inr (1, [.ref b4, .ref r5, .int 0])), (b4, .inl (aC 0, 128, .inl (fun _ => 0))), (r5, .inl (aC 1, 128, .inl (fun _ => 0)))] := hD
  refine lv_aload_n hx hb dX0_init_15 rfl (lv_at hl 0 rfl) ?_
  refine va_new (ci := 1) (fs := [.null, .null, .int 0]) (C := RX7) (T := TX7) (N := 3) hx hb hts (by decide +kernel) tyX7 tyX7_ok hown (hts (.classLink RX0 9 RX7) (by decide +kernel)) (hts (.instantiable RX7 3) (by decide +kernel)) (hts (.initialized RX7) (by decide +kernel)) hK hP hD hS hA rfl (fun j hj => by rcases (show j = 0 ∨ j = 1 ∨ j = 2 by omega) with rfl | rfl | rfl <;> rfl) (Nat.le_of_ble_eq_true rfl) (Nat.le_of_ble_eq_true rfl) dX0_init_16 (fun q6 H hP hD hS => ?_)
  have hP : va_P (dC, dI) rfCl [(h0, .inr (2, [.ref q1, .null, .null, .null, .null])), (q1, .inr (1, [.ref b4, .ref r5, .int 0])), (b4, .inl (aC 0, 128, .inl (fun _ => 0))), (r5, .inl (aC 1, 128, .inl (fun _ => 0))), (q6, .inr (1, [.null, .null, .int 0]))] H := hP
  have hD : va_D A [(h0, .inr (2, [.ref q1, .null, .null, .null, .null])), (q1, .inr (1, [.ref b4, .ref r5, .int 0])), (b4, .inl (aC 0, 128, .inl (fun _ => 0))), (r5, .inl (aC 1, 128, .inl (fun _ => 0))), (q6, .inr (1, [.null, .null, .int 0]))] := hD
  refine W.widen (k := 4) (n := 262) (Nat.le_of_ble_eq_true rfl) (Nat.le_of_ble_eq_true rfl) ?_
  refine lv_dup hx hb dX0_init_19 rfl ?_
  have hPc := hP.sub (ws' := [(q6, .inr (1, [.null, .null, .int 0]))]) [4] rfl
  have hDc := hD.sub (ws' := [(q6, .inr (1, [.null, .null, .int 0]))]) [4] (by decide) rfl
  have hFc := va_free (wc := [(q6, .inr (1, [.null, .null, .int 0]))]) hD hS hA [4] rfl
  refine va_callv (va_runIN (As := []) (rest := [.ref q6, .ref h0]) ⟨hx, hb, hml, hown, hts⟩ (c_X7_init l dC dI aC H.size q6) (⟨va_cnB 0 hts (goodIn_sub (by decide +kernel) (by decide +kernel)) rfl rfl rfl (rf_nst hN 3 (q := (RX0, 11, yX7_init, "Transversary")) rfl) (hts (.initialized RX7) (by decide +kernel)) (by decide +kernel) ⟨Nat.le_of_ble_eq_true rfl, Nat.le_of_ble_eq_true rfl⟩, rfl, hts (.instanceMethod yX7_init) (by decide +kernel)⟩) (rf_ps hK hN hPc hDc) rfl rfl hl.1 rfl (lv_room (Nat.le_of_ble_eq_true rfl)) dX0_init_20 ⟨Nat.le_of_ble_eq_true rfl, Nat.le_of_ble_eq_true rfl⟩) hS (fun q _ h => hFc q h) hFc (fun u7 t H1 locs ht hvm hwu7 hB hz1 hk1 hS => ?_)
  obtain ⟨hP1, hD1⟩ := hB
  rw [ht] at hP1
  try dsimp only at hwu7 hP1 hD1
  obtain ⟨hP, hD⟩ := va_join (wr := [(h0, .inr (2, [.ref q1, .null, .null, .null, .null])), (q1, .inr (1, [.ref b4, .ref r5, .int 0])), (b4, .inl (aC 0, 128, .inl (fun _ => 0))), (r5, .inl (aC 1, 128, .inl (fun _ => 0)))]) (w1 := [(q6, .inr (1, [.ref (u7.1), .ref (u7.2), .int 0])), ((u7.1), .inl (aC 0, 128, .inl (fun _ => 0))), ((u7.2), .inl (aC 1, 128, .inl (fun _ => 0)))]) hP hD [4] [0, 1, 2, 3] rfl rfl (by decide) (by decide) hk1 hFc hP1 hD1
  clear hP1 hD1 hPc hDc hFc
  generalize H1 = H at hP hS ⊢
  have hP : va_P (dC, dI) rfCl [(h0, .inr (2, [.ref q1, .null, .null, .null, .null])), (q1, .inr (1, [.ref b4, .ref r5, .int 0])), (b4, .inl (aC 0, 128, .inl (fun _ => 0))), (r5, .inl (aC 1, 128, .inl (fun _ => 0))), (q6, .inr (1, [.ref (u7.1), .ref (u7.2), .int 0])), ((u7.1), .inl (aC 0, 128, .inl (fun _ => 0))), ((u7.2), .inl (aC 1, 128, .inl (fun _ => 0)))] H := hP
  have hD : va_D A [(h0, .inr (2, [.ref q1, .null, .null, .null, .null])), (q1, .inr (1, [.ref b4, .ref r5, .int 0])), (b4, .inl (aC 0, 128, .inl (fun _ => 0))), (r5, .inl (aC 1, 128, .inl (fun _ => 0))), (q6, .inr (1, [.ref (u7.1), .ref (u7.2), .int 0])), ((u7.1), .inl (aC 0, 128, .inl (fun _ => 0))), ((u7.2), .inl (aC 1, 128, .inl (fun _ => 0)))] := hD
  refine W.widen (k := 6) (n := 518) (Nat.le_of_ble_eq_true rfl) (Nat.le_of_ble_eq_true rfl) ?_
  obtain ⟨b9, r10⟩ := u7
  try dsimp only at hP hD
  have hP : va_P (dC, dI) rfCl [(h0, .inr (2, [.ref q1, .null, .null, .null, .null])), (q1, .inr (1, [.ref b4, .ref r5, .int 0])), (b4, .inl (aC 0, 128, .inl (fun _ => 0))), (r5, .inl (aC 1, 128, .inl (fun _ => 0))), (q6, .inr (1, [.ref b9, .ref r10, .int 0])), (b9, .inl (aC 0, 128, .inl (fun _ => 0))), (r10, .inl (aC 1, 128, .inl (fun _ => 0)))] H := hP
  have hD : va_D A [(h0, .inr (2, [.ref q1, .null, .null, .null, .null])), (q1, .inr (1, [.ref b4, .ref r5, .int 0])), (b4, .inl (aC 0, 128, .inl (fun _ => 0))), (r5, .inl (aC 1, 128, .inl (fun _ => 0))), (q6, .inr (1, [.ref b9, .ref r10, .int 0])), (b9, .inl (aC 0, 128, .inl (fun _ => 0))), (r10, .inl (aC 1, 128, .inl (fun _ => 0)))] := hD
  refine va_putF (D := (dC, dI)) (ci := 2) (v := .ref q6) (ty := (.object "Transversary$Sets")) (C := RX0) (T := TX0) (N := 5) hx hb hts (by decide +kernel) tyX0 tyX0_ok nmX0 hown hK hP hD hS 0 rfl rfl 1 (by decide) (hts (.fieldLink RX0 18 "Transversary$Covers" "blockers" "LTransversary$Sets;") (by decide +kernel)) (fun _ h9 => h9) rfl hin rfl (by decide +kernel) rfl rfl (Nat.le_of_ble_eq_true rfl) dX0_init_23 (fun H locs hP hD hS => ?_)
  have hP : va_P (dC, dI) rfCl [(h0, .inr (2, [.ref q1, .ref q6, .null, .null, .null])), (q1, .inr (1, [.ref b4, .ref r5, .int 0])), (b4, .inl (aC 0, 128, .inl (fun _ => 0))), (r5, .inl (aC 1, 128, .inl (fun _ => 0))), (q6, .inr (1, [.ref b9, .ref r10, .int 0])), (b9, .inl (aC 0, 128, .inl (fun _ => 0))), (r10, .inl (aC 1, 128, .inl (fun _ => 0)))] H := hP
  have hD : va_D A [(h0, .inr (2, [.ref q1, .ref q6, .null, .null, .null])), (q1, .inr (1, [.ref b4, .ref r5, .int 0])), (b4, .inl (aC 0, 128, .inl (fun _ => 0))), (r5, .inl (aC 1, 128, .inl (fun _ => 0))), (q6, .inr (1, [.ref b9, .ref r10, .int 0])), (b9, .inl (aC 0, 128, .inl (fun _ => 0))), (r10, .inl (aC 1, 128, .inl (fun _ => 0)))] := hD
  refine lv_aload_n hx hb dX0_init_26 rfl (lv_at hl 0 rfl) ?_
  refine va_new (ci := 1) (fs := [.null, .null, .int 0]) (C := RX7) (T := TX7) (N := 3) hx hb hts (by decide +kernel) tyX7 tyX7_ok hown (hts (.classLink RX0 9 RX7) (by decide +kernel)) (hts (.instantiable RX7 3) (by decide +kernel)) (hts (.initialized RX7) (by decide +kernel)) hK hP hD hS hA rfl (fun j hj => by rcases (show j = 0 ∨ j = 1 ∨ j = 2 by omega) with rfl | rfl | rfl <;> rfl) (Nat.le_of_ble_eq_true rfl) (Nat.le_of_ble_eq_true rfl) dX0_init_27 (fun q11 H hP hD hS => ?_)
  have hP : va_P (dC, dI) rfCl [(h0, .inr (2, [.ref q1, .ref q6, .null, .null, .null])), (q1, .inr (1, [.ref b4, .ref r5, .int 0])), (b4, .inl (aC 0, 128, .inl (fun _ => 0))), (r5, .inl (aC 1, 128, .inl (fun _ => 0))), (q6, .inr (1, [.ref b9, .ref r10, .int 0])), (b9, .inl (aC 0, 128, .inl (fun _ => 0))), (r10, .inl (aC 1, 128, .inl (fun _ => 0))), (q11, .inr (1, [.null, .null, .int 0]))] H := hP
  have hD : va_D A [(h0, .inr (2, [.ref q1, .ref q6, .null, .null, .null])), (q1, .inr (1, [.ref b4, .ref r5, .int 0])), (b4, .inl (aC 0, 128, .inl (fun _ => 0))), (r5, .inl (aC 1, 128, .inl (fun _ => 0))), (q6, .inr (1, [.ref b9, .ref r10, .int 0])), (b9, .inl (aC 0, 128, .inl (fun _ => 0))), (r10, .inl (aC 1, 128, .inl (fun _ => 0))), (q11, .inr (1, [.null, .null, .int 0]))] := hD
  refine W.widen (k := 7) (n := 521) (Nat.le_of_ble_eq_true rfl) (Nat.le_of_ble_eq_true rfl) ?_
  refine lv_dup hx hb dX0_init_30 rfl ?_
  have hPc := hP.sub (ws' := [(q11, .inr (1, [.null, .null, .int 0]))]) [7] rfl
  have hDc := hD.sub (ws' := [(q11, .inr (1, [.null, .null, .int 0]))]) [7] (by decide) rfl
  have hFc := va_free (wc := [(q11, .inr (1, [.null, .null, .int 0]))]) hD hS hA [7] rfl
  refine va_callv (va_runIN (As := []) (rest := [.ref q11, .ref h0]) ⟨hx, hb, hml, hown, hts⟩ (c_X7_init l dC dI aC H.size q11) (⟨va_cnB 0 hts (goodIn_sub (by decide +kernel) (by decide +kernel)) rfl rfl rfl (rf_nst hN 3 (q := (RX0, 11, yX7_init, "Transversary")) rfl) (hts (.initialized RX7) (by decide +kernel)) (by decide +kernel) ⟨Nat.le_of_ble_eq_true rfl, Nat.le_of_ble_eq_true rfl⟩, rfl, hts (.instanceMethod yX7_init) (by decide +kernel)⟩) (rf_ps hK hN hPc hDc) rfl rfl hl.1 rfl (lv_room (Nat.le_of_ble_eq_true rfl)) dX0_init_31 ⟨Nat.le_of_ble_eq_true rfl, Nat.le_of_ble_eq_true rfl⟩) hS (fun q _ h => hFc q h) hFc (fun u12 t H1 locs ht hvm hwu12 hB hz1 hk1 hS => ?_)
  obtain ⟨hP1, hD1⟩ := hB
  rw [ht] at hP1
  try dsimp only at hwu12 hP1 hD1
  obtain ⟨hP, hD⟩ := va_join (wr := [(h0, .inr (2, [.ref q1, .ref q6, .null, .null, .null])), (q1, .inr (1, [.ref b4, .ref r5, .int 0])), (b4, .inl (aC 0, 128, .inl (fun _ => 0))), (r5, .inl (aC 1, 128, .inl (fun _ => 0))), (q6, .inr (1, [.ref b9, .ref r10, .int 0])), (b9, .inl (aC 0, 128, .inl (fun _ => 0))), (r10, .inl (aC 1, 128, .inl (fun _ => 0)))]) (w1 := [(q11, .inr (1, [.ref (u12.1), .ref (u12.2), .int 0])), ((u12.1), .inl (aC 0, 128, .inl (fun _ => 0))), ((u12.2), .inl (aC 1, 128, .inl (fun _ => 0)))]) hP hD [7] [0, 1, 2, 3, 4, 5, 6] rfl rfl (by decide) (by decide) hk1 hFc hP1 hD1
  clear hP1 hD1 hPc hDc hFc
  generalize H1 = H at hP hS ⊢
  have hP : va_P (dC, dI) rfCl [(h0, .inr (2, [.ref q1, .ref q6, .null, .null, .null])), (q1, .inr (1, [.ref b4, .ref r5, .int 0])), (b4, .inl (aC 0, 128, .inl (fun _ => 0))), (r5, .inl (aC 1, 128, .inl (fun _ => 0))), (q6, .inr (1, [.ref b9, .ref r10, .int 0])), (b9, .inl (aC 0, 128, .inl (fun _ => 0))), (r10, .inl (aC 1, 128, .inl (fun _ => 0))), (q11, .inr (1, [.ref (u12.1), .ref (u12.2), .int 0])), ((u12.1), .inl (aC 0, 128, .inl (fun _ => 0))), ((u12.2), .inl (aC 1, 128, .inl (fun _ => 0)))] H := hP
  have hD : va_D A [(h0, .inr (2, [.ref q1, .ref q6, .null, .null, .null])), (q1, .inr (1, [.ref b4, .ref r5, .int 0])), (b4, .inl (aC 0, 128, .inl (fun _ => 0))), (r5, .inl (aC 1, 128, .inl (fun _ => 0))), (q6, .inr (1, [.ref b9, .ref r10, .int 0])), (b9, .inl (aC 0, 128, .inl (fun _ => 0))), (r10, .inl (aC 1, 128, .inl (fun _ => 0))), (q11, .inr (1, [.ref (u12.1), .ref (u12.2), .int 0])), ((u12.1), .inl (aC 0, 128, .inl (fun _ => 0))), ((u12.2), .inl (aC 1, 128, .inl (fun _ => 0)))] := hD
  refine W.widen (k := 9) (n := 777) (Nat.le_of_ble_eq_true rfl) (Nat.le_of_ble_eq_true rfl) ?_
  obtain ⟨b14, r15⟩ := u12
  try dsimp only at hP hD
  have hP : va_P (dC, dI) rfCl [(h0, .inr (2, [.ref q1, .ref q6, .null, .null, .null])), (q1, .inr (1, [.ref b4, .ref r5, .int 0])), (b4, .inl (aC 0, 128, .inl (fun _ => 0))), (r5, .inl (aC 1, 128, .inl (fun _ => 0))), (q6, .inr (1, [.ref b9, .ref r10, .int 0])), (b9, .inl (aC 0, 128, .inl (fun _ => 0))), (r10, .inl (aC 1, 128, .inl (fun _ => 0))), (q11, .inr (1, [.ref b14, .ref r15, .int 0])), (b14, .inl (aC 0, 128, .inl (fun _ => 0))), (r15, .inl (aC 1, 128, .inl (fun _ => 0)))] H := hP
  have hD : va_D A [(h0, .inr (2, [.ref q1, .ref q6, .null, .null, .null])), (q1, .inr (1, [.ref b4, .ref r5, .int 0])), (b4, .inl (aC 0, 128, .inl (fun _ => 0))), (r5, .inl (aC 1, 128, .inl (fun _ => 0))), (q6, .inr (1, [.ref b9, .ref r10, .int 0])), (b9, .inl (aC 0, 128, .inl (fun _ => 0))), (r10, .inl (aC 1, 128, .inl (fun _ => 0))), (q11, .inr (1, [.ref b14, .ref r15, .int 0])), (b14, .inl (aC 0, 128, .inl (fun _ => 0))), (r15, .inl (aC 1, 128, .inl (fun _ => 0)))] := hD
  refine va_putF (D := (dC, dI)) (ci := 2) (v := .ref q11) (ty := (.object "Transversary$Sets")) (C := RX0) (T := TX0) (N := 5) hx hb hts (by decide +kernel) tyX0 tyX0_ok nmX0 hown hK hP hD hS 0 rfl rfl 2 (by decide) (hts (.fieldLink RX0 21 "Transversary$Covers" "blockersTwice" "LTransversary$Sets;") (by decide +kernel)) (fun _ h9 => h9) rfl hin rfl (by decide +kernel) rfl rfl (Nat.le_of_ble_eq_true rfl) dX0_init_34 (fun H locs hP hD hS => ?_)
  have hP : va_P (dC, dI) rfCl [(h0, .inr (2, [.ref q1, .ref q6, .ref q11, .null, .null])), (q1, .inr (1, [.ref b4, .ref r5, .int 0])), (b4, .inl (aC 0, 128, .inl (fun _ => 0))), (r5, .inl (aC 1, 128, .inl (fun _ => 0))), (q6, .inr (1, [.ref b9, .ref r10, .int 0])), (b9, .inl (aC 0, 128, .inl (fun _ => 0))), (r10, .inl (aC 1, 128, .inl (fun _ => 0))), (q11, .inr (1, [.ref b14, .ref r15, .int 0])), (b14, .inl (aC 0, 128, .inl (fun _ => 0))), (r15, .inl (aC 1, 128, .inl (fun _ => 0)))] H := hP
  have hD : va_D A [(h0, .inr (2, [.ref q1, .ref q6, .ref q11, .null, .null])), (q1, .inr (1, [.ref b4, .ref r5, .int 0])), (b4, .inl (aC 0, 128, .inl (fun _ => 0))), (r5, .inl (aC 1, 128, .inl (fun _ => 0))), (q6, .inr (1, [.ref b9, .ref r10, .int 0])), (b9, .inl (aC 0, 128, .inl (fun _ => 0))), (r10, .inl (aC 1, 128, .inl (fun _ => 0))), (q11, .inr (1, [.ref b14, .ref r15, .int 0])), (b14, .inl (aC 0, 128, .inl (fun _ => 0))), (r15, .inl (aC 1, 128, .inl (fun _ => 0)))] := hD
  refine lv_aload_n hx hb dX0_init_37 rfl (lv_at hl 0 rfl) ?_
  refine lv_sipush (v := 128) hx hb dX0_init_38 (by decide) ?_
  refine va_newa (atype := .boolean) (ty := .boolean) (a0 := (128, .inl (fun _ => 0))) hx hb (hts (.arrayClass .boolean) (by decide +kernel)) rfl hK hP hD hS hA (fun _ => rfl) (by decide) (by decide) (by decide) (Nat.le_of_ble_eq_true rfl) (Nat.le_of_ble_eq_true rfl) dX0_init_41 (fun q16 cA9 H hK hP hD hS => ?_)
  obtain rfl : cA9 = aC 0 := rf_sameA hK 6 0 rfl rfl
  have hK := hK.sub (tys' := rfT aC) [0, 1, 2, 3, 4, 5] rfl
  have hP : va_P (dC, dI) rfCl [(h0, .inr (2, [.ref q1, .ref q6, .ref q11, .null, .null])), (q1, .inr (1, [.ref b4, .ref r5, .int 0])), (b4, .inl (aC 0, 128, .inl (fun _ => 0))), (r5, .inl (aC 1, 128, .inl (fun _ => 0))), (q6, .inr (1, [.ref b9, .ref r10, .int 0])), (b9, .inl (aC 0, 128, .inl (fun _ => 0))), (r10, .inl (aC 1, 128, .inl (fun _ => 0))), (q11, .inr (1, [.ref b14, .ref r15, .int 0])), (b14, .inl (aC 0, 128, .inl (fun _ => 0))), (r15, .inl (aC 1, 128, .inl (fun _ => 0))), (q16, .inl (aC 0, 128, .inl (fun _ => 0)))] H := hP
  have hD : va_D A [(h0, .inr (2, [.ref q1, .ref q6, .ref q11, .null, .null])), (q1, .inr (1, [.ref b4, .ref r5, .int 0])), (b4, .inl (aC 0, 128, .inl (fun _ => 0))), (r5, .inl (aC 1, 128, .inl (fun _ => 0))), (q6, .inr (1, [.ref b9, .ref r10, .int 0])), (b9, .inl (aC 0, 128, .inl (fun _ => 0))), (r10, .inl (aC 1, 128, .inl (fun _ => 0))), (q11, .inr (1, [.ref b14, .ref r15, .int 0])), (b14, .inl (aC 0, 128, .inl (fun _ => 0))), (r15, .inl (aC 1, 128, .inl (fun _ => 0))), (q16, .inl (aC 0, 128, .inl (fun _ => 0)))] := hD
  refine W.widen (k := 10) (n := 905) (Nat.le_of_ble_eq_true rfl) (Nat.le_of_ble_eq_true rfl) ?_
  refine va_putF (D := (dC, dI)) (ci := 2) (v := .ref q16) (ty := (.array .boolean)) (C := RX0) (T := TX0) (N := 5) hx hb hts (by decide +kernel) tyX0 tyX0_ok nmX0 hown hK hP hD hS 0 rfl rfl 3 (by decide) (hts (.fieldLink RX0 24 "Transversary$Covers" "isCover" "[Z") (by decide +kernel)) (fun _ h9 => h9) rfl hin rfl (by decide +kernel) rfl rfl (Nat.le_of_ble_eq_true rfl) dX0_init_43 (fun H locs hP hD hS => ?_)
  have hP : va_P (dC, dI) rfCl [(h0, .inr (2, [.ref q1, .ref q6, .ref q11, .ref q16, .null])), (q1, .inr (1, [.ref b4, .ref r5, .int 0])), (b4, .inl (aC 0, 128, .inl (fun _ => 0))), (r5, .inl (aC 1, 128, .inl (fun _ => 0))), (q6, .inr (1, [.ref b9, .ref r10, .int 0])), (b9, .inl (aC 0, 128, .inl (fun _ => 0))), (r10, .inl (aC 1, 128, .inl (fun _ => 0))), (q11, .inr (1, [.ref b14, .ref r15, .int 0])), (b14, .inl (aC 0, 128, .inl (fun _ => 0))), (r15, .inl (aC 1, 128, .inl (fun _ => 0))), (q16, .inl (aC 0, 128, .inl (fun _ => 0)))] H := hP
  have hD : va_D A [(h0, .inr (2, [.ref q1, .ref q6, .ref q11, .ref q16, .null])), (q1, .inr (1, [.ref b4, .ref r5, .int 0])), (b4, .inl (aC 0, 128, .inl (fun _ => 0))), (r5, .inl (aC 1, 128, .inl (fun _ => 0))), (q6, .inr (1, [.ref b9, .ref r10, .int 0])), (b9, .inl (aC 0, 128, .inl (fun _ => 0))), (r10, .inl (aC 1, 128, .inl (fun _ => 0))), (q11, .inr (1, [.ref b14, .ref r15, .int 0])), (b14, .inl (aC 0, 128, .inl (fun _ => 0))), (r15, .inl (aC 1, 128, .inl (fun _ => 0))), (q16, .inl (aC 0, 128, .inl (fun _ => 0)))] := hD
  refine lv_aload_n hx hb dX0_init_46 rfl (lv_at hl 0 rfl) ?_
  refine lv_sipush (v := 128) hx hb dX0_init_47 (by decide) ?_
  refine va_newa (atype := .int) (ty := .int) (a0 := (128, .inl (fun _ => 0))) hx hb (hts (.arrayClass .int) (by decide +kernel)) rfl hK hP hD hS hA (fun _ => rfl) (by decide) (by decide) (by decide) (Nat.le_of_ble_eq_true rfl) (Nat.le_of_ble_eq_true rfl) dX0_init_50 (fun q17 cA9 H hK hP hD hS => ?_)
  obtain rfl : cA9 = aC 1 := rf_sameA hK 6 1 rfl rfl
  have hK := hK.sub (tys' := rfT aC) [0, 1, 2, 3, 4, 5] rfl
  have hP : va_P (dC, dI) rfCl [(h0, .inr (2, [.ref q1, .ref q6, .ref q11, .ref q16, .null])), (q1, .inr (1, [.ref b4, .ref r5, .int 0])), (b4, .inl (aC 0, 128, .inl (fun _ => 0))), (r5, .inl (aC 1, 128, .inl (fun _ => 0))), (q6, .inr (1, [.ref b9, .ref r10, .int 0])), (b9, .inl (aC 0, 128, .inl (fun _ => 0))), (r10, .inl (aC 1, 128, .inl (fun _ => 0))), (q11, .inr (1, [.ref b14, .ref r15, .int 0])), (b14, .inl (aC 0, 128, .inl (fun _ => 0))), (r15, .inl (aC 1, 128, .inl (fun _ => 0))), (q16, .inl (aC 0, 128, .inl (fun _ => 0))), (q17, .inl (aC 1, 128, .inl (fun _ => 0)))] H := hP
  have hD : va_D A [(h0, .inr (2, [.ref q1, .ref q6, .ref q11, .ref q16, .null])), (q1, .inr (1, [.ref b4, .ref r5, .int 0])), (b4, .inl (aC 0, 128, .inl (fun _ => 0))), (r5, .inl (aC 1, 128, .inl (fun _ => 0))), (q6, .inr (1, [.ref b9, .ref r10, .int 0])), (b9, .inl (aC 0, 128, .inl (fun _ => 0))), (r10, .inl (aC 1, 128, .inl (fun _ => 0))), (q11, .inr (1, [.ref b14, .ref r15, .int 0])), (b14, .inl (aC 0, 128, .inl (fun _ => 0))), (r15, .inl (aC 1, 128, .inl (fun _ => 0))), (q16, .inl (aC 0, 128, .inl (fun _ => 0))), (q17, .inl (aC 1, 128, .inl (fun _ => 0)))] := hD
  refine W.widen (k := 11) (n := 1033) (Nat.le_of_ble_eq_true rfl) (Nat.le_of_ble_eq_true rfl) ?_
  refine va_putF (D := (dC, dI)) (ci := 2) (v := .ref q17) (ty := (.array .int)) (C := RX0) (T := TX0) (N := 5) hx hb hts (by decide +kernel) tyX0 tyX0_ok nmX0 hown hK hP hD hS 0 rfl rfl 4 (by decide) (hts (.fieldLink RX0 28 "Transversary$Covers" "packed" "[I") (by decide +kernel)) (fun _ h9 => h9) rfl hin rfl (by decide +kernel) rfl rfl (Nat.le_of_ble_eq_true rfl) dX0_init_52 (fun H locs hP hD hS => ?_)
  have hP : va_P (dC, dI) rfCl [(h0, .inr (2, [.ref q1, .ref q6, .ref q11, .ref q16, .ref q17])), (q1, .inr (1, [.ref b4, .ref r5, .int 0])), (b4, .inl (aC 0, 128, .inl (fun _ => 0))), (r5, .inl (aC 1, 128, .inl (fun _ => 0))), (q6, .inr (1, [.ref b9, .ref r10, .int 0])), (b9, .inl (aC 0, 128, .inl (fun _ => 0))), (r10, .inl (aC 1, 128, .inl (fun _ => 0))), (q11, .inr (1, [.ref b14, .ref r15, .int 0])), (b14, .inl (aC 0, 128, .inl (fun _ => 0))), (r15, .inl (aC 1, 128, .inl (fun _ => 0))), (q16, .inl (aC 0, 128, .inl (fun _ => 0))), (q17, .inl (aC 1, 128, .inl (fun _ => 0)))] H := hP
  have hD : va_D A [(h0, .inr (2, [.ref q1, .ref q6, .ref q11, .ref q16, .ref q17])), (q1, .inr (1, [.ref b4, .ref r5, .int 0])), (b4, .inl (aC 0, 128, .inl (fun _ => 0))), (r5, .inl (aC 1, 128, .inl (fun _ => 0))), (q6, .inr (1, [.ref b9, .ref r10, .int 0])), (b9, .inl (aC 0, 128, .inl (fun _ => 0))), (r10, .inl (aC 1, 128, .inl (fun _ => 0))), (q11, .inr (1, [.ref b14, .ref r15, .int 0])), (b14, .inl (aC 0, 128, .inl (fun _ => 0))), (r15, .inl (aC 1, 128, .inl (fun _ => 0))), (q16, .inl (aC 0, 128, .inl (fun _ => 0))), (q17, .inl (aC 1, 128, .inl (fun _ => 0)))] := hD
  have hP9 := hP.sub (ws' := []) [] rfl
  have hD9 := hD.sub (ws' := []) [] (by decide) rfl
  refine W.widen (k := 11) (n := 1033) (Nat.le_of_ble_eq_true rfl) (Nat.le_of_ble_eq_true rfl) ?_
  exact W.vret hx hb hr (fun t ht hW => ⟨⟨(), rfl, trivial, by rw [ht]; exact hP9, hD9⟩, hS.F ht⟩) hS.2.2 dX0_init_55

set_option maxHeartbeats 4000000 in
set_option maxRecDepth 100000 in
theorem c_X4_init (l : Launch) (dC : Nat → ClassId) (dI : Nat → Nat → Nat) (aC : Nat → ClassId) (sz : Nat) (h0 : Nat)  : Met l yX4_init wsX4_init ({ frames := 2, cells := 10, slots := 399, locals := 40 } : Room) (rf_Pc (dC, dI) aC [.ref h0] [(h0, .inr (3, [.null, .null, .long 0, .long 0, .long 0]))] sz) (va_Qv (fun (u : Unit) => True) (fun (u : Unit) t => va_P (dC, dI) rfCl [] t.heap ∧ va_D (va_A [(h0, .inr (3, [.null, .null, .long 0, .long 0, .long 0]))] sz) []) (va_A [(h0, .inr (3, [.null, .null, .long 0, .long 0, .long 0]))] sz)) 10 399 (va_A [(h0, .inr (3, [.null, .null, .long 0, .long 0, .long 0]))] sz) := by
  refine Met.ofW (cc := cX4_init) (maxL := 1) (ret := none) (by decide) rfl ?_
  intro p e s m args below meth c s₁ B hml hv
  obtain ⟨rfl, hsz, hP, hKN, hD0⟩ := hv
  obtain ⟨hK, hN⟩ := hKN
  have hx := B.exec
  have hb := B.bytes
  have hr := B.returns
  have hts := atoms_spec (ws := wsX4_init) B.pre
  have hown : s.vm.findClass RX4 = some m.cls := findClass_of_methodNamed B.named
  have hlocks := B.notSynchronized
  have hin : meth.name = "<init>" := (name_of_methodNamed B.named B.method).1
  subst hsz
  have hD := hD0.self (sz := s.heap.size)
  generalize hAe : va_A [(h0, .inr (3, [.null, .null, .long 0, .long 0, .long 0]))] s.heap.size = A at hD ⊢
  have hA : ∀ q : Nat, s.heap.size ≤ q → A q := fun q h => by rw [← hAe]; exact Or.inr h
  have hS : va_S A s.heap s.heap [] := va_S.rf
  have hP : va_P (dC, dI) rfCl [(h0, .inr (3, [.null, .null, .long 0, .long 0, .long 0]))] s.heap := hP
  have hl := lv_entry ([.ref h0]) (n := 1) (Nat.le_of_ble_eq_true rfl)
  rw [lg_entry_eq]
  generalize (lg_sl ([.ref h0]) ++ List.replicate (1 - (lg_sl ([.ref h0])).length) Slot.unset).toArray = ls at hl ⊢
  have hl : lv_has ls 1 [(0, .ref h0)] := hl
  refine lv_aload_n hx hb dX4_init_0 rfl (lv_at hl 0 rfl) ?_
  refine W.objInit hx hb hown (hts (.methodLink RX4 3 objectInit) (by decide +kernel)) (hts (.instanceMethod objectInit) (by decide +kernel)) (hts (.code objectInit ⟨#[0xb1]⟩ 1 none) (by decide +kernel)) rfl (by rw [hml]; exact hl.1) rfl dX4_init_1 (Nat.le_of_ble_eq_true rfl) (Nat.le_of_ble_eq_true rfl) ?_
  refine W.eq (g2 := F0 m 4 ls []) rfl ?_
  refine lv_aload_n hx hb dX4_init_4 rfl (lv_at hl 0 rfl) ?_
  refine lv_bipush (v := 8) hx hb dX4_init_5 (by decide) ?_
  refine lv_bipush (v := 48) hx hb dX4_init_7 (by decide) ?_
  refine va_mna (X := [(h0, .inr (3, [.null, .null, .long 0, .long 0, .long 0]))]) (L := []) (f := fun _ => .inl (aC 2, 0, .inl (fun _ => 0))) (ty := .long) (cy := aC 2) (N' := 8) (K' := 48) (z := (48, .inr (.inl (fun _ => 0)))) hx hb hown (by rw [show "[" ++ (FieldType.array .long).toString = "[[J" from by decide +kernel]; exact hts (.classLink RX4 9 "[[J") (by decide +kernel)) hN.2.2.2.1 (hts (.arrayClass .long) (by decide +kernel)) (by rw [show (FieldType.array .long).toString = "[" ++ FieldType.toString .long from by decide +kernel]; exact (hK.2 2 _ rfl).2) hK hP hD hS hA (by decide) (by decide) (by decide) (by decide) (by decide) (by decide) (by decide) rfl rfl (Nat.le_of_ble_eq_true rfl) (Nat.le_of_ble_eq_true rfl) (fun c9 => rf_inner c9 48) dX4_init_9 (fun q1 r9 cA9 H _ _ hK hP hD hS => ?_)
  have hK := hK.sub (tys' := rfT aC) [0, 1, 2, 3, 4, 5] rfl
  have hP := hP.sub (ws' := [(h0, .inr (3, [.null, .null, .long 0, .long 0, .long 0]))]) [0] rfl
  have hD := hD.sub (ws' := [(h0, .inr (3, [.null, .null, .long 0, .long 0, .long 0]))]) [0] (by decide) rfl
  have hP : va_P (dC, dI) rfCl [(h0, .inr (3, [.null, .null, .long 0, .long 0, .long 0]))] H := hP
  have hD : va_D A [(h0, .inr (3, [.null, .null, .long 0, .long 0, .long 0]))] := hD
  refine W.widen (k := 9) (n := 392) (Nat.le_of_ble_eq_true rfl) (Nat.le_of_ble_eq_true rfl) ?_
  refine va_putF (D := (dC, dI)) (ci := 3) (v := .ref q1) (ty := (.array (.array .long))) (C := RX4) (T := TX4) (N := 5) hx hb hts (by decide +kernel) tyX4 tyX4_ok nmX4 hown hK hP hD hS 0 rfl rfl 0 (by decide) (hts (.fieldLink RX4 11 "Transversary$Price" "table" "[[J") (by decide +kernel)) (fun _ h9 => h9) rfl hin rfl (by decide +kernel) rfl rfl (Nat.le_of_ble_eq_true rfl) dX4_init_13 (fun H locs hP hD hS => ?_)
  have hP : va_P (dC, dI) rfCl [(h0, .inr (3, [.ref q1, .null, .long 0, .long 0, .long 0]))] H := hP
  have hD : va_D A [(h0, .inr (3, [.ref q1, .null, .long 0, .long 0, .long 0]))] := hD
  refine lv_aload_n hx hb dX4_init_16 rfl (lv_at hl 0 rfl) ?_
  refine lv_bipush (v := 7) hx hb dX4_init_17 (by decide) ?_
  refine va_newa (atype := .int) (ty := .int) (a0 := (7, .inl (fun _ => 0))) hx hb (hts (.arrayClass .int) (by decide +kernel)) rfl hK hP hD hS hA (fun _ => rfl) (by decide) (by decide) (by decide) (Nat.le_of_ble_eq_true rfl) (Nat.le_of_ble_eq_true rfl) dX4_init_19 (fun q2 cA9 H hK hP hD hS => ?_)
  obtain rfl : cA9 = aC 1 := rf_sameA hK 6 1 rfl rfl
  have hK := hK.sub (tys' := rfT aC) [0, 1, 2, 3, 4, 5] rfl
  have hP : va_P (dC, dI) rfCl [(h0, .inr (3, [.ref q1, .null, .long 0, .long 0, .long 0])), (q2, .inl (aC 1, 7, .inl (fun _ => 0)))] H := hP
  have hD : va_D A [(h0, .inr (3, [.ref q1, .null, .long 0, .long 0, .long 0])), (q2, .inl (aC 1, 7, .inl (fun _ => 0)))] := hD
  refine W.widen (k := 10) (n := 399) (Nat.le_of_ble_eq_true rfl) (Nat.le_of_ble_eq_true rfl) ?_
  refine va_putF (D := (dC, dI)) (ci := 3) (v := .ref q2) (ty := (.array .int)) (C := RX4) (T := TX4) (N := 5) hx hb hts (by decide +kernel) tyX4 tyX4_ok nmX4 hown hK hP hD hS 0 rfl rfl 1 (by decide) (hts (.fieldLink RX4 16 "Transversary$Price" "basis" "[I") (by decide +kernel)) (fun _ h9 => h9) rfl hin rfl (by decide +kernel) rfl rfl (Nat.le_of_ble_eq_true rfl) dX4_init_21 (fun H locs hP hD hS => ?_)
  have hP : va_P (dC, dI) rfCl [(h0, .inr (3, [.ref q1, .ref q2, .long 0, .long 0, .long 0])), (q2, .inl (aC 1, 7, .inl (fun _ => 0)))] H := hP
  have hD : va_D A [(h0, .inr (3, [.ref q1, .ref q2, .long 0, .long 0, .long 0])), (q2, .inl (aC 1, 7, .inl (fun _ => 0)))] := hD
  have hP9 := hP.sub (ws' := []) [] rfl
  have hD9 := hD.sub (ws' := []) [] (by decide) rfl
  refine W.widen (k := 10) (n := 399) (Nat.le_of_ble_eq_true rfl) (Nat.le_of_ble_eq_true rfl) ?_
  exact W.vret hx hb hr (fun t ht hW => ⟨⟨(), rfl, trivial, by rw [ht]; exact hP9, hD9⟩, hS.F ht⟩) hS.2.2 dX4_init_24

set_option maxHeartbeats 4000000 in
set_option maxRecDepth 100000 in
theorem c_X6_init (l : Launch) (dC : Nat → ClassId) (dI : Nat → Nat → Nat) (aC : Nat → ClassId) (sz : Nat) (h0 : Nat) (cv : Nat)  : Met l yX6_init wsX6_init ({ frames := 2, cells := 4, slots := 387, locals := 40 } : Room) (rf_Pc (dC, dI) aC [.ref h0, .ref cv] [(h0, .inr (5, [.null, .null, .null, .int 0, .int 0]))] sz) (va_Qv (fun (u : Unit) => True) (fun (u : Unit) t => va_P (dC, dI) rfCl [] t.heap ∧ va_D (va_A [(h0, .inr (5, [.null, .null, .null, .int 0, .int 0]))] sz) []) (va_A [(h0, .inr (5, [.null, .null, .null, .int 0, .int 0]))] sz)) 4 387 (va_A [(h0, .inr (5, [.null, .null, .null, .int 0, .int 0]))] sz) := by
  refine Met.ofW (cc := cX6_init) (maxL := 2) (ret := none) (by decide) rfl ?_
  intro p e s m args below meth c s₁ B hml hv
  obtain ⟨rfl, hsz, hP, hKN, hD0⟩ := hv
  obtain ⟨hK, hN⟩ := hKN
  have hx := B.exec
  have hb := B.bytes
  have hr := B.returns
  have hts := atoms_spec (ws := wsX6_init) B.pre
  have hown : s.vm.findClass RX6 = some m.cls := findClass_of_methodNamed B.named
  have hlocks := B.notSynchronized
  have hin : meth.name = "<init>" := (name_of_methodNamed B.named B.method).1
  subst hsz
  have hD := hD0.self (sz := s.heap.size)
  generalize hAe : va_A [(h0, .inr (5, [.null, .null, .null, .int 0, .int 0]))] s.heap.size = A at hD ⊢
  have hA : ∀ q : Nat, s.heap.size ≤ q → A q := fun q h => by rw [← hAe]; exact Or.inr h
  have hS : va_S A s.heap s.heap [] := va_S.rf
  have hP : va_P (dC, dI) rfCl [(h0, .inr (5, [.null, .null, .null, .int 0, .int 0]))] s.heap := hP
  have hl := lv_entry ([.ref h0, .ref cv]) (n := 2) (Nat.le_of_ble_eq_true rfl)
  rw [lg_entry_eq]
  generalize (lg_sl ([.ref h0, .ref cv]) ++ List.replicate (2 - (lg_sl ([.ref h0, .ref cv])).length) Slot.unset).toArray = ls at hl ⊢
  have hl : lv_has ls 2 [(0, .ref h0), (1, .ref cv)] := hl
  refine lv_aload_n hx hb dX6_init_0 rfl (lv_at hl 0 rfl) ?_
  refine W.objInit hx hb hown (hts (.methodLink RX6 3 objectInit) (by decide +kernel)) (hts (.instanceMethod objectInit) (by decide +kernel)) (hts (.code objectInit ⟨#[0xb1]⟩ 1 none) (by decide +kernel)) rfl (by rw [hml]; exact hl.1) rfl dX6_init_1 (Nat.le_of_ble_eq_true rfl) (Nat.le_of_ble_eq_true rfl) ?_
  refine W.eq (g2 := F0 m 4 ls []) rfl ?_
  refine lv_aload_n hx hb dX6_init_4 rfl (lv_at hl 0 rfl) ?_
  refine va_new (ci := 1) (fs := [.null, .null, .int 0]) (C := RX7) (T := TX7) (N := 3) hx hb hts (by decide +kernel) tyX7 tyX7_ok hown (hts (.classLink RX6 9 RX7) (by decide +kernel)) (hts (.instantiable RX7 3) (by decide +kernel)) (hts (.initialized RX7) (by decide +kernel)) hK hP hD hS hA rfl (fun j hj => by rcases (show j = 0 ∨ j = 1 ∨ j = 2 by omega) with rfl | rfl | rfl <;> rfl) (Nat.le_of_ble_eq_true rfl) (Nat.le_of_ble_eq_true rfl) dX6_init_5 (fun q1 H hP hD hS => ?_)
  have hP : va_P (dC, dI) rfCl [(h0, .inr (5, [.null, .null, .null, .int 0, .int 0])), (q1, .inr (1, [.null, .null, .int 0]))] H := hP
  have hD : va_D A [(h0, .inr (5, [.null, .null, .null, .int 0, .int 0])), (q1, .inr (1, [.null, .null, .int 0]))] := hD
  refine W.widen (k := 1) (n := 3) (Nat.le_of_ble_eq_true rfl) (Nat.le_of_ble_eq_true rfl) ?_
  refine lv_dup hx hb dX6_init_8 rfl ?_
  have hPc := hP.sub (ws' := [(q1, .inr (1, [.null, .null, .int 0]))]) [1] rfl
  have hDc := hD.sub (ws' := [(q1, .inr (1, [.null, .null, .int 0]))]) [1] (by decide) rfl
  have hFc := va_free (wc := [(q1, .inr (1, [.null, .null, .int 0]))]) hD hS hA [1] rfl
  refine va_callv (va_runIN (As := []) (rest := [.ref q1, .ref h0]) ⟨hx, hb, hml, hown, hts⟩ (c_X7_init l dC dI aC H.size q1) (⟨va_cnB 0 hts (goodIn_sub (by decide +kernel) (by decide +kernel)) rfl rfl rfl (rf_nst hN 4 (q := (RX6, 11, yX7_init, "Transversary")) rfl) (hts (.initialized RX7) (by decide +kernel)) (by decide +kernel) ⟨Nat.le_of_ble_eq_true rfl, Nat.le_of_ble_eq_true rfl⟩, rfl, hts (.instanceMethod yX7_init) (by decide +kernel)⟩) (rf_ps hK hN hPc hDc) rfl rfl hl.1 rfl (lv_room (Nat.le_of_ble_eq_true rfl)) dX6_init_9 ⟨Nat.le_of_ble_eq_true rfl, Nat.le_of_ble_eq_true rfl⟩) hS (fun q _ h => hFc q h) hFc (fun u2 t H1 locs ht hvm hwu2 hB hz1 hk1 hS => ?_)
  obtain ⟨hP1, hD1⟩ := hB
  rw [ht] at hP1
  try dsimp only at hwu2 hP1 hD1
  obtain ⟨hP, hD⟩ := va_join (wr := [(h0, .inr (5, [.null, .null, .null, .int 0, .int 0]))]) (w1 := [(q1, .inr (1, [.ref (u2.1), .ref (u2.2), .int 0])), ((u2.1), .inl (aC 0, 128, .inl (fun _ => 0))), ((u2.2), .inl (aC 1, 128, .inl (fun _ => 0)))]) hP hD [1] [0] rfl rfl (by decide) (by decide) hk1 hFc hP1 hD1
  clear hP1 hD1 hPc hDc hFc
  generalize H1 = H at hP hS ⊢
  have hP : va_P (dC, dI) rfCl [(h0, .inr (5, [.null, .null, .null, .int 0, .int 0])), (q1, .inr (1, [.ref (u2.1), .ref (u2.2), .int 0])), ((u2.1), .inl (aC 0, 128, .inl (fun _ => 0))), ((u2.2), .inl (aC 1, 128, .inl (fun _ => 0)))] H := hP
  have hD : va_D A [(h0, .inr (5, [.null, .null, .null, .int 0, .int 0])), (q1, .inr (1, [.ref (u2.1), .ref (u2.2), .int 0])), ((u2.1), .inl (aC 0, 128, .inl (fun _ => 0))), ((u2.2), .inl (aC 1, 128, .inl (fun _ => 0)))] := hD
  refine W.widen (k := 3) (n := 259) (Nat.le_of_ble_eq_true rfl) (Nat.le_of_ble_eq_true rfl) ?_
  obtain ⟨b4, r5⟩ := u2
  try dsimp only at hP hD
  have hP : va_P (dC, dI) rfCl [(h0, .inr (5, [.null, .null, .null, .int 0, .int 0])), (q1, .inr (1, [.ref b4, .ref r5, .int 0])), (b4, .inl (aC 0, 128, .inl (fun _ => 0))), (r5, .inl (aC 1, 128, .inl (fun _ => 0)))] H := hP
  have hD : va_D A [(h0, .inr (5, [.null, .null, .null, .int 0, .int 0])), (q1, .inr (1, [.ref b4, .ref r5, .int 0])), (b4, .inl (aC 0, 128, .inl (fun _ => 0))), (r5, .inl (aC 1, 128, .inl (fun _ => 0)))] := hD
  refine va_putF (D := (dC, dI)) (ci := 5) (v := .ref q1) (ty := (.object "Transversary$Sets")) (C := RX6) (T := TX6) (N := 5) hx hb hts (by decide +kernel) tyX6 tyX6_ok nmX6 hown hK hP hD hS 0 rfl rfl 1 (by decide) (hts (.fieldLink RX6 12 "Transversary$Samples" "petals" "LTransversary$Sets;") (by decide +kernel)) (fun _ h9 => h9) rfl hin rfl (by decide +kernel) rfl rfl (Nat.le_of_ble_eq_true rfl) dX6_init_12 (fun H locs hP hD hS => ?_)
  have hP : va_P (dC, dI) rfCl [(h0, .inr (5, [.null, .ref q1, .null, .int 0, .int 0])), (q1, .inr (1, [.ref b4, .ref r5, .int 0])), (b4, .inl (aC 0, 128, .inl (fun _ => 0))), (r5, .inl (aC 1, 128, .inl (fun _ => 0)))] H := hP
  have hD : va_D A [(h0, .inr (5, [.null, .ref q1, .null, .int 0, .int 0])), (q1, .inr (1, [.ref b4, .ref r5, .int 0])), (b4, .inl (aC 0, 128, .inl (fun _ => 0))), (r5, .inl (aC 1, 128, .inl (fun _ => 0)))] := hD
  refine lv_aload_n hx hb dX6_init_15 rfl (lv_at hl 0 rfl) ?_
  refine lv_sipush (v := 128) hx hb dX6_init_16 (by decide) ?_
  refine va_newa (atype := .long) (ty := .long) (a0 := (128, .inr (.inl (fun _ => 0)))) hx hb (hts (.arrayClass .long) (by decide +kernel)) rfl hK hP hD hS hA (fun _ => rfl) (by decide) (by decide) (by decide) (Nat.le_of_ble_eq_true rfl) (Nat.le_of_ble_eq_true rfl) dX6_init_19 (fun q6 cA9 H hK hP hD hS => ?_)
  obtain rfl : cA9 = aC 2 := rf_sameA hK 6 2 rfl rfl
  have hK := hK.sub (tys' := rfT aC) [0, 1, 2, 3, 4, 5] rfl
  have hP : va_P (dC, dI) rfCl [(h0, .inr (5, [.null, .ref q1, .null, .int 0, .int 0])), (q1, .inr (1, [.ref b4, .ref r5, .int 0])), (b4, .inl (aC 0, 128, .inl (fun _ => 0))), (r5, .inl (aC 1, 128, .inl (fun _ => 0))), (q6, .inl (aC 2, 128, .inr (.inl (fun _ => 0))))] H := hP
  have hD : va_D A [(h0, .inr (5, [.null, .ref q1, .null, .int 0, .int 0])), (q1, .inr (1, [.ref b4, .ref r5, .int 0])), (b4, .inl (aC 0, 128, .inl (fun _ => 0))), (r5, .inl (aC 1, 128, .inl (fun _ => 0))), (q6, .inl (aC 2, 128, .inr (.inl (fun _ => 0))))] := hD
  refine W.widen (k := 4) (n := 387) (Nat.le_of_ble_eq_true rfl) (Nat.le_of_ble_eq_true rfl) ?_
  refine va_putF (D := (dC, dI)) (ci := 5) (v := .ref q6) (ty := (.array .long)) (C := RX6) (T := TX6) (N := 5) hx hb hts (by decide +kernel) tyX6 tyX6_ok nmX6 hown hK hP hD hS 0 rfl rfl 2 (by decide) (hts (.fieldLink RX6 18 "Transversary$Samples" "outcomes" "[J") (by decide +kernel)) (fun _ h9 => h9) rfl hin rfl (by decide +kernel) rfl rfl (Nat.le_of_ble_eq_true rfl) dX6_init_21 (fun H locs hP hD hS => ?_)
  have hP : va_P (dC, dI) rfCl [(h0, .inr (5, [.null, .ref q1, .ref q6, .int 0, .int 0])), (q1, .inr (1, [.ref b4, .ref r5, .int 0])), (b4, .inl (aC 0, 128, .inl (fun _ => 0))), (r5, .inl (aC 1, 128, .inl (fun _ => 0))), (q6, .inl (aC 2, 128, .inr (.inl (fun _ => 0))))] H := hP
  have hD : va_D A [(h0, .inr (5, [.null, .ref q1, .ref q6, .int 0, .int 0])), (q1, .inr (1, [.ref b4, .ref r5, .int 0])), (b4, .inl (aC 0, 128, .inl (fun _ => 0))), (r5, .inl (aC 1, 128, .inl (fun _ => 0))), (q6, .inl (aC 2, 128, .inr (.inl (fun _ => 0))))] := hD
  refine lv_aload_n hx hb dX6_init_24 rfl (lv_at hl 0 rfl) ?_
  refine lv_aload_n hx hb dX6_init_25 rfl (lv_at hl 1 rfl) ?_
  refine va_putF (D := (dC, dI)) (ci := 5) (v := .ref cv) (ty := (.object "Transversary$Covers")) (C := RX6) (T := TX6) (N := 5) hx hb hts (by decide +kernel) tyX6 tyX6_ok nmX6 hown hK hP hD hS 0 rfl rfl 0 (by decide) (hts (.fieldLink RX6 22 "Transversary$Samples" "covers" "LTransversary$Covers;") (by decide +kernel)) (fun _ h9 => h9) rfl hin rfl (by decide +kernel) rfl rfl (Nat.le_of_ble_eq_true rfl) dX6_init_26 (fun H locs hP hD hS => ?_)
  have hP : va_P (dC, dI) rfCl [(h0, .inr (5, [.ref cv, .ref q1, .ref q6, .int 0, .int 0])), (q1, .inr (1, [.ref b4, .ref r5, .int 0])), (b4, .inl (aC 0, 128, .inl (fun _ => 0))), (r5, .inl (aC 1, 128, .inl (fun _ => 0))), (q6, .inl (aC 2, 128, .inr (.inl (fun _ => 0))))] H := hP
  have hD : va_D A [(h0, .inr (5, [.ref cv, .ref q1, .ref q6, .int 0, .int 0])), (q1, .inr (1, [.ref b4, .ref r5, .int 0])), (b4, .inl (aC 0, 128, .inl (fun _ => 0))), (r5, .inl (aC 1, 128, .inl (fun _ => 0))), (q6, .inl (aC 2, 128, .inr (.inl (fun _ => 0))))] := hD
  have hP9 := hP.sub (ws' := []) [] rfl
  have hD9 := hD.sub (ws' := []) [] (by decide) rfl
  refine W.widen (k := 4) (n := 387) (Nat.le_of_ble_eq_true rfl) (Nat.le_of_ble_eq_true rfl) ?_
  exact W.vret hx hb hr (fun t ht hW => ⟨⟨(), rfl, trivial, by rw [ht]; exact hP9, hD9⟩, hS.F ht⟩) hS.2.2 dX6_init_29

set_option maxHeartbeats 4000000 in
set_option maxRecDepth 100000 in
theorem c_X8_init (l : Launch) (dC : Nat → ClassId) (dI : Nat → Nat → Nat) (aC : Nat → ClassId) (sz : Nat) (h0 : Nat)  : Met l yX8_init wsX8_init ({ frames := 2, cells := 2, slots := 256, locals := 40 } : Room) (rf_Pc (dC, dI) aC [.ref h0] [(h0, .inr (7, [.null, .null, .int 0]))] sz) (va_Qv (fun (u : Unit) => True) (fun (u : Unit) t => va_P (dC, dI) rfCl [] t.heap ∧ va_D (va_A [(h0, .inr (7, [.null, .null, .int 0]))] sz) []) (va_A [(h0, .inr (7, [.null, .null, .int 0]))] sz)) 2 256 (va_A [(h0, .inr (7, [.null, .null, .int 0]))] sz) := by
  refine Met.ofW (cc := cX8_init) (maxL := 1) (ret := none) (by decide) rfl ?_
  intro p e s m args below meth c s₁ B hml hv
  obtain ⟨rfl, hsz, hP, hKN, hD0⟩ := hv
  obtain ⟨hK, hN⟩ := hKN
  have hx := B.exec
  have hb := B.bytes
  have hr := B.returns
  have hts := atoms_spec (ws := wsX8_init) B.pre
  have hown : s.vm.findClass RX8 = some m.cls := findClass_of_methodNamed B.named
  have hlocks := B.notSynchronized
  have hin : meth.name = "<init>" := (name_of_methodNamed B.named B.method).1
  subst hsz
  have hD := hD0.self (sz := s.heap.size)
  generalize hAe : va_A [(h0, .inr (7, [.null, .null, .int 0]))] s.heap.size = A at hD ⊢
  have hA : ∀ q : Nat, s.heap.size ≤ q → A q := fun q h => by rw [← hAe]; exact Or.inr h
  have hS : va_S A s.heap s.heap [] := va_S.rf
  have hP : va_P (dC, dI) rfCl [(h0, .inr (7, [.null, .null, .int 0]))] s.heap := hP
  have hl := lv_entry ([.ref h0]) (n := 1) (Nat.le_of_ble_eq_true rfl)
  rw [lg_entry_eq]
  generalize (lg_sl ([.ref h0]) ++ List.replicate (1 - (lg_sl ([.ref h0])).length) Slot.unset).toArray = ls at hl ⊢
  have hl : lv_has ls 1 [(0, .ref h0)] := hl
  refine lv_aload_n hx hb dX8_init_0 rfl (lv_at hl 0 rfl) ?_
  refine W.objInit hx hb hown (hts (.methodLink RX8 3 objectInit) (by decide +kernel)) (hts (.instanceMethod objectInit) (by decide +kernel)) (hts (.code objectInit ⟨#[0xb1]⟩ 1 none) (by decide +kernel)) rfl (by rw [hml]; exact hl.1) rfl dX8_init_1 (Nat.le_of_ble_eq_true rfl) (Nat.le_of_ble_eq_true rfl) ?_
  refine W.eq (g2 := F0 m 4 ls []) rfl ?_
  refine lv_aload_n hx hb dX8_init_4 rfl (lv_at hl 0 rfl) ?_
  refine lv_sipush (v := 128) hx hb dX8_init_5 (by decide) ?_
  refine va_newa (atype := .boolean) (ty := .boolean) (a0 := (128, .inl (fun _ => 0))) hx hb (hts (.arrayClass .boolean) (by decide +kernel)) rfl hK hP hD hS hA (fun _ => rfl) (by decide) (by decide) (by decide) (Nat.le_of_ble_eq_true rfl) (Nat.le_of_ble_eq_true rfl) dX8_init_8 (fun q1 cA9 H hK hP hD hS => ?_)
  obtain rfl : cA9 = aC 0 := rf_sameA hK 6 0 rfl rfl
  have hK := hK.sub (tys' := rfT aC) [0, 1, 2, 3, 4, 5] rfl
  have hP : va_P (dC, dI) rfCl [(h0, .inr (7, [.null, .null, .int 0])), (q1, .inl (aC 0, 128, .inl (fun _ => 0)))] H := hP
  have hD : va_D A [(h0, .inr (7, [.null, .null, .int 0])), (q1, .inl (aC 0, 128, .inl (fun _ => 0)))] := hD
  refine W.widen (k := 1) (n := 128) (Nat.le_of_ble_eq_true rfl) (Nat.le_of_ble_eq_true rfl) ?_
  refine va_putF (D := (dC, dI)) (ci := 7) (v := .ref q1) (ty := (.array .boolean)) (C := RX8) (T := TX8) (N := 3) hx hb hts (by decide +kernel) tyX8 tyX8_ok nmX8 hown hK hP hD hS 0 rfl rfl 0 (by decide) (hts (.fieldLink RX8 9 "Transversary$Signs" "isOneColour" "[Z") (by decide +kernel)) (fun _ h9 => h9) rfl hin rfl (by decide +kernel) rfl rfl (Nat.le_of_ble_eq_true rfl) dX8_init_10 (fun H locs hP hD hS => ?_)
  have hP : va_P (dC, dI) rfCl [(h0, .inr (7, [.ref q1, .null, .int 0])), (q1, .inl (aC 0, 128, .inl (fun _ => 0)))] H := hP
  have hD : va_D A [(h0, .inr (7, [.ref q1, .null, .int 0])), (q1, .inl (aC 0, 128, .inl (fun _ => 0)))] := hD
  refine lv_aload_n hx hb dX8_init_13 rfl (lv_at hl 0 rfl) ?_
  refine lv_sipush (v := 128) hx hb dX8_init_14 (by decide) ?_
  refine va_newa (atype := .int) (ty := .int) (a0 := (128, .inl (fun _ => 0))) hx hb (hts (.arrayClass .int) (by decide +kernel)) rfl hK hP hD hS hA (fun _ => rfl) (by decide) (by decide) (by decide) (Nat.le_of_ble_eq_true rfl) (Nat.le_of_ble_eq_true rfl) dX8_init_17 (fun q2 cA9 H hK hP hD hS => ?_)
  obtain rfl : cA9 = aC 1 := rf_sameA hK 6 1 rfl rfl
  have hK := hK.sub (tys' := rfT aC) [0, 1, 2, 3, 4, 5] rfl
  have hP : va_P (dC, dI) rfCl [(h0, .inr (7, [.ref q1, .null, .int 0])), (q1, .inl (aC 0, 128, .inl (fun _ => 0))), (q2, .inl (aC 1, 128, .inl (fun _ => 0)))] H := hP
  have hD : va_D A [(h0, .inr (7, [.ref q1, .null, .int 0])), (q1, .inl (aC 0, 128, .inl (fun _ => 0))), (q2, .inl (aC 1, 128, .inl (fun _ => 0)))] := hD
  refine W.widen (k := 2) (n := 256) (Nat.le_of_ble_eq_true rfl) (Nat.le_of_ble_eq_true rfl) ?_
  refine va_putF (D := (dC, dI)) (ci := 7) (v := .ref q2) (ty := (.array .int)) (C := RX8) (T := TX8) (N := 3) hx hb hts (by decide +kernel) tyX8 tyX8_ok nmX8 hown hK hP hD hS 0 rfl rfl 1 (by decide) (hts (.fieldLink RX8 15 "Transversary$Signs" "fewest" "[I") (by decide +kernel)) (fun _ h9 => h9) rfl hin rfl (by decide +kernel) rfl rfl (Nat.le_of_ble_eq_true rfl) dX8_init_19 (fun H locs hP hD hS => ?_)
  have hP : va_P (dC, dI) rfCl [(h0, .inr (7, [.ref q1, .ref q2, .int 0])), (q1, .inl (aC 0, 128, .inl (fun _ => 0))), (q2, .inl (aC 1, 128, .inl (fun _ => 0)))] H := hP
  have hD : va_D A [(h0, .inr (7, [.ref q1, .ref q2, .int 0])), (q1, .inl (aC 0, 128, .inl (fun _ => 0))), (q2, .inl (aC 1, 128, .inl (fun _ => 0)))] := hD
  have hP9 := hP.sub (ws' := []) [] rfl
  have hD9 := hD.sub (ws' := []) [] (by decide) rfl
  refine W.widen (k := 2) (n := 256) (Nat.le_of_ble_eq_true rfl) (Nat.le_of_ble_eq_true rfl) ?_
  exact W.vret hx hb hr (fun t ht hW => ⟨⟨(), rfl, trivial, by rw [ht]; exact hP9, hD9⟩, hS.F ht⟩) hS.2.2 dX8_init_22

set_option maxHeartbeats 4000000 in
set_option maxRecDepth 100000 in
theorem c_X10_init (l : Launch) (dC : Nat → ClassId) (dI : Nat → Nat → Nat) (aC : Nat → ClassId) (sz : Nat) (h0 : Nat)  : Met l yX10_init wsX10_init ({ frames := 2, cells := 5, slots := 394, locals := 40 } : Room) (rf_Pc (dC, dI) aC [.ref h0] [(h0, .inr (8, [.null, .null, .null, .int 0]))] sz) (va_Qv (fun (u : Unit) => True) (fun (u : Unit) t => va_P (dC, dI) rfCl [] t.heap ∧ va_D (va_A [(h0, .inr (8, [.null, .null, .null, .int 0]))] sz) []) (va_A [(h0, .inr (8, [.null, .null, .null, .int 0]))] sz)) 5 394 (va_A [(h0, .inr (8, [.null, .null, .null, .int 0]))] sz) := by
  refine Met.ofW (cc := cX10_init) (maxL := 1) (ret := none) (by decide) rfl ?_
  intro p e s m args below meth c s₁ B hml hv
  obtain ⟨rfl, hsz, hP, hKN, hD0⟩ := hv
  obtain ⟨hK, hN⟩ := hKN
  have hx := B.exec
  have hb := B.bytes
  have hr := B.returns
  have hts := atoms_spec (ws := wsX10_init) B.pre
  have hown : s.vm.findClass RX10 = some m.cls := findClass_of_methodNamed B.named
  have hlocks := B.notSynchronized
  have hin : meth.name = "<init>" := (name_of_methodNamed B.named B.method).1
  subst hsz
  have hD := hD0.self (sz := s.heap.size)
  generalize hAe : va_A [(h0, .inr (8, [.null, .null, .null, .int 0]))] s.heap.size = A at hD ⊢
  have hA : ∀ q : Nat, s.heap.size ≤ q → A q := fun q h => by rw [← hAe]; exact Or.inr h
  have hS : va_S A s.heap s.heap [] := va_S.rf
  have hP : va_P (dC, dI) rfCl [(h0, .inr (8, [.null, .null, .null, .int 0]))] s.heap := hP
  have hl := lv_entry ([.ref h0]) (n := 1) (Nat.le_of_ble_eq_true rfl)
  rw [lg_entry_eq]
  generalize (lg_sl ([.ref h0]) ++ List.replicate (1 - (lg_sl ([.ref h0])).length) Slot.unset).toArray = ls at hl ⊢
  have hl : lv_has ls 1 [(0, .ref h0)] := hl
  refine lv_aload_n hx hb dX10_init_0 rfl (lv_at hl 0 rfl) ?_
  refine W.objInit hx hb hown (hts (.methodLink RX10 3 objectInit) (by decide +kernel)) (hts (.instanceMethod objectInit) (by decide +kernel)) (hts (.code objectInit ⟨#[0xb1]⟩ 1 none) (by decide +kernel)) rfl (by rw [hml]; exact hl.1) rfl dX10_init_1 (Nat.le_of_ble_eq_true rfl) (Nat.le_of_ble_eq_true rfl) ?_
  refine W.eq (g2 := F0 m 4 ls []) rfl ?_
  refine lv_aload_n hx hb dX10_init_4 rfl (lv_at hl 0 rfl) ?_
  refine va_new (ci := 1) (fs := [.null, .null, .int 0]) (C := RX7) (T := TX7) (N := 3) hx hb hts (by decide +kernel) tyX7 tyX7_ok hown (hts (.classLink RX10 9 RX7) (by decide +kernel)) (hts (.instantiable RX7 3) (by decide +kernel)) (hts (.initialized RX7) (by decide +kernel)) hK hP hD hS hA rfl (fun j hj => by rcases (show j = 0 ∨ j = 1 ∨ j = 2 by omega) with rfl | rfl | rfl <;> rfl) (Nat.le_of_ble_eq_true rfl) (Nat.le_of_ble_eq_true rfl) dX10_init_5 (fun q1 H hP hD hS => ?_)
  have hP : va_P (dC, dI) rfCl [(h0, .inr (8, [.null, .null, .null, .int 0])), (q1, .inr (1, [.null, .null, .int 0]))] H := hP
  have hD : va_D A [(h0, .inr (8, [.null, .null, .null, .int 0])), (q1, .inr (1, [.null, .null, .int 0]))] := hD
  refine W.widen (k := 1) (n := 3) (Nat.le_of_ble_eq_true rfl) (Nat.le_of_ble_eq_true rfl) ?_
  refine lv_dup hx hb dX10_init_8 rfl ?_
  have hPc := hP.sub (ws' := [(q1, .inr (1, [.null, .null, .int 0]))]) [1] rfl
  have hDc := hD.sub (ws' := [(q1, .inr (1, [.null, .null, .int 0]))]) [1] (by decide) rfl
  have hFc := va_free (wc := [(q1, .inr (1, [.null, .null, .int 0]))]) hD hS hA [1] rfl
  refine va_callv (va_runIN (As := []) (rest := [.ref q1, .ref h0]) ⟨hx, hb, hml, hown, hts⟩ (c_X7_init l dC dI aC H.size q1) (⟨va_cnB 0 hts (goodIn_sub (by decide +kernel) (by decide +kernel)) rfl rfl rfl (rf_nst hN 5 (q := (RX10, 11, yX7_init, "Transversary")) rfl) (hts (.initialized RX7) (by decide +kernel)) (by decide +kernel) ⟨Nat.le_of_ble_eq_true rfl, Nat.le_of_ble_eq_true rfl⟩, rfl, hts (.instanceMethod yX7_init) (by decide +kernel)⟩) (rf_ps hK hN hPc hDc) rfl rfl hl.1 rfl (lv_room (Nat.le_of_ble_eq_true rfl)) dX10_init_9 ⟨Nat.le_of_ble_eq_true rfl, Nat.le_of_ble_eq_true rfl⟩) hS (fun q _ h => hFc q h) hFc (fun u2 t H1 locs ht hvm hwu2 hB hz1 hk1 hS => ?_)
  obtain ⟨hP1, hD1⟩ := hB
  rw [ht] at hP1
  try dsimp only at hwu2 hP1 hD1
  obtain ⟨hP, hD⟩ := va_join (wr := [(h0, .inr (8, [.null, .null, .null, .int 0]))]) (w1 := [(q1, .inr (1, [.ref (u2.1), .ref (u2.2), .int 0])), ((u2.1), .inl (aC 0, 128, .inl (fun _ => 0))), ((u2.2), .inl (aC 1, 128, .inl (fun _ => 0)))]) hP hD [1] [0] rfl rfl (by decide) (by decide) hk1 hFc hP1 hD1
  clear hP1 hD1 hPc hDc hFc
  generalize H1 = H at hP hS ⊢
  have hP : va_P (dC, dI) rfCl [(h0, .inr (8, [.null, .null, .null, .int 0])), (q1, .inr (1, [.ref (u2.1), .ref (u2.2), .int 0])), ((u2.1), .inl (aC 0, 128, .inl (fun _ => 0))), ((u2.2), .inl (aC 1, 128, .inl (fun _ => 0)))] H := hP
  have hD : va_D A [(h0, .inr (8, [.null, .null, .null, .int 0])), (q1, .inr (1, [.ref (u2.1), .ref (u2.2), .int 0])), ((u2.1), .inl (aC 0, 128, .inl (fun _ => 0))), ((u2.2), .inl (aC 1, 128, .inl (fun _ => 0)))] := hD
  refine W.widen (k := 3) (n := 259) (Nat.le_of_ble_eq_true rfl) (Nat.le_of_ble_eq_true rfl) ?_
  obtain ⟨b4, r5⟩ := u2
  try dsimp only at hP hD
  have hP : va_P (dC, dI) rfCl [(h0, .inr (8, [.null, .null, .null, .int 0])), (q1, .inr (1, [.ref b4, .ref r5, .int 0])), (b4, .inl (aC 0, 128, .inl (fun _ => 0))), (r5, .inl (aC 1, 128, .inl (fun _ => 0)))] H := hP
  have hD : va_D A [(h0, .inr (8, [.null, .null, .null, .int 0])), (q1, .inr (1, [.ref b4, .ref r5, .int 0])), (b4, .inl (aC 0, 128, .inl (fun _ => 0))), (r5, .inl (aC 1, 128, .inl (fun _ => 0)))] := hD
  refine va_putF (D := (dC, dI)) (ci := 8) (v := .ref q1) (ty := (.object "Transversary$Sets")) (C := RX10) (T := TX10) (N := 4) hx hb hts (by decide +kernel) tyX10 tyX10_ok nmX10 hown hK hP hD hS 0 rfl rfl 0 (by decide) (hts (.fieldLink RX10 12 "Transversary$Trees" "left" "LTransversary$Sets;") (by decide +kernel)) (fun _ h9 => h9) rfl hin rfl (by decide +kernel) rfl rfl (Nat.le_of_ble_eq_true rfl) dX10_init_12 (fun H locs hP hD hS => ?_)
  have hP : va_P (dC, dI) rfCl [(h0, .inr (8, [.ref q1, .null, .null, .int 0])), (q1, .inr (1, [.ref b4, .ref r5, .int 0])), (b4, .inl (aC 0, 128, .inl (fun _ => 0))), (r5, .inl (aC 1, 128, .inl (fun _ => 0)))] H := hP
  have hD : va_D A [(h0, .inr (8, [.ref q1, .null, .null, .int 0])), (q1, .inr (1, [.ref b4, .ref r5, .int 0])), (b4, .inl (aC 0, 128, .inl (fun _ => 0))), (r5, .inl (aC 1, 128, .inl (fun _ => 0)))] := hD
  refine lv_aload_n hx hb dX10_init_15 rfl (lv_at hl 0 rfl) ?_
  refine lv_bipush (v := 7) hx hb dX10_init_16 (by decide) ?_
  refine va_newa (atype := .int) (ty := .int) (a0 := (7, .inl (fun _ => 0))) hx hb (hts (.arrayClass .int) (by decide +kernel)) rfl hK hP hD hS hA (fun _ => rfl) (by decide) (by decide) (by decide) (Nat.le_of_ble_eq_true rfl) (Nat.le_of_ble_eq_true rfl) dX10_init_18 (fun q6 cA9 H hK hP hD hS => ?_)
  obtain rfl : cA9 = aC 1 := rf_sameA hK 6 1 rfl rfl
  have hK := hK.sub (tys' := rfT aC) [0, 1, 2, 3, 4, 5] rfl
  have hP : va_P (dC, dI) rfCl [(h0, .inr (8, [.ref q1, .null, .null, .int 0])), (q1, .inr (1, [.ref b4, .ref r5, .int 0])), (b4, .inl (aC 0, 128, .inl (fun _ => 0))), (r5, .inl (aC 1, 128, .inl (fun _ => 0))), (q6, .inl (aC 1, 7, .inl (fun _ => 0)))] H := hP
  have hD : va_D A [(h0, .inr (8, [.ref q1, .null, .null, .int 0])), (q1, .inr (1, [.ref b4, .ref r5, .int 0])), (b4, .inl (aC 0, 128, .inl (fun _ => 0))), (r5, .inl (aC 1, 128, .inl (fun _ => 0))), (q6, .inl (aC 1, 7, .inl (fun _ => 0)))] := hD
  refine W.widen (k := 4) (n := 266) (Nat.le_of_ble_eq_true rfl) (Nat.le_of_ble_eq_true rfl) ?_
  refine va_putF (D := (dC, dI)) (ci := 8) (v := .ref q6) (ty := (.array .int)) (C := RX10) (T := TX10) (N := 4) hx hb hts (by decide +kernel) tyX10 tyX10_ok nmX10 hown hK hP hD hS 0 rfl rfl 1 (by decide) (hts (.fieldLink RX10 18 "Transversary$Trees" "neighbours" "[I") (by decide +kernel)) (fun _ h9 => h9) rfl hin rfl (by decide +kernel) rfl rfl (Nat.le_of_ble_eq_true rfl) dX10_init_20 (fun H locs hP hD hS => ?_)
  have hP : va_P (dC, dI) rfCl [(h0, .inr (8, [.ref q1, .ref q6, .null, .int 0])), (q1, .inr (1, [.ref b4, .ref r5, .int 0])), (b4, .inl (aC 0, 128, .inl (fun _ => 0))), (r5, .inl (aC 1, 128, .inl (fun _ => 0))), (q6, .inl (aC 1, 7, .inl (fun _ => 0)))] H := hP
  have hD : va_D A [(h0, .inr (8, [.ref q1, .ref q6, .null, .int 0])), (q1, .inr (1, [.ref b4, .ref r5, .int 0])), (b4, .inl (aC 0, 128, .inl (fun _ => 0))), (r5, .inl (aC 1, 128, .inl (fun _ => 0))), (q6, .inl (aC 1, 7, .inl (fun _ => 0)))] := hD
  refine lv_aload_n hx hb dX10_init_23 rfl (lv_at hl 0 rfl) ?_
  refine lv_sipush (v := 128) hx hb dX10_init_24 (by decide) ?_
  refine va_newa (atype := .int) (ty := .int) (a0 := (128, .inl (fun _ => 0))) hx hb (hts (.arrayClass .int) (by decide +kernel)) rfl hK hP hD hS hA (fun _ => rfl) (by decide) (by decide) (by decide) (Nat.le_of_ble_eq_true rfl) (Nat.le_of_ble_eq_true rfl) dX10_init_27 (fun q7 cA9 H hK hP hD hS => ?_)
  obtain rfl : cA9 = aC 1 := rf_sameA hK 6 1 rfl rfl
  have hK := hK.sub (tys' := rfT aC) [0, 1, 2, 3, 4, 5] rfl
  have hP : va_P (dC, dI) rfCl [(h0, .inr (8, [.ref q1, .ref q6, .null, .int 0])), (q1, .inr (1, [.ref b4, .ref r5, .int 0])), (b4, .inl (aC 0, 128, .inl (fun _ => 0))), (r5, .inl (aC 1, 128, .inl (fun _ => 0))), (q6, .inl (aC 1, 7, .inl (fun _ => 0))), (q7, .inl (aC 1, 128, .inl (fun _ => 0)))] H := hP
  have hD : va_D A [(h0, .inr (8, [.ref q1, .ref q6, .null, .int 0])), (q1, .inr (1, [.ref b4, .ref r5, .int 0])), (b4, .inl (aC 0, 128, .inl (fun _ => 0))), (r5, .inl (aC 1, 128, .inl (fun _ => 0))), (q6, .inl (aC 1, 7, .inl (fun _ => 0))), (q7, .inl (aC 1, 128, .inl (fun _ => 0)))] := hD
  refine W.widen (k := 5) (n := 394) (Nat.le_of_ble_eq_true rfl) (Nat.le_of_ble_eq_true rfl) ?_
  refine va_putF (D := (dC, dI)) (ci := 8) (v := .ref q7) (ty := (.array .int)) (C := RX10) (T := TX10) (N := 4) hx hb hts (by decide +kernel) tyX10 tyX10_ok nmX10 hown hK hP hD hS 0 rfl rfl 2 (by decide) (hts (.fieldLink RX10 22 "Transversary$Trees" "widths" "[I") (by decide +kernel)) (fun _ h9 => h9) rfl hin rfl (by decide +kernel) rfl rfl (Nat.le_of_ble_eq_true rfl) dX10_init_29 (fun H locs hP hD hS => ?_)
  have hP : va_P (dC, dI) rfCl [(h0, .inr (8, [.ref q1, .ref q6, .ref q7, .int 0])), (q1, .inr (1, [.ref b4, .ref r5, .int 0])), (b4, .inl (aC 0, 128, .inl (fun _ => 0))), (r5, .inl (aC 1, 128, .inl (fun _ => 0))), (q6, .inl (aC 1, 7, .inl (fun _ => 0))), (q7, .inl (aC 1, 128, .inl (fun _ => 0)))] H := hP
  have hD : va_D A [(h0, .inr (8, [.ref q1, .ref q6, .ref q7, .int 0])), (q1, .inr (1, [.ref b4, .ref r5, .int 0])), (b4, .inl (aC 0, 128, .inl (fun _ => 0))), (r5, .inl (aC 1, 128, .inl (fun _ => 0))), (q6, .inl (aC 1, 7, .inl (fun _ => 0))), (q7, .inl (aC 1, 128, .inl (fun _ => 0)))] := hD
  have hP9 := hP.sub (ws' := []) [] rfl
  have hD9 := hD.sub (ws' := []) [] (by decide) rfl
  refine W.widen (k := 5) (n := 394) (Nat.le_of_ble_eq_true rfl) (Nat.le_of_ble_eq_true rfl) ?_
  exact W.vret hx hb hr (fun t ht hW => ⟨⟨(), rfl, trivial, by rw [ht]; exact hP9, hD9⟩, hS.F ht⟩) hS.2.2 dX10_init_32

set_option maxHeartbeats 4000000 in
set_option maxRecDepth 100000 in
theorem c_X2_init (l : Launch) (dC : Nat → ClassId) (dI : Nat → Nat → Nat) (aC : Nat → ClassId) (sz : Nat) (h0 : Nat)  : Met l yX2_init wsX2_init ({ frames := 2, cells := 5, slots := 200, locals := 40 } : Room) (rf_Pc (dC, dI) aC [.ref h0] [(h0, .inr (9, [.null, .null, .null, .null, .null, .long 0, .long 0]))] sz) (va_Qv (fun (u : Unit) => True) (fun (u : Unit) t => va_P (dC, dI) rfCl [] t.heap ∧ va_D (va_A [(h0, .inr (9, [.null, .null, .null, .null, .null, .long 0, .long 0]))] sz) []) (va_A [(h0, .inr (9, [.null, .null, .null, .null, .null, .long 0, .long 0]))] sz)) 5 200 (va_A [(h0, .inr (9, [.null, .null, .null, .null, .null, .long 0, .long 0]))] sz) := by
  refine Met.ofW (cc := cX2_init) (maxL := 1) (ret := none) (by decide) rfl ?_
  intro p e s m args below meth c s₁ B hml hv
  obtain ⟨rfl, hsz, hP, hKN, hD0⟩ := hv
  obtain ⟨hK, hN⟩ := hKN
  have hx := B.exec
  have hb := B.bytes
  have hr := B.returns
  have hts := atoms_spec (ws := wsX2_init) B.pre
  have hown : s.vm.findClass RX2 = some m.cls := findClass_of_methodNamed B.named
  have hlocks := B.notSynchronized
  have hin : meth.name = "<init>" := (name_of_methodNamed B.named B.method).1
  subst hsz
  have hD := hD0.self (sz := s.heap.size)
  generalize hAe : va_A [(h0, .inr (9, [.null, .null, .null, .null, .null, .long 0, .long 0]))] s.heap.size = A at hD ⊢
  have hA : ∀ q : Nat, s.heap.size ≤ q → A q := fun q h => by rw [← hAe]; exact Or.inr h
  have hS : va_S A s.heap s.heap [] := va_S.rf
  have hP : va_P (dC, dI) rfCl [(h0, .inr (9, [.null, .null, .null, .null, .null, .long 0, .long 0]))] s.heap := hP
  have hl := lv_entry ([.ref h0]) (n := 1) (Nat.le_of_ble_eq_true rfl)
  rw [lg_entry_eq]
  generalize (lg_sl ([.ref h0]) ++ List.replicate (1 - (lg_sl ([.ref h0])).length) Slot.unset).toArray = ls at hl ⊢
  have hl : lv_has ls 1 [(0, .ref h0)] := hl
  refine lv_aload_n hx hb dX2_init_0 rfl (lv_at hl 0 rfl) ?_
  refine W.objInit hx hb hown (hts (.methodLink RX2 3 objectInit) (by decide +kernel)) (hts (.instanceMethod objectInit) (by decide +kernel)) (hts (.code objectInit ⟨#[0xb1]⟩ 1 none) (by decide +kernel)) rfl (by rw [hml]; exact hl.1) rfl dX2_init_1 (Nat.le_of_ble_eq_true rfl) (Nat.le_of_ble_eq_true rfl) ?_
  refine W.eq (g2 := F0 m 4 ls []) rfl ?_
  refine lv_aload_n hx hb dX2_init_4 rfl (lv_at hl 0 rfl) ?_
  refine lv_bipush (v := 40) hx hb dX2_init_5 (by decide) ?_
  refine va_newa (atype := .int) (ty := .int) (a0 := (40, .inl (fun _ => 0))) hx hb (hts (.arrayClass .int) (by decide +kernel)) rfl hK hP hD hS hA (fun _ => rfl) (by decide) (by decide) (by decide) (Nat.le_of_ble_eq_true rfl) (Nat.le_of_ble_eq_true rfl) dX2_init_7 (fun q1 cA9 H hK hP hD hS => ?_)
  obtain rfl : cA9 = aC 1 := rf_sameA hK 6 1 rfl rfl
  have hK := hK.sub (tys' := rfT aC) [0, 1, 2, 3, 4, 5] rfl
  have hP : va_P (dC, dI) rfCl [(h0, .inr (9, [.null, .null, .null, .null, .null, .long 0, .long 0])), (q1, .inl (aC 1, 40, .inl (fun _ => 0)))] H := hP
  have hD : va_D A [(h0, .inr (9, [.null, .null, .null, .null, .null, .long 0, .long 0])), (q1, .inl (aC 1, 40, .inl (fun _ => 0)))] := hD
  refine W.widen (k := 1) (n := 40) (Nat.le_of_ble_eq_true rfl) (Nat.le_of_ble_eq_true rfl) ?_
  refine va_putF (D := (dC, dI)) (ci := 9) (v := .ref q1) (ty := (.array .int)) (C := RX2) (T := TX2) (N := 7) hx hb hts (by decide +kernel) tyX2 tyX2_ok nmX2 hown hK hP hD hS 0 rfl rfl 0 (by decide) (hts (.fieldLink RX2 9 "Transversary$Orders" "lengths" "[I") (by decide +kernel)) (fun _ h9 => h9) rfl hin rfl (by decide +kernel) rfl rfl (Nat.le_of_ble_eq_true rfl) dX2_init_9 (fun H locs hP hD hS => ?_)
  have hP : va_P (dC, dI) rfCl [(h0, .inr (9, [.ref q1, .null, .null, .null, .null, .long 0, .long 0])), (q1, .inl (aC 1, 40, .inl (fun _ => 0)))] H := hP
  have hD : va_D A [(h0, .inr (9, [.ref q1, .null, .null, .null, .null, .long 0, .long 0])), (q1, .inl (aC 1, 40, .inl (fun _ => 0)))] := hD
  refine lv_aload_n hx hb dX2_init_12 rfl (lv_at hl 0 rfl) ?_
  refine lv_bipush (v := 40) hx hb dX2_init_13 (by decide) ?_
  refine va_newa (atype := .int) (ty := .int) (a0 := (40, .inl (fun _ => 0))) hx hb (hts (.arrayClass .int) (by decide +kernel)) rfl hK hP hD hS hA (fun _ => rfl) (by decide) (by decide) (by decide) (Nat.le_of_ble_eq_true rfl) (Nat.le_of_ble_eq_true rfl) dX2_init_15 (fun q2 cA9 H hK hP hD hS => ?_)
  obtain rfl : cA9 = aC 1 := rf_sameA hK 6 1 rfl rfl
  have hK := hK.sub (tys' := rfT aC) [0, 1, 2, 3, 4, 5] rfl
  have hP : va_P (dC, dI) rfCl [(h0, .inr (9, [.ref q1, .null, .null, .null, .null, .long 0, .long 0])), (q1, .inl (aC 1, 40, .inl (fun _ => 0))), (q2, .inl (aC 1, 40, .inl (fun _ => 0)))] H := hP
  have hD : va_D A [(h0, .inr (9, [.ref q1, .null, .null, .null, .null, .long 0, .long 0])), (q1, .inl (aC 1, 40, .inl (fun _ => 0))), (q2, .inl (aC 1, 40, .inl (fun _ => 0)))] := hD
  refine W.widen (k := 2) (n := 80) (Nat.le_of_ble_eq_true rfl) (Nat.le_of_ble_eq_true rfl) ?_
  refine va_putF (D := (dC, dI)) (ci := 9) (v := .ref q2) (ty := (.array .int)) (C := RX2) (T := TX2) (N := 7) hx hb hts (by decide +kernel) tyX2 tyX2_ok nmX2 hown hK hP hD hS 0 rfl rfl 1 (by decide) (hts (.fieldLink RX2 15 "Transversary$Orders" "upperOf" "[I") (by decide +kernel)) (fun _ h9 => h9) rfl hin rfl (by decide +kernel) rfl rfl (Nat.le_of_ble_eq_true rfl) dX2_init_17 (fun H locs hP hD hS => ?_)
  have hP : va_P (dC, dI) rfCl [(h0, .inr (9, [.ref q1, .ref q2, .null, .null, .null, .long 0, .long 0])), (q1, .inl (aC 1, 40, .inl (fun _ => 0))), (q2, .inl (aC 1, 40, .inl (fun _ => 0)))] H := hP
  have hD : va_D A [(h0, .inr (9, [.ref q1, .ref q2, .null, .null, .null, .long 0, .long 0])), (q1, .inl (aC 1, 40, .inl (fun _ => 0))), (q2, .inl (aC 1, 40, .inl (fun _ => 0)))] := hD
  refine lv_aload_n hx hb dX2_init_20 rfl (lv_at hl 0 rfl) ?_
  refine lv_bipush (v := 40) hx hb dX2_init_21 (by decide) ?_
  refine va_newa (atype := .int) (ty := .int) (a0 := (40, .inl (fun _ => 0))) hx hb (hts (.arrayClass .int) (by decide +kernel)) rfl hK hP hD hS hA (fun _ => rfl) (by decide) (by decide) (by decide) (Nat.le_of_ble_eq_true rfl) (Nat.le_of_ble_eq_true rfl) dX2_init_23 (fun q3 cA9 H hK hP hD hS => ?_)
  obtain rfl : cA9 = aC 1 := rf_sameA hK 6 1 rfl rfl
  have hK := hK.sub (tys' := rfT aC) [0, 1, 2, 3, 4, 5] rfl
  have hP : va_P (dC, dI) rfCl [(h0, .inr (9, [.ref q1, .ref q2, .null, .null, .null, .long 0, .long 0])), (q1, .inl (aC 1, 40, .inl (fun _ => 0))), (q2, .inl (aC 1, 40, .inl (fun _ => 0))), (q3, .inl (aC 1, 40, .inl (fun _ => 0)))] H := hP
  have hD : va_D A [(h0, .inr (9, [.ref q1, .ref q2, .null, .null, .null, .long 0, .long 0])), (q1, .inl (aC 1, 40, .inl (fun _ => 0))), (q2, .inl (aC 1, 40, .inl (fun _ => 0))), (q3, .inl (aC 1, 40, .inl (fun _ => 0)))] := hD
  refine W.widen (k := 3) (n := 120) (Nat.le_of_ble_eq_true rfl) (Nat.le_of_ble_eq_true rfl) ?_
  refine va_putF (D := (dC, dI)) (ci := 9) (v := .ref q3) (ty := (.array .int)) (C := RX2) (T := TX2) (N := 7) hx hb hts (by decide +kernel) tyX2 tyX2_ok nmX2 hown hK hP hD hS 0 rfl rfl 2 (by decide) (hts (.fieldLink RX2 18 "Transversary$Orders" "lowerOf" "[I") (by decide +kernel)) (fun _ h9 => h9) rfl hin rfl (by decide +kernel) rfl rfl (Nat.le_of_ble_eq_true rfl) dX2_init_25 (fun H locs hP hD hS => ?_)
  have hP : va_P (dC, dI) rfCl [(h0, .inr (9, [.ref q1, .ref q2, .ref q3, .null, .null, .long 0, .long 0])), (q1, .inl (aC 1, 40, .inl (fun _ => 0))), (q2, .inl (aC 1, 40, .inl (fun _ => 0))), (q3, .inl (aC 1, 40, .inl (fun _ => 0)))] H := hP
  have hD : va_D A [(h0, .inr (9, [.ref q1, .ref q2, .ref q3, .null, .null, .long 0, .long 0])), (q1, .inl (aC 1, 40, .inl (fun _ => 0))), (q2, .inl (aC 1, 40, .inl (fun _ => 0))), (q3, .inl (aC 1, 40, .inl (fun _ => 0)))] := hD
  refine lv_aload_n hx hb dX2_init_28 rfl (lv_at hl 0 rfl) ?_
  refine lv_bipush (v := 40) hx hb dX2_init_29 (by decide) ?_
  refine va_newa (atype := .int) (ty := .int) (a0 := (40, .inl (fun _ => 0))) hx hb (hts (.arrayClass .int) (by decide +kernel)) rfl hK hP hD hS hA (fun _ => rfl) (by decide) (by decide) (by decide) (Nat.le_of_ble_eq_true rfl) (Nat.le_of_ble_eq_true rfl) dX2_init_31 (fun q4 cA9 H hK hP hD hS => ?_)
  obtain rfl : cA9 = aC 1 := rf_sameA hK 6 1 rfl rfl
  have hK := hK.sub (tys' := rfT aC) [0, 1, 2, 3, 4, 5] rfl
  have hP : va_P (dC, dI) rfCl [(h0, .inr (9, [.ref q1, .ref q2, .ref q3, .null, .null, .long 0, .long 0])), (q1, .inl (aC 1, 40, .inl (fun _ => 0))), (q2, .inl (aC 1, 40, .inl (fun _ => 0))), (q3, .inl (aC 1, 40, .inl (fun _ => 0))), (q4, .inl (aC 1, 40, .inl (fun _ => 0)))] H := hP
  have hD : va_D A [(h0, .inr (9, [.ref q1, .ref q2, .ref q3, .null, .null, .long 0, .long 0])), (q1, .inl (aC 1, 40, .inl (fun _ => 0))), (q2, .inl (aC 1, 40, .inl (fun _ => 0))), (q3, .inl (aC 1, 40, .inl (fun _ => 0))), (q4, .inl (aC 1, 40, .inl (fun _ => 0)))] := hD
  refine W.widen (k := 4) (n := 160) (Nat.le_of_ble_eq_true rfl) (Nat.le_of_ble_eq_true rfl) ?_
  refine va_putF (D := (dC, dI)) (ci := 9) (v := .ref q4) (ty := (.array .int)) (C := RX2) (T := TX2) (N := 7) hx hb hts (by decide +kernel) tyX2 tyX2_ok nmX2 hown hK hP hD hS 0 rfl rfl 3 (by decide) (hts (.fieldLink RX2 21 "Transversary$Orders" "reachedFrom" "[I") (by decide +kernel)) (fun _ h9 => h9) rfl hin rfl (by decide +kernel) rfl rfl (Nat.le_of_ble_eq_true rfl) dX2_init_33 (fun H locs hP hD hS => ?_)
  have hP : va_P (dC, dI) rfCl [(h0, .inr (9, [.ref q1, .ref q2, .ref q3, .ref q4, .null, .long 0, .long 0])), (q1, .inl (aC 1, 40, .inl (fun _ => 0))), (q2, .inl (aC 1, 40, .inl (fun _ => 0))), (q3, .inl (aC 1, 40, .inl (fun _ => 0))), (q4, .inl (aC 1, 40, .inl (fun _ => 0)))] H := hP
  have hD : va_D A [(h0, .inr (9, [.ref q1, .ref q2, .ref q3, .ref q4, .null, .long 0, .long 0])), (q1, .inl (aC 1, 40, .inl (fun _ => 0))), (q2, .inl (aC 1, 40, .inl (fun _ => 0))), (q3, .inl (aC 1, 40, .inl (fun _ => 0))), (q4, .inl (aC 1, 40, .inl (fun _ => 0)))] := hD
  refine lv_aload_n hx hb dX2_init_36 rfl (lv_at hl 0 rfl) ?_
  refine lv_bipush (v := 40) hx hb dX2_init_37 (by decide) ?_
  refine va_newa (atype := .int) (ty := .int) (a0 := (40, .inl (fun _ => 0))) hx hb (hts (.arrayClass .int) (by decide +kernel)) rfl hK hP hD hS hA (fun _ => rfl) (by decide) (by decide) (by decide) (Nat.le_of_ble_eq_true rfl) (Nat.le_of_ble_eq_true rfl) dX2_init_39 (fun q5 cA9 H hK hP hD hS => ?_)
  obtain rfl : cA9 = aC 1 := rf_sameA hK 6 1 rfl rfl
  have hK := hK.sub (tys' := rfT aC) [0, 1, 2, 3, 4, 5] rfl
  have hP : va_P (dC, dI) rfCl [(h0, .inr (9, [.ref q1, .ref q2, .ref q3, .ref q4, .null, .long 0, .long 0])), (q1, .inl (aC 1, 40, .inl (fun _ => 0))), (q2, .inl (aC 1, 40, .inl (fun _ => 0))), (q3, .inl (aC 1, 40, .inl (fun _ => 0))), (q4, .inl (aC 1, 40, .inl (fun _ => 0))), (q5, .inl (aC 1, 40, .inl (fun _ => 0)))] H := hP
  have hD : va_D A [(h0, .inr (9, [.ref q1, .ref q2, .ref q3, .ref q4, .null, .long 0, .long 0])), (q1, .inl (aC 1, 40, .inl (fun _ => 0))), (q2, .inl (aC 1, 40, .inl (fun _ => 0))), (q3, .inl (aC 1, 40, .inl (fun _ => 0))), (q4, .inl (aC 1, 40, .inl (fun _ => 0))), (q5, .inl (aC 1, 40, .inl (fun _ => 0)))] := hD
  refine W.widen (k := 5) (n := 200) (Nat.le_of_ble_eq_true rfl) (Nat.le_of_ble_eq_true rfl) ?_
  refine va_putF (D := (dC, dI)) (ci := 9) (v := .ref q5) (ty := (.array .int)) (C := RX2) (T := TX2) (N := 7) hx hb hts (by decide +kernel) tyX2 tyX2_ok nmX2 hown hK hP hD hS 0 rfl rfl 4 (by decide) (hts (.fieldLink RX2 24 "Transversary$Orders" "queue" "[I") (by decide +kernel)) (fun _ h9 => h9) rfl hin rfl (by decide +kernel) rfl rfl (Nat.le_of_ble_eq_true rfl) dX2_init_41 (fun H locs hP hD hS => ?_)
  have hP : va_P (dC, dI) rfCl [(h0, .inr (9, [.ref q1, .ref q2, .ref q3, .ref q4, .ref q5, .long 0, .long 0])), (q1, .inl (aC 1, 40, .inl (fun _ => 0))), (q2, .inl (aC 1, 40, .inl (fun _ => 0))), (q3, .inl (aC 1, 40, .inl (fun _ => 0))), (q4, .inl (aC 1, 40, .inl (fun _ => 0))), (q5, .inl (aC 1, 40, .inl (fun _ => 0)))] H := hP
  have hD : va_D A [(h0, .inr (9, [.ref q1, .ref q2, .ref q3, .ref q4, .ref q5, .long 0, .long 0])), (q1, .inl (aC 1, 40, .inl (fun _ => 0))), (q2, .inl (aC 1, 40, .inl (fun _ => 0))), (q3, .inl (aC 1, 40, .inl (fun _ => 0))), (q4, .inl (aC 1, 40, .inl (fun _ => 0))), (q5, .inl (aC 1, 40, .inl (fun _ => 0)))] := hD
  have hP9 := hP.sub (ws' := []) [] rfl
  have hD9 := hD.sub (ws' := []) [] (by decide) rfl
  refine W.widen (k := 5) (n := 200) (Nat.le_of_ble_eq_true rfl) (Nat.le_of_ble_eq_true rfl) ?_
  exact W.vret hx hb hr (fun t ht hW => ⟨⟨(), rfl, trivial, by rw [ht]; exact hP9, hD9⟩, hS.F ht⟩) hS.2.2 dX2_init_44

set_option maxHeartbeats 4000000 in
set_option maxRecDepth 100000 in
theorem c_X9_init (l : Launch) (dC : Nat → ClassId) (dI : Nat → Nat → Nat) (aC : Nat → ClassId) (sz : Nat) (h0 : Nat)  : Met l yX9_init wsX9_init ({ frames := 2, cells := 12, slots := 383, locals := 40 } : Room) (rf_Pc (dC, dI) aC [.ref h0] [(h0, .inr (10, [.null, .null, .null, .null, .null, .int 0]))] sz) (va_Qv (fun (u : Unit) => True) (fun (u : Unit) t => va_P (dC, dI) rfCl [] t.heap ∧ va_D (va_A [(h0, .inr (10, [.null, .null, .null, .null, .null, .int 0]))] sz) []) (va_A [(h0, .inr (10, [.null, .null, .null, .null, .null, .int 0]))] sz)) 12 383 (va_A [(h0, .inr (10, [.null, .null, .null, .null, .null, .int 0]))] sz) := by
  refine Met.ofW (cc := cX9_init) (maxL := 1) (ret := none) (by decide) rfl ?_
  intro p e s m args below meth c s₁ B hml hv
  obtain ⟨rfl, hsz, hP, hKN, hD0⟩ := hv
  obtain ⟨hK, hN⟩ := hKN
  have hx := B.exec
  have hb := B.bytes
  have hr := B.returns
  have hts := atoms_spec (ws := wsX9_init) B.pre
  have hown : s.vm.findClass RX9 = some m.cls := findClass_of_methodNamed B.named
  have hlocks := B.notSynchronized
  have hin : meth.name = "<init>" := (name_of_methodNamed B.named B.method).1
  subst hsz
  have hD := hD0.self (sz := s.heap.size)
  generalize hAe : va_A [(h0, .inr (10, [.null, .null, .null, .null, .null, .int 0]))] s.heap.size = A at hD ⊢
  have hA : ∀ q : Nat, s.heap.size ≤ q → A q := fun q h => by rw [← hAe]; exact Or.inr h
  have hS : va_S A s.heap s.heap [] := va_S.rf
  have hP : va_P (dC, dI) rfCl [(h0, .inr (10, [.null, .null, .null, .null, .null, .int 0]))] s.heap := hP
  have hl := lv_entry ([.ref h0]) (n := 1) (Nat.le_of_ble_eq_true rfl)
  rw [lg_entry_eq]
  generalize (lg_sl ([.ref h0]) ++ List.replicate (1 - (lg_sl ([.ref h0])).length) Slot.unset).toArray = ls at hl ⊢
  have hl : lv_has ls 1 [(0, .ref h0)] := hl
  refine lv_aload_n hx hb dX9_init_0 rfl (lv_at hl 0 rfl) ?_
  refine W.objInit hx hb hown (hts (.methodLink RX9 3 objectInit) (by decide +kernel)) (hts (.instanceMethod objectInit) (by decide +kernel)) (hts (.code objectInit ⟨#[0xb1]⟩ 1 none) (by decide +kernel)) rfl (by rw [hml]; exact hl.1) rfl dX9_init_1 (Nat.le_of_ble_eq_true rfl) (Nat.le_of_ble_eq_true rfl) ?_
  refine W.eq (g2 := F0 m 4 ls []) rfl ?_
  refine lv_aload_n hx hb dX9_init_4 rfl (lv_at hl 0 rfl) ?_
  refine lv_sipush (v := 128) hx hb dX9_init_5 (by decide) ?_
  refine va_newa (atype := .boolean) (ty := .boolean) (a0 := (128, .inl (fun _ => 0))) hx hb (hts (.arrayClass .boolean) (by decide +kernel)) rfl hK hP hD hS hA (fun _ => rfl) (by decide) (by decide) (by decide) (Nat.le_of_ble_eq_true rfl) (Nat.le_of_ble_eq_true rfl) dX9_init_8 (fun q1 cA9 H hK hP hD hS => ?_)
  obtain rfl : cA9 = aC 0 := rf_sameA hK 6 0 rfl rfl
  have hK := hK.sub (tys' := rfT aC) [0, 1, 2, 3, 4, 5] rfl
  have hP : va_P (dC, dI) rfCl [(h0, .inr (10, [.null, .null, .null, .null, .null, .int 0])), (q1, .inl (aC 0, 128, .inl (fun _ => 0)))] H := hP
  have hD : va_D A [(h0, .inr (10, [.null, .null, .null, .null, .null, .int 0])), (q1, .inl (aC 0, 128, .inl (fun _ => 0)))] := hD
  refine W.widen (k := 1) (n := 128) (Nat.le_of_ble_eq_true rfl) (Nat.le_of_ble_eq_true rfl) ?_
  refine va_putF (D := (dC, dI)) (ci := 10) (v := .ref q1) (ty := (.array .boolean)) (C := RX9) (T := TX9) (N := 6) hx hb hts (by decide +kernel) tyX9 tyX9_ok nmX9 hown hK hP hD hS 0 rfl rfl 0 (by decide) (hts (.fieldLink RX9 9 "Transversary$Tables" "isFace" "[Z") (by decide +kernel)) (fun _ h9 => h9) rfl hin rfl (by decide +kernel) rfl rfl (Nat.le_of_ble_eq_true rfl) dX9_init_10 (fun H locs hP hD hS => ?_)
  have hP : va_P (dC, dI) rfCl [(h0, .inr (10, [.ref q1, .null, .null, .null, .null, .int 0])), (q1, .inl (aC 0, 128, .inl (fun _ => 0)))] H := hP
  have hD : va_D A [(h0, .inr (10, [.ref q1, .null, .null, .null, .null, .int 0])), (q1, .inl (aC 0, 128, .inl (fun _ => 0)))] := hD
  refine lv_aload_n hx hb dX9_init_13 rfl (lv_at hl 0 rfl) ?_
  refine lv_sipush (v := 128) hx hb dX9_init_14 (by decide) ?_
  refine va_newa (atype := .int) (ty := .int) (a0 := (128, .inl (fun _ => 0))) hx hb (hts (.arrayClass .int) (by decide +kernel)) rfl hK hP hD hS hA (fun _ => rfl) (by decide) (by decide) (by decide) (Nat.le_of_ble_eq_true rfl) (Nat.le_of_ble_eq_true rfl) dX9_init_17 (fun q2 cA9 H hK hP hD hS => ?_)
  obtain rfl : cA9 = aC 1 := rf_sameA hK 6 1 rfl rfl
  have hK := hK.sub (tys' := rfT aC) [0, 1, 2, 3, 4, 5] rfl
  have hP : va_P (dC, dI) rfCl [(h0, .inr (10, [.ref q1, .null, .null, .null, .null, .int 0])), (q1, .inl (aC 0, 128, .inl (fun _ => 0))), (q2, .inl (aC 1, 128, .inl (fun _ => 0)))] H := hP
  have hD : va_D A [(h0, .inr (10, [.ref q1, .null, .null, .null, .null, .int 0])), (q1, .inl (aC 0, 128, .inl (fun _ => 0))), (q2, .inl (aC 1, 128, .inl (fun _ => 0)))] := hD
  refine W.widen (k := 2) (n := 256) (Nat.le_of_ble_eq_true rfl) (Nat.le_of_ble_eq_true rfl) ?_
  refine va_putF (D := (dC, dI)) (ci := 10) (v := .ref q2) (ty := (.array .int)) (C := RX9) (T := TX9) (N := 6) hx hb hts (by decide +kernel) tyX9 tyX9_ok nmX9 hown hK hP hD hS 0 rfl rfl 1 (by decide) (hts (.fieldLink RX9 15 "Transversary$Tables" "placeOfFace" "[I") (by decide +kernel)) (fun _ h9 => h9) rfl hin rfl (by decide +kernel) rfl rfl (Nat.le_of_ble_eq_true rfl) dX9_init_19 (fun H locs hP hD hS => ?_)
  have hP : va_P (dC, dI) rfCl [(h0, .inr (10, [.ref q1, .ref q2, .null, .null, .null, .int 0])), (q1, .inl (aC 0, 128, .inl (fun _ => 0))), (q2, .inl (aC 1, 128, .inl (fun _ => 0)))] H := hP
  have hD : va_D A [(h0, .inr (10, [.ref q1, .ref q2, .null, .null, .null, .int 0])), (q1, .inl (aC 0, 128, .inl (fun _ => 0))), (q2, .inl (aC 1, 128, .inl (fun _ => 0)))] := hD
  refine lv_aload_n hx hb dX9_init_22 rfl (lv_at hl 0 rfl) ?_
  refine lv_bipush (v := 64) hx hb dX9_init_23 (by decide) ?_
  refine va_newa (atype := .long) (ty := .long) (a0 := (64, .inr (.inl (fun _ => 0)))) hx hb (hts (.arrayClass .long) (by decide +kernel)) rfl hK hP hD hS hA (fun _ => rfl) (by decide) (by decide) (by decide) (Nat.le_of_ble_eq_true rfl) (Nat.le_of_ble_eq_true rfl) dX9_init_25 (fun q3 cA9 H hK hP hD hS => ?_)
  obtain rfl : cA9 = aC 2 := rf_sameA hK 6 2 rfl rfl
  have hK := hK.sub (tys' := rfT aC) [0, 1, 2, 3, 4, 5] rfl
  have hP : va_P (dC, dI) rfCl [(h0, .inr (10, [.ref q1, .ref q2, .null, .null, .null, .int 0])), (q1, .inl (aC 0, 128, .inl (fun _ => 0))), (q2, .inl (aC 1, 128, .inl (fun _ => 0))), (q3, .inl (aC 2, 64, .inr (.inl (fun _ => 0))))] H := hP
  have hD : va_D A [(h0, .inr (10, [.ref q1, .ref q2, .null, .null, .null, .int 0])), (q1, .inl (aC 0, 128, .inl (fun _ => 0))), (q2, .inl (aC 1, 128, .inl (fun _ => 0))), (q3, .inl (aC 2, 64, .inr (.inl (fun _ => 0))))] := hD
  refine W.widen (k := 3) (n := 320) (Nat.le_of_ble_eq_true rfl) (Nat.le_of_ble_eq_true rfl) ?_
  refine va_putF (D := (dC, dI)) (ci := 10) (v := .ref q3) (ty := (.array .long)) (C := RX9) (T := TX9) (N := 6) hx hb hts (by decide +kernel) tyX9 tyX9_ok nmX9 hown hK hP hD hS 0 rfl rfl 2 (by decide) (hts (.fieldLink RX9 19 "Transversary$Tables" "pivotRows" "[J") (by decide +kernel)) (fun _ h9 => h9) rfl hin rfl (by decide +kernel) rfl rfl (Nat.le_of_ble_eq_true rfl) dX9_init_27 (fun H locs hP hD hS => ?_)
  have hP : va_P (dC, dI) rfCl [(h0, .inr (10, [.ref q1, .ref q2, .ref q3, .null, .null, .int 0])), (q1, .inl (aC 0, 128, .inl (fun _ => 0))), (q2, .inl (aC 1, 128, .inl (fun _ => 0))), (q3, .inl (aC 2, 64, .inr (.inl (fun _ => 0))))] H := hP
  have hD : va_D A [(h0, .inr (10, [.ref q1, .ref q2, .ref q3, .null, .null, .int 0])), (q1, .inl (aC 0, 128, .inl (fun _ => 0))), (q2, .inl (aC 1, 128, .inl (fun _ => 0))), (q3, .inl (aC 2, 64, .inr (.inl (fun _ => 0))))] := hD
  refine lv_aload_n hx hb dX9_init_30 rfl (lv_at hl 0 rfl) ?_
  refine lv_bipush (v := 7) hx hb dX9_init_31 (by decide) ?_
  refine lv_bipush (v := 7) hx hb dX9_init_33 (by decide) ?_
  refine va_mna (X := [(h0, .inr (10, [.ref q1, .ref q2, .ref q3, .null, .null, .int 0])), (q1, .inl (aC 0, 128, .inl (fun _ => 0))), (q2, .inl (aC 1, 128, .inl (fun _ => 0))), (q3, .inl (aC 2, 64, .inr (.inl (fun _ => 0))))]) (L := []) (f := fun _ => .inl (aC 2, 0, .inl (fun _ => 0))) (ty := .int) (cy := aC 1) (N' := 7) (K' := 7) (z := (7, .inl (fun _ => 0))) hx hb hown (by rw [show "[" ++ (FieldType.array .int).toString = "[[I" from by decide +kernel]; exact hts (.classLink RX9 23 "[[I") (by decide +kernel)) hN.2.2.2.2.1 (hts (.arrayClass .int) (by decide +kernel)) (by rw [show (FieldType.array .int).toString = "[" ++ FieldType.toString .int from by decide +kernel]; exact (hK.2 1 _ rfl).2) hK hP hD hS hA (by decide) (by decide) (by decide) (by decide) (by decide) (by decide) (by decide) rfl rfl (Nat.le_of_ble_eq_true rfl) (Nat.le_of_ble_eq_true rfl) (fun c9 => rf_innerI c9 7) dX9_init_35 (fun q4 r9 cA9 H _ _ hK hP hD hS => ?_)
  have hK := hK.sub (tys' := rfT aC) [0, 1, 2, 3, 4, 5] rfl
  have hP := hP.sub (ws' := [(h0, .inr (10, [.ref q1, .ref q2, .ref q3, .null, .null, .int 0])), (q1, .inl (aC 0, 128, .inl (fun _ => 0))), (q2, .inl (aC 1, 128, .inl (fun _ => 0))), (q3, .inl (aC 2, 64, .inr (.inl (fun _ => 0))))]) [0, 1, 2, 3] rfl
  have hD := hD.sub (ws' := [(h0, .inr (10, [.ref q1, .ref q2, .ref q3, .null, .null, .int 0])), (q1, .inl (aC 0, 128, .inl (fun _ => 0))), (q2, .inl (aC 1, 128, .inl (fun _ => 0))), (q3, .inl (aC 2, 64, .inr (.inl (fun _ => 0))))]) [0, 1, 2, 3] (by decide) rfl
  have hP : va_P (dC, dI) rfCl [(h0, .inr (10, [.ref q1, .ref q2, .ref q3, .null, .null, .int 0])), (q1, .inl (aC 0, 128, .inl (fun _ => 0))), (q2, .inl (aC 1, 128, .inl (fun _ => 0))), (q3, .inl (aC 2, 64, .inr (.inl (fun _ => 0))))] H := hP
  have hD : va_D A [(h0, .inr (10, [.ref q1, .ref q2, .ref q3, .null, .null, .int 0])), (q1, .inl (aC 0, 128, .inl (fun _ => 0))), (q2, .inl (aC 1, 128, .inl (fun _ => 0))), (q3, .inl (aC 2, 64, .inr (.inl (fun _ => 0))))] := hD
  refine W.widen (k := 11) (n := 376) (Nat.le_of_ble_eq_true rfl) (Nat.le_of_ble_eq_true rfl) ?_
  refine va_putF (D := (dC, dI)) (ci := 10) (v := .ref q4) (ty := (.array (.array .int))) (C := RX9) (T := TX9) (N := 6) hx hb hts (by decide +kernel) tyX9 tyX9_ok nmX9 hown hK hP hD hS 0 rfl rfl 3 (by decide) (hts (.fieldLink RX9 25 "Transversary$Tables" "reduced" "[[I") (by decide +kernel)) (fun _ h9 => h9) rfl hin rfl (by decide +kernel) rfl rfl (Nat.le_of_ble_eq_true rfl) dX9_init_39 (fun H locs hP hD hS => ?_)
  have hP : va_P (dC, dI) rfCl [(h0, .inr (10, [.ref q1, .ref q2, .ref q3, .ref q4, .null, .int 0])), (q1, .inl (aC 0, 128, .inl (fun _ => 0))), (q2, .inl (aC 1, 128, .inl (fun _ => 0))), (q3, .inl (aC 2, 64, .inr (.inl (fun _ => 0))))] H := hP
  have hD : va_D A [(h0, .inr (10, [.ref q1, .ref q2, .ref q3, .ref q4, .null, .int 0])), (q1, .inl (aC 0, 128, .inl (fun _ => 0))), (q2, .inl (aC 1, 128, .inl (fun _ => 0))), (q3, .inl (aC 2, 64, .inr (.inl (fun _ => 0))))] := hD
  refine lv_aload_n hx hb dX9_init_42 rfl (lv_at hl 0 rfl) ?_
  refine lv_bipush (v := 7) hx hb dX9_init_43 (by decide) ?_
  refine va_newa (atype := .int) (ty := .int) (a0 := (7, .inl (fun _ => 0))) hx hb (hts (.arrayClass .int) (by decide +kernel)) rfl hK hP hD hS hA (fun _ => rfl) (by decide) (by decide) (by decide) (Nat.le_of_ble_eq_true rfl) (Nat.le_of_ble_eq_true rfl) dX9_init_45 (fun q5 cA9 H hK hP hD hS => ?_)
  obtain rfl : cA9 = aC 1 := rf_sameA hK 6 1 rfl rfl
  have hK := hK.sub (tys' := rfT aC) [0, 1, 2, 3, 4, 5] rfl
  have hP : va_P (dC, dI) rfCl [(h0, .inr (10, [.ref q1, .ref q2, .ref q3, .ref q4, .null, .int 0])), (q1, .inl (aC 0, 128, .inl (fun _ => 0))), (q2, .inl (aC 1, 128, .inl (fun _ => 0))), (q3, .inl (aC 2, 64, .inr (.inl (fun _ => 0)))), (q5, .inl (aC 1, 7, .inl (fun _ => 0)))] H := hP
  have hD : va_D A [(h0, .inr (10, [.ref q1, .ref q2, .ref q3, .ref q4, .null, .int 0])), (q1, .inl (aC 0, 128, .inl (fun _ => 0))), (q2, .inl (aC 1, 128, .inl (fun _ => 0))), (q3, .inl (aC 2, 64, .inr (.inl (fun _ => 0)))), (q5, .inl (aC 1, 7, .inl (fun _ => 0)))] := hD
  refine W.widen (k := 12) (n := 383) (Nat.le_of_ble_eq_true rfl) (Nat.le_of_ble_eq_true rfl) ?_
  refine va_putF (D := (dC, dI)) (ci := 10) (v := .ref q5) (ty := (.array .int)) (C := RX9) (T := TX9) (N := 6) hx hb hts (by decide +kernel) tyX9 tyX9_ok nmX9 hown hK hP hD hS 0 rfl rfl 4 (by decide) (hts (.fieldLink RX9 28 "Transversary$Tables" "line" "[I") (by decide +kernel)) (fun _ h9 => h9) rfl hin rfl (by decide +kernel) rfl rfl (Nat.le_of_ble_eq_true rfl) dX9_init_47 (fun H locs hP hD hS => ?_)
  have hP : va_P (dC, dI) rfCl [(h0, .inr (10, [.ref q1, .ref q2, .ref q3, .ref q4, .ref q5, .int 0])), (q1, .inl (aC 0, 128, .inl (fun _ => 0))), (q2, .inl (aC 1, 128, .inl (fun _ => 0))), (q3, .inl (aC 2, 64, .inr (.inl (fun _ => 0)))), (q5, .inl (aC 1, 7, .inl (fun _ => 0)))] H := hP
  have hD : va_D A [(h0, .inr (10, [.ref q1, .ref q2, .ref q3, .ref q4, .ref q5, .int 0])), (q1, .inl (aC 0, 128, .inl (fun _ => 0))), (q2, .inl (aC 1, 128, .inl (fun _ => 0))), (q3, .inl (aC 2, 64, .inr (.inl (fun _ => 0)))), (q5, .inl (aC 1, 7, .inl (fun _ => 0)))] := hD
  have hP9 := hP.sub (ws' := []) [] rfl
  have hD9 := hD.sub (ws' := []) [] (by decide) rfl
  refine W.widen (k := 12) (n := 383) (Nat.le_of_ble_eq_true rfl) (Nat.le_of_ble_eq_true rfl) ?_
  exact W.vret hx hb hr (fun t ht hW => ⟨⟨(), rfl, trivial, by rw [ht]; exact hP9, hD9⟩, hS.F ht⟩) hS.2.2 dX9_init_50

set_option maxHeartbeats 4000000 in
set_option maxRecDepth 100000 in
theorem c_X5_init (l : Launch) (dC : Nat → ClassId) (dI : Nat → Nat → Nat) (aC : Nat → ClassId) (sz : Nat) (h0 cv : Nat)  : Met l yX5_init wsX5_init ({ frames := 2, cells := 4, slots := 519, locals := 40 } : Room) (rf_Pc (dC, dI) aC [.ref h0, .ref cv] [(h0, .inr (4, [.null, .null, .null, .null, .null]))] sz) (va_Qv (fun (u : Nat × Nat × Nat × Nat) => True) (fun (u : Nat × Nat × Nat × Nat) t => va_P (dC, dI) rfCl [(h0, .inr (4, [.ref cv, .ref (u.1), .ref (u.2.1), .ref (u.2.2.1), .ref (u.2.2.2)])), ((u.2.2.2), .inl (aC 2, 256, .inr (.inl (fun _ => 0))))] t.heap ∧ va_D (va_A [(h0, .inr (4, [.null, .null, .null, .null, .null]))] sz) [(h0, .inr (4, [.ref cv, .ref (u.1), .ref (u.2.1), .ref (u.2.2.1), .ref (u.2.2.2)])), ((u.2.2.2), .inl (aC 2, 256, .inr (.inl (fun _ => 0))))]) (va_A [(h0, .inr (4, [.null, .null, .null, .null, .null]))] sz)) 4 519 (va_A [(h0, .inr (4, [.null, .null, .null, .null, .null]))] sz) := by
  refine Met.ofW (cc := cX5_init) (maxL := 2) (ret := none) (by decide) rfl ?_
  intro p e s m args below meth c s₁ B hml hv
  obtain ⟨rfl, hsz, hP, hKN, hD0⟩ := hv
  obtain ⟨hK, hN⟩ := hKN
  have hx := B.exec
  have hb := B.bytes
  have hr := B.returns
  have hts := atoms_spec (ws := wsX5_init) B.pre
  have hown : s.vm.findClass RX5 = some m.cls := findClass_of_methodNamed B.named
  have hlocks := B.notSynchronized
  have hin : meth.name = "<init>" := (name_of_methodNamed B.named B.method).1
  subst hsz
  have hD := hD0.self (sz := s.heap.size)
  generalize hAe : va_A [(h0, .inr (4, [.null, .null, .null, .null, .null]))] s.heap.size = A at hD ⊢
  have hA : ∀ q : Nat, s.heap.size ≤ q → A q := fun q h => by rw [← hAe]; exact Or.inr h
  have hS : va_S A s.heap s.heap [] := va_S.rf
  have hP : va_P (dC, dI) rfCl [(h0, .inr (4, [.null, .null, .null, .null, .null]))] s.heap := hP
  have hl := lv_entry ([.ref h0, .ref cv]) (n := 2) (Nat.le_of_ble_eq_true rfl)
  rw [lg_entry_eq]
  generalize (lg_sl ([.ref h0, .ref cv]) ++ List.replicate (2 - (lg_sl ([.ref h0, .ref cv])).length) Slot.unset).toArray = ls at hl ⊢
  have hl : lv_has ls 2 [(0, .ref h0), (1, .ref cv)] := hl
  refine lv_aload_n hx hb dX5_init_0 rfl (lv_at hl 0 rfl) ?_
  refine W.objInit hx hb hown (hts (.methodLink RX5 3 objectInit) (by decide +kernel)) (hts (.instanceMethod objectInit) (by decide +kernel)) (hts (.code objectInit ⟨#[0xb1]⟩ 1 none) (by decide +kernel)) rfl (by rw [hml]; exact hl.1) rfl dX5_init_1 (Nat.le_of_ble_eq_true rfl) (Nat.le_of_ble_eq_true rfl) ?_
  refine W.eq (g2 := F0 m 4 ls []) rfl ?_
  refine lv_aload_n hx hb dX5_init_4 rfl (lv_at hl 0 rfl) ?_
  refine lv_bipush (v := 7) hx hb dX5_init_5 (by decide) ?_
  refine va_newa (atype := .int) (ty := .int) (a0 := (7, .inl (fun _ => 0))) hx hb (hts (.arrayClass .int) (by decide +kernel)) rfl hK hP hD hS hA (fun _ => rfl) (by decide) (by decide) (by decide) (Nat.le_of_ble_eq_true rfl) (Nat.le_of_ble_eq_true rfl) dX5_init_7 (fun q1 cA9 H hK hP hD hS => ?_)
  obtain rfl : cA9 = aC 1 := rf_sameA hK 6 1 rfl rfl
  have hK := hK.sub (tys' := rfT aC) [0, 1, 2, 3, 4, 5] rfl
  have hP : va_P (dC, dI) rfCl [(h0, .inr (4, [.null, .null, .null, .null, .null])), (q1, .inl (aC 1, 7, .inl (fun _ => 0)))] H := hP
  have hD : va_D A [(h0, .inr (4, [.null, .null, .null, .null, .null])), (q1, .inl (aC 1, 7, .inl (fun _ => 0)))] := hD
  refine W.widen (k := 1) (n := 7) (Nat.le_of_ble_eq_true rfl) (Nat.le_of_ble_eq_true rfl) ?_
  refine va_putF (D := (dC, dI)) (ci := 4) (v := .ref q1) (ty := (.array .int)) (C := RX5) (T := TX5) (N := 5) hx hb hts (by decide +kernel) tyX5 tyX5_ok nmX5 hown hK hP hD hS 0 rfl rfl 1 (by decide) (hts (.fieldLink RX5 9 "Transversary$Rings" "neighbours" "[I") (by decide +kernel)) (fun _ h9 => h9) rfl hin rfl (by decide +kernel) rfl rfl (Nat.le_of_ble_eq_true rfl) dX5_init_9 (fun H locs hP hD hS => ?_)
  have hP : va_P (dC, dI) rfCl [(h0, .inr (4, [.null, .ref q1, .null, .null, .null])), (q1, .inl (aC 1, 7, .inl (fun _ => 0)))] H := hP
  have hD : va_D A [(h0, .inr (4, [.null, .ref q1, .null, .null, .null])), (q1, .inl (aC 1, 7, .inl (fun _ => 0)))] := hD
  refine lv_aload_n hx hb dX5_init_12 rfl (lv_at hl 0 rfl) ?_
  refine lv_sipush (v := 128) hx hb dX5_init_13 (by decide) ?_
  refine va_newa (atype := .int) (ty := .int) (a0 := (128, .inl (fun _ => 0))) hx hb (hts (.arrayClass .int) (by decide +kernel)) rfl hK hP hD hS hA (fun _ => rfl) (by decide) (by decide) (by decide) (Nat.le_of_ble_eq_true rfl) (Nat.le_of_ble_eq_true rfl) dX5_init_16 (fun q2 cA9 H hK hP hD hS => ?_)
  obtain rfl : cA9 = aC 1 := rf_sameA hK 6 1 rfl rfl
  have hK := hK.sub (tys' := rfT aC) [0, 1, 2, 3, 4, 5] rfl
  have hP : va_P (dC, dI) rfCl [(h0, .inr (4, [.null, .ref q1, .null, .null, .null])), (q1, .inl (aC 1, 7, .inl (fun _ => 0))), (q2, .inl (aC 1, 128, .inl (fun _ => 0)))] H := hP
  have hD : va_D A [(h0, .inr (4, [.null, .ref q1, .null, .null, .null])), (q1, .inl (aC 1, 7, .inl (fun _ => 0))), (q2, .inl (aC 1, 128, .inl (fun _ => 0)))] := hD
  refine W.widen (k := 2) (n := 135) (Nat.le_of_ble_eq_true rfl) (Nat.le_of_ble_eq_true rfl) ?_
  refine va_putF (D := (dC, dI)) (ci := 4) (v := .ref q2) (ty := (.array .int)) (C := RX5) (T := TX5) (N := 5) hx hb hts (by decide +kernel) tyX5 tyX5_ok nmX5 hown hK hP hD hS 0 rfl rfl 2 (by decide) (hts (.fieldLink RX5 15 "Transversary$Rings" "ends" "[I") (by decide +kernel)) (fun _ h9 => h9) rfl hin rfl (by decide +kernel) rfl rfl (Nat.le_of_ble_eq_true rfl) dX5_init_18 (fun H locs hP hD hS => ?_)
  have hP : va_P (dC, dI) rfCl [(h0, .inr (4, [.null, .ref q1, .ref q2, .null, .null])), (q1, .inl (aC 1, 7, .inl (fun _ => 0))), (q2, .inl (aC 1, 128, .inl (fun _ => 0)))] H := hP
  have hD : va_D A [(h0, .inr (4, [.null, .ref q1, .ref q2, .null, .null])), (q1, .inl (aC 1, 7, .inl (fun _ => 0))), (q2, .inl (aC 1, 128, .inl (fun _ => 0)))] := hD
  refine lv_aload_n hx hb dX5_init_21 rfl (lv_at hl 0 rfl) ?_
  refine lv_sipush (v := 128) hx hb dX5_init_22 (by decide) ?_
  refine va_newa (atype := .int) (ty := .int) (a0 := (128, .inl (fun _ => 0))) hx hb (hts (.arrayClass .int) (by decide +kernel)) rfl hK hP hD hS hA (fun _ => rfl) (by decide) (by decide) (by decide) (Nat.le_of_ble_eq_true rfl) (Nat.le_of_ble_eq_true rfl) dX5_init_25 (fun q3 cA9 H hK hP hD hS => ?_)
  obtain rfl : cA9 = aC 1 := rf_sameA hK 6 1 rfl rfl
  have hK := hK.sub (tys' := rfT aC) [0, 1, 2, 3, 4, 5] rfl
  have hP : va_P (dC, dI) rfCl [(h0, .inr (4, [.null, .ref q1, .ref q2, .null, .null])), (q1, .inl (aC 1, 7, .inl (fun _ => 0))), (q2, .inl (aC 1, 128, .inl (fun _ => 0))), (q3, .inl (aC 1, 128, .inl (fun _ => 0)))] H := hP
  have hD : va_D A [(h0, .inr (4, [.null, .ref q1, .ref q2, .null, .null])), (q1, .inl (aC 1, 7, .inl (fun _ => 0))), (q2, .inl (aC 1, 128, .inl (fun _ => 0))), (q3, .inl (aC 1, 128, .inl (fun _ => 0)))] := hD
  refine W.widen (k := 3) (n := 263) (Nat.le_of_ble_eq_true rfl) (Nat.le_of_ble_eq_true rfl) ?_
  refine va_putF (D := (dC, dI)) (ci := 4) (v := .ref q3) (ty := (.array .int)) (C := RX5) (T := TX5) (N := 5) hx hb hts (by decide +kernel) tyX5 tyX5_ok nmX5 hown hK hP hD hS 0 rfl rfl 3 (by decide) (hts (.fieldLink RX5 18 "Transversary$Rings" "greatestFree" "[I") (by decide +kernel)) (fun _ h9 => h9) rfl hin rfl (by decide +kernel) rfl rfl (Nat.le_of_ble_eq_true rfl) dX5_init_27 (fun H locs hP hD hS => ?_)
  have hP : va_P (dC, dI) rfCl [(h0, .inr (4, [.null, .ref q1, .ref q2, .ref q3, .null])), (q1, .inl (aC 1, 7, .inl (fun _ => 0))), (q2, .inl (aC 1, 128, .inl (fun _ => 0))), (q3, .inl (aC 1, 128, .inl (fun _ => 0)))] H := hP
  have hD : va_D A [(h0, .inr (4, [.null, .ref q1, .ref q2, .ref q3, .null])), (q1, .inl (aC 1, 7, .inl (fun _ => 0))), (q2, .inl (aC 1, 128, .inl (fun _ => 0))), (q3, .inl (aC 1, 128, .inl (fun _ => 0)))] := hD
  refine lv_aload_n hx hb dX5_init_30 rfl (lv_at hl 0 rfl) ?_
  refine lv_sipush (v := 256) hx hb dX5_init_31 (by decide) ?_
  refine va_newa (atype := .long) (ty := .long) (a0 := (256, .inr (.inl (fun _ => 0)))) hx hb (hts (.arrayClass .long) (by decide +kernel)) rfl hK hP hD hS hA (fun _ => rfl) (by decide) (by decide) (by decide) (Nat.le_of_ble_eq_true rfl) (Nat.le_of_ble_eq_true rfl) dX5_init_34 (fun q4 cA9 H hK hP hD hS => ?_)
  obtain rfl : cA9 = aC 2 := rf_sameA hK 6 2 rfl rfl
  have hK := hK.sub (tys' := rfT aC) [0, 1, 2, 3, 4, 5] rfl
  have hP : va_P (dC, dI) rfCl [(h0, .inr (4, [.null, .ref q1, .ref q2, .ref q3, .null])), (q1, .inl (aC 1, 7, .inl (fun _ => 0))), (q2, .inl (aC 1, 128, .inl (fun _ => 0))), (q3, .inl (aC 1, 128, .inl (fun _ => 0))), (q4, .inl (aC 2, 256, .inr (.inl (fun _ => 0))))] H := hP
  have hD : va_D A [(h0, .inr (4, [.null, .ref q1, .ref q2, .ref q3, .null])), (q1, .inl (aC 1, 7, .inl (fun _ => 0))), (q2, .inl (aC 1, 128, .inl (fun _ => 0))), (q3, .inl (aC 1, 128, .inl (fun _ => 0))), (q4, .inl (aC 2, 256, .inr (.inl (fun _ => 0))))] := hD
  refine W.widen (k := 4) (n := 519) (Nat.le_of_ble_eq_true rfl) (Nat.le_of_ble_eq_true rfl) ?_
  refine va_putF (D := (dC, dI)) (ci := 4) (v := .ref q4) (ty := (.array .long)) (C := RX5) (T := TX5) (N := 5) hx hb hts (by decide +kernel) tyX5 tyX5_ok nmX5 hown hK hP hD hS 0 rfl rfl 4 (by decide) (hts (.fieldLink RX5 21 "Transversary$Rings" "wins" "[J") (by decide +kernel)) (fun _ h9 => h9) rfl hin rfl (by decide +kernel) rfl rfl (Nat.le_of_ble_eq_true rfl) dX5_init_36 (fun H locs hP hD hS => ?_)
  have hP : va_P (dC, dI) rfCl [(h0, .inr (4, [.null, .ref q1, .ref q2, .ref q3, .ref q4])), (q1, .inl (aC 1, 7, .inl (fun _ => 0))), (q2, .inl (aC 1, 128, .inl (fun _ => 0))), (q3, .inl (aC 1, 128, .inl (fun _ => 0))), (q4, .inl (aC 2, 256, .inr (.inl (fun _ => 0))))] H := hP
  have hD : va_D A [(h0, .inr (4, [.null, .ref q1, .ref q2, .ref q3, .ref q4])), (q1, .inl (aC 1, 7, .inl (fun _ => 0))), (q2, .inl (aC 1, 128, .inl (fun _ => 0))), (q3, .inl (aC 1, 128, .inl (fun _ => 0))), (q4, .inl (aC 2, 256, .inr (.inl (fun _ => 0))))] := hD
  refine lv_aload_n hx hb dX5_init_39 rfl (lv_at hl 0 rfl) ?_
  refine lv_aload_n hx hb dX5_init_40 rfl (lv_at hl 1 rfl) ?_
  refine va_putF (D := (dC, dI)) (ci := 4) (v := .ref cv) (ty := (.object "Transversary$Covers")) (C := RX5) (T := TX5) (N := 5) hx hb hts (by decide +kernel) tyX5 tyX5_ok nmX5 hown hK hP hD hS 0 rfl rfl 0 (by decide) (hts (.fieldLink RX5 25 "Transversary$Rings" "covers" "LTransversary$Covers;") (by decide +kernel)) (fun _ h9 => h9) rfl hin rfl (by decide +kernel) rfl rfl (Nat.le_of_ble_eq_true rfl) dX5_init_41 (fun H locs hP hD hS => ?_)
  have hP : va_P (dC, dI) rfCl [(h0, .inr (4, [.ref cv, .ref q1, .ref q2, .ref q3, .ref q4])), (q1, .inl (aC 1, 7, .inl (fun _ => 0))), (q2, .inl (aC 1, 128, .inl (fun _ => 0))), (q3, .inl (aC 1, 128, .inl (fun _ => 0))), (q4, .inl (aC 2, 256, .inr (.inl (fun _ => 0))))] H := hP
  have hD : va_D A [(h0, .inr (4, [.ref cv, .ref q1, .ref q2, .ref q3, .ref q4])), (q1, .inl (aC 1, 7, .inl (fun _ => 0))), (q2, .inl (aC 1, 128, .inl (fun _ => 0))), (q3, .inl (aC 1, 128, .inl (fun _ => 0))), (q4, .inl (aC 2, 256, .inr (.inl (fun _ => 0))))] := hD
  have hP9 := hP.sub (ws' := [(h0, .inr (4, [.ref cv, .ref q1, .ref q2, .ref q3, .ref q4])), (q4, .inl (aC 2, 256, .inr (.inl (fun _ => 0))))]) [0, 4] rfl
  have hD9 := hD.sub (ws' := [(h0, .inr (4, [.ref cv, .ref q1, .ref q2, .ref q3, .ref q4])), (q4, .inl (aC 2, 256, .inr (.inl (fun _ => 0))))]) [0, 4] (by decide) rfl
  refine W.widen (k := 4) (n := 519) (Nat.le_of_ble_eq_true rfl) (Nat.le_of_ble_eq_true rfl) ?_
  exact W.vret hx hb hr (fun t ht hW => ⟨⟨(q1, q2, q3, q4), rfl, trivial, by rw [ht]; exact hP9, hD9⟩, hS.F ht⟩) hS.2.2 dX5_init_44

set_option maxHeartbeats 4000000 in
set_option maxRecDepth 100000 in
theorem c_X1_init (l : Launch) (dC : Nat → ClassId) (dI : Nat → Nat → Nat) (aC : Nat → ClassId) (sz : Nat) (h0 sm : Nat)  : Met l yX1_init wsX1_init ({ frames := 2, cells := 3, slots := 259, locals := 40 } : Room) (rf_Pc (dC, dI) aC [.ref h0, .ref sm] [(h0, .inr (6, [.null, .null]))] sz) (va_Qv (fun (u : Nat) => True) (fun (u : Nat) t => va_P (dC, dI) rfCl [(h0, .inr (6, [.ref sm, .ref u]))] t.heap ∧ va_D (va_A [(h0, .inr (6, [.null, .null]))] sz) [(h0, .inr (6, [.ref sm, .ref u]))]) (va_A [(h0, .inr (6, [.null, .null]))] sz)) 3 259 (va_A [(h0, .inr (6, [.null, .null]))] sz) := by
  refine Met.ofW (cc := cX1_init) (maxL := 2) (ret := none) (by decide) rfl ?_
  intro p e s m args below meth c s₁ B hml hv
  obtain ⟨rfl, hsz, hP, hKN, hD0⟩ := hv
  obtain ⟨hK, hN⟩ := hKN
  have hx := B.exec
  have hb := B.bytes
  have hr := B.returns
  have hts := atoms_spec (ws := wsX1_init) B.pre
  have hown : s.vm.findClass RX1 = some m.cls := findClass_of_methodNamed B.named
  have hlocks := B.notSynchronized
  have hin : meth.name = "<init>" := (name_of_methodNamed B.named B.method).1
  subst hsz
  have hD := hD0.self (sz := s.heap.size)
  generalize hAe : va_A [(h0, .inr (6, [.null, .null]))] s.heap.size = A at hD ⊢
  have hA : ∀ q : Nat, s.heap.size ≤ q → A q := fun q h => by rw [← hAe]; exact Or.inr h
  have hS : va_S A s.heap s.heap [] := va_S.rf
  have hP : va_P (dC, dI) rfCl [(h0, .inr (6, [.null, .null]))] s.heap := hP
  have hl := lv_entry ([.ref h0, .ref sm]) (n := 2) (Nat.le_of_ble_eq_true rfl)
  rw [lg_entry_eq]
  generalize (lg_sl ([.ref h0, .ref sm]) ++ List.replicate (2 - (lg_sl ([.ref h0, .ref sm])).length) Slot.unset).toArray = ls at hl ⊢
  have hl : lv_has ls 2 [(0, .ref h0), (1, .ref sm)] := hl
  refine lv_aload_n hx hb dX1_init_0 rfl (lv_at hl 0 rfl) ?_
  refine W.objInit hx hb hown (hts (.methodLink RX1 3 objectInit) (by decide +kernel)) (hts (.instanceMethod objectInit) (by decide +kernel)) (hts (.code objectInit ⟨#[0xb1]⟩ 1 none) (by decide +kernel)) rfl (by rw [hml]; exact hl.1) rfl dX1_init_1 (Nat.le_of_ble_eq_true rfl) (Nat.le_of_ble_eq_true rfl) ?_
  refine W.eq (g2 := F0 m 4 ls []) rfl ?_
  refine lv_aload_n hx hb dX1_init_4 rfl (lv_at hl 0 rfl) ?_
  refine va_new (ci := 1) (fs := [.null, .null, .int 0]) (C := RX7) (T := TX7) (N := 3) hx hb hts (by decide +kernel) tyX7 tyX7_ok hown (hts (.classLink RX1 9 RX7) (by decide +kernel)) (hts (.instantiable RX7 3) (by decide +kernel)) (hts (.initialized RX7) (by decide +kernel)) hK hP hD hS hA rfl (fun j hj => by rcases (show j = 0 ∨ j = 1 ∨ j = 2 by omega) with rfl | rfl | rfl <;> rfl) (Nat.le_of_ble_eq_true rfl) (Nat.le_of_ble_eq_true rfl) dX1_init_5 (fun q1 H hP hD hS => ?_)
  have hP : va_P (dC, dI) rfCl [(h0, .inr (6, [.null, .null])), (q1, .inr (1, [.null, .null, .int 0]))] H := hP
  have hD : va_D A [(h0, .inr (6, [.null, .null])), (q1, .inr (1, [.null, .null, .int 0]))] := hD
  refine W.widen (k := 1) (n := 3) (Nat.le_of_ble_eq_true rfl) (Nat.le_of_ble_eq_true rfl) ?_
  refine lv_dup hx hb dX1_init_8 rfl ?_
  have hPc := hP.sub (ws' := [(q1, .inr (1, [.null, .null, .int 0]))]) [1] rfl
  have hDc := hD.sub (ws' := [(q1, .inr (1, [.null, .null, .int 0]))]) [1] (by decide) rfl
  have hFc := va_free (wc := [(q1, .inr (1, [.null, .null, .int 0]))]) hD hS hA [1] rfl
  refine va_callv (va_runIN (As := []) (rest := [.ref q1, .ref h0]) ⟨hx, hb, hml, hown, hts⟩ (c_X7_init l dC dI aC H.size q1) (⟨va_cnB 0 hts (goodIn_sub (by decide +kernel) (by decide +kernel)) rfl rfl rfl (rf_nst hN 6 (q := (RX1, 11, yX7_init, "Transversary")) rfl) (hts (.initialized RX7) (by decide +kernel)) (by decide +kernel) ⟨Nat.le_of_ble_eq_true rfl, Nat.le_of_ble_eq_true rfl⟩, rfl, hts (.instanceMethod yX7_init) (by decide +kernel)⟩) (rf_ps hK hN hPc hDc) rfl rfl hl.1 rfl (lv_room (Nat.le_of_ble_eq_true rfl)) dX1_init_9 ⟨Nat.le_of_ble_eq_true rfl, Nat.le_of_ble_eq_true rfl⟩) hS (fun q _ h => hFc q h) hFc (fun u2 t H1 locs ht hvm hwu2 hB hz1 hk1 hS => ?_)
  obtain ⟨hP1, hD1⟩ := hB
  rw [ht] at hP1
  try dsimp only at hwu2 hP1 hD1
  obtain ⟨hP, hD⟩ := va_join (wr := [(h0, .inr (6, [.null, .null]))]) (w1 := [(q1, .inr (1, [.ref (u2.1), .ref (u2.2), .int 0])), ((u2.1), .inl (aC 0, 128, .inl (fun _ => 0))), ((u2.2), .inl (aC 1, 128, .inl (fun _ => 0)))]) hP hD [1] [0] rfl rfl (by decide) (by decide) hk1 hFc hP1 hD1
  clear hP1 hD1 hPc hDc hFc
  generalize H1 = H at hP hS ⊢
  have hP : va_P (dC, dI) rfCl [(h0, .inr (6, [.null, .null])), (q1, .inr (1, [.ref (u2.1), .ref (u2.2), .int 0])), ((u2.1), .inl (aC 0, 128, .inl (fun _ => 0))), ((u2.2), .inl (aC 1, 128, .inl (fun _ => 0)))] H := hP
  have hD : va_D A [(h0, .inr (6, [.null, .null])), (q1, .inr (1, [.ref (u2.1), .ref (u2.2), .int 0])), ((u2.1), .inl (aC 0, 128, .inl (fun _ => 0))), ((u2.2), .inl (aC 1, 128, .inl (fun _ => 0)))] := hD
  refine W.widen (k := 3) (n := 259) (Nat.le_of_ble_eq_true rfl) (Nat.le_of_ble_eq_true rfl) ?_
  obtain ⟨b4, r5⟩ := u2
  try dsimp only at hP hD
  have hP : va_P (dC, dI) rfCl [(h0, .inr (6, [.null, .null])), (q1, .inr (1, [.ref b4, .ref r5, .int 0])), (b4, .inl (aC 0, 128, .inl (fun _ => 0))), (r5, .inl (aC 1, 128, .inl (fun _ => 0)))] H := hP
  have hD : va_D A [(h0, .inr (6, [.null, .null])), (q1, .inr (1, [.ref b4, .ref r5, .int 0])), (b4, .inl (aC 0, 128, .inl (fun _ => 0))), (r5, .inl (aC 1, 128, .inl (fun _ => 0)))] := hD
  refine va_putF (D := (dC, dI)) (ci := 6) (v := .ref q1) (ty := (.object "Transversary$Sets")) (C := RX1) (T := TX1) (N := 2) hx hb hts (by decide +kernel) tyX1 tyX1_ok nmX1 hown hK hP hD hS 0 rfl rfl 1 (by decide) (hts (.fieldLink RX1 12 "Transversary$Makers" "next" "LTransversary$Sets;") (by decide +kernel)) (fun _ h9 => h9) rfl hin rfl (by decide +kernel) rfl rfl (Nat.le_of_ble_eq_true rfl) dX1_init_12 (fun H locs hP hD hS => ?_)
  have hP : va_P (dC, dI) rfCl [(h0, .inr (6, [.null, .ref q1])), (q1, .inr (1, [.ref b4, .ref r5, .int 0])), (b4, .inl (aC 0, 128, .inl (fun _ => 0))), (r5, .inl (aC 1, 128, .inl (fun _ => 0)))] H := hP
  have hD : va_D A [(h0, .inr (6, [.null, .ref q1])), (q1, .inr (1, [.ref b4, .ref r5, .int 0])), (b4, .inl (aC 0, 128, .inl (fun _ => 0))), (r5, .inl (aC 1, 128, .inl (fun _ => 0)))] := hD
  refine lv_aload_n hx hb dX1_init_15 rfl (lv_at hl 0 rfl) ?_
  refine lv_aload_n hx hb dX1_init_16 rfl (lv_at hl 1 rfl) ?_
  refine va_putF (D := (dC, dI)) (ci := 6) (v := .ref sm) (ty := (.object "Transversary$Samples")) (C := RX1) (T := TX1) (N := 2) hx hb hts (by decide +kernel) tyX1 tyX1_ok nmX1 hown hK hP hD hS 0 rfl rfl 0 (by decide) (hts (.fieldLink RX1 18 "Transversary$Makers" "samples" "LTransversary$Samples;") (by decide +kernel)) (fun _ h9 => h9) rfl hin rfl (by decide +kernel) rfl rfl (Nat.le_of_ble_eq_true rfl) dX1_init_17 (fun H locs hP hD hS => ?_)
  have hP : va_P (dC, dI) rfCl [(h0, .inr (6, [.ref sm, .ref q1])), (q1, .inr (1, [.ref b4, .ref r5, .int 0])), (b4, .inl (aC 0, 128, .inl (fun _ => 0))), (r5, .inl (aC 1, 128, .inl (fun _ => 0)))] H := hP
  have hD : va_D A [(h0, .inr (6, [.ref sm, .ref q1])), (q1, .inr (1, [.ref b4, .ref r5, .int 0])), (b4, .inl (aC 0, 128, .inl (fun _ => 0))), (r5, .inl (aC 1, 128, .inl (fun _ => 0)))] := hD
  have hP9 := hP.sub (ws' := [(h0, .inr (6, [.ref sm, .ref q1]))]) [0] rfl
  have hD9 := hD.sub (ws' := [(h0, .inr (6, [.ref sm, .ref q1]))]) [0] (by decide) rfl
  refine W.widen (k := 3) (n := 259) (Nat.le_of_ble_eq_true rfl) (Nat.le_of_ble_eq_true rfl) ?_
  exact W.vret hx hb hr (fun t ht hW => ⟨⟨q1, rfl, trivial, by rw [ht]; exact hP9, hD9⟩, hS.F ht⟩) hS.2.2 dX1_init_20
end
section
set_option maxHeartbeats 4000000 in
set_option maxRecDepth 100000 in
theorem c_X11_init (l : Launch) (dC : Nat → ClassId) (dI : Nat → Nat → Nat) (aC : Nat → ClassId) (sz : Nat) (h0 : Nat)  : Met l yX11_init wsX11_init ({ frames := 4, cells := 92, slots := 5959, locals := 120 } : Room) (rf_Pc (dC, dI) aC [.ref h0] [(h0, .inr (11, [.null, .null, .int 0, .null, .null, .null, .null, .null, .null, .null, .null, .null, .null, .null, .null]))] sz) (va_Qv (fun (u : (Nat → Nat) × (Nat → Int32) × (Nat → Option Nat)) => u.2.2 0 = some (u.1 7)) (fun (u : (Nat → Nat) × (Nat → Int32) × (Nat → Option Nat)) t => va_P (dC, dI) rfCl [(h0, .inr (11, [.ref (u.1 0), .ref (u.1 1), .int 0, .ref (u.1 2), .ref (u.1 21), .ref (u.1 3), .ref (u.1 22), .ref (u.1 23), .ref (u.1 4), .ref (u.1 24), .ref (u.1 5), .ref (u.1 25), .ref (u.1 26), .ref (u.1 27), .ref (u.1 28)])), ((u.1 0), .inr (0, [.ref (u.1 6), .int 4, .int 15])), ((u.1 6), .inl (aC 1, 7, .inl u.2.1)), ((u.1 1), .inl (aC 4, 5, .inr (.inr (.inr (.inr u.2.2))))), ((u.1 7), .inr (1, [.ref (u.1 8), .ref (u.1 9), .int 0])), ((u.1 8), .inl (aC 0, 128, .inl (fun _ => 0))), ((u.1 2), .inr (1, [.ref (u.1 10), .ref (u.1 11), .int 0])), ((u.1 10), .inl (aC 0, 128, .inl (fun _ => 0))), ((u.1 3), .inr (1, [.ref (u.1 12), .ref (u.1 13), .int 0])), ((u.1 12), .inl (aC 0, 128, .inl (fun _ => 0))), ((u.1 5), .inr (6, [.ref (u.1 15), .ref (u.1 16)])), ((u.1 4), .inr (4, [.ref (u.1 17), .ref (u.1 18), .ref (u.1 19), .ref (u.1 20), .ref (u.1 14)])), ((u.1 14), .inl (aC 2, 256, .inr (.inl (fun _ => 0))))] t.heap ∧ va_D (va_A [(h0, .inr (11, [.null, .null, .int 0, .null, .null, .null, .null, .null, .null, .null, .null, .null, .null, .null, .null]))] sz) [(h0, .inr (11, [.ref (u.1 0), .ref (u.1 1), .int 0, .ref (u.1 2), .ref (u.1 21), .ref (u.1 3), .ref (u.1 22), .ref (u.1 23), .ref (u.1 4), .ref (u.1 24), .ref (u.1 5), .ref (u.1 25), .ref (u.1 26), .ref (u.1 27), .ref (u.1 28)])), ((u.1 0), .inr (0, [.ref (u.1 6), .int 4, .int 15])), ((u.1 6), .inl (aC 1, 7, .inl u.2.1)), ((u.1 1), .inl (aC 4, 5, .inr (.inr (.inr (.inr u.2.2))))), ((u.1 7), .inr (1, [.ref (u.1 8), .ref (u.1 9), .int 0])), ((u.1 8), .inl (aC 0, 128, .inl (fun _ => 0))), ((u.1 2), .inr (1, [.ref (u.1 10), .ref (u.1 11), .int 0])), ((u.1 10), .inl (aC 0, 128, .inl (fun _ => 0))), ((u.1 3), .inr (1, [.ref (u.1 12), .ref (u.1 13), .int 0])), ((u.1 12), .inl (aC 0, 128, .inl (fun _ => 0))), ((u.1 5), .inr (6, [.ref (u.1 15), .ref (u.1 16)])), ((u.1 4), .inr (4, [.ref (u.1 17), .ref (u.1 18), .ref (u.1 19), .ref (u.1 20), .ref (u.1 14)])), ((u.1 14), .inl (aC 2, 256, .inr (.inl (fun _ => 0))))]) (va_A [(h0, .inr (11, [.null, .null, .int 0, .null, .null, .null, .null, .null, .null, .null, .null, .null, .null, .null, .null]))] sz)) 92 5959 (va_A [(h0, .inr (11, [.null, .null, .int 0, .null, .null, .null, .null, .null, .null, .null, .null, .null, .null, .null, .null]))] sz) := by
  refine Met.ofW (cc := cX11_init) (maxL := 2) (ret := none) (by decide) rfl ?_
  intro p e s m args below meth c s₁ B hml hv
  obtain ⟨rfl, hsz, hP, hKN, hD0⟩ := hv
  obtain ⟨hK, hN⟩ := hKN
  have hx := B.exec
  have hb := B.bytes
  have hr := B.returns
  have hts := atoms_spec (ws := wsX11_init) B.pre
  have hown : s.vm.findClass RX11 = some m.cls := findClass_of_methodNamed B.named
  have hlocks := B.notSynchronized
  have hin : meth.name = "<init>" := (name_of_methodNamed B.named B.method).1
  subst hsz
  have hD := hD0.self (sz := s.heap.size)
  generalize hAe : va_A [(h0, .inr (11, [.null, .null, .int 0, .null, .null, .null, .null, .null, .null, .null, .null, .null, .null, .null, .null]))] s.heap.size = A at hD ⊢
  have hA : ∀ q : Nat, s.heap.size ≤ q → A q := fun q h => by rw [← hAe]; exact Or.inr h
  have hS : va_S A s.heap s.heap [] := va_S.rf
  have hP : va_P (dC, dI) rfCl [(h0, .inr (11, [.null, .null, .int 0, .null, .null, .null, .null, .null, .null, .null, .null, .null, .null, .null, .null]))] s.heap := hP
  have hl := lv_entry ([.ref h0]) (n := 2) (Nat.le_of_ble_eq_true rfl)
  rw [lg_entry_eq]
  generalize (lg_sl ([.ref h0]) ++ List.replicate (2 - (lg_sl ([.ref h0])).length) Slot.unset).toArray = ls at hl ⊢
  have hl : lv_has ls 2 [(0, .ref h0)] := hl
  refine lv_aload_n hx hb dX11_init_0 rfl (lv_at hl 0 rfl) ?_
  refine W.objInit hx hb hown (hts (.methodLink RX11 3 objectInit) (by decide +kernel)) (hts (.instanceMethod objectInit) (by decide +kernel)) (hts (.code objectInit ⟨#[0xb1]⟩ 1 none) (by decide +kernel)) rfl (by rw [hml]; exact hl.1) rfl dX11_init_1 (Nat.le_of_ble_eq_true rfl) (Nat.le_of_ble_eq_true rfl) ?_
  refine W.eq (g2 := F0 m 4 ls []) rfl ?_
  refine lv_aload_n hx hb dX11_init_4 rfl (lv_at hl 0 rfl) ?_
  refine va_new (ci := 0) (fs := [.null, .int 0, .int 0]) (C := RX3) (T := TX3) (N := 3) hx hb hts (by decide +kernel) tyX3 tyX3_ok hown (hts (.classLink RX11 9 RX3) (by decide +kernel)) (hts (.instantiable RX3 3) (by decide +kernel)) (hts (.initialized RX3) (by decide +kernel)) hK hP hD hS hA rfl (fun j hj => by rcases (show j = 0 ∨ j = 1 ∨ j = 2 by omega) with rfl | rfl | rfl <;> rfl) (Nat.le_of_ble_eq_true rfl) (Nat.le_of_ble_eq_true rfl) dX11_init_5 (fun q1 H hP hD hS => ?_)
  have hP : va_P (dC, dI) rfCl [(h0, .inr (11, [.null, .null, .int 0, .null, .null, .null, .null, .null, .null, .null, .null, .null, .null, .null, .null])), (q1, .inr (0, [.null, .int 0, .int 0]))] H := hP
  have hD : va_D A [(h0, .inr (11, [.null, .null, .int 0, .null, .null, .null, .null, .null, .null, .null, .null, .null, .null, .null, .null])), (q1, .inr (0, [.null, .int 0, .int 0]))] := hD
  refine W.widen (k := 1) (n := 3) (Nat.le_of_ble_eq_true rfl) (Nat.le_of_ble_eq_true rfl) ?_
  refine lv_dup hx hb dX11_init_8 rfl ?_
  have hPc := hP.sub (ws' := [(q1, .inr (0, [.null, .int 0, .int 0]))]) [1] rfl
  have hDc := hD.sub (ws' := [(q1, .inr (0, [.null, .int 0, .int 0]))]) [1] (by decide) rfl
  have hFc := va_free (wc := [(q1, .inr (0, [.null, .int 0, .int 0]))]) hD hS hA [1] rfl
  refine va_callv (va_runIN (As := []) (rest := [.ref q1, .ref h0]) ⟨hx, hb, hml, hown, hts⟩ (c_X3_init l dC dI aC H.size q1) (⟨va_cnB 0 hts (goodIn_sub (by decide +kernel) (by decide +kernel)) rfl rfl rfl (rf_nst hN 7 (q := (RX11, 11, yX3_init, "Transversary")) rfl) (hts (.initialized RX3) (by decide +kernel)) (by decide +kernel) ⟨Nat.le_of_ble_eq_true rfl, Nat.le_of_ble_eq_true rfl⟩, rfl, hts (.instanceMethod yX3_init) (by decide +kernel)⟩) (rf_ps hK hN hPc hDc) rfl rfl hl.1 rfl (lv_room (Nat.le_of_ble_eq_true rfl)) dX11_init_9 ⟨Nat.le_of_ble_eq_true rfl, Nat.le_of_ble_eq_true rfl⟩) hS (fun q _ h => hFc q h) hFc (fun u2 t H1 locs ht hvm hwu2 hB hz1 hk1 hS => ?_)
  obtain ⟨hP1, hD1⟩ := hB
  rw [ht] at hP1
  try dsimp only at hwu2 hP1 hD1
  obtain ⟨hP, hD⟩ := va_join (wr := [(h0, .inr (11, [.null, .null, .int 0, .null, .null, .null, .null, .null, .null, .null, .null, .null, .null, .null, .null]))]) (w1 := [(q1, .inr (0, [.ref u2, .int 0, .int 0])), (u2, .inl (aC 1, 7, .inl (fun _ => 0)))]) hP hD [1] [0] rfl rfl (by decide) (by decide) hk1 hFc hP1 hD1
  clear hP1 hD1 hPc hDc hFc
  generalize H1 = H at hP hS ⊢
  have hP : va_P (dC, dI) rfCl [(h0, .inr (11, [.null, .null, .int 0, .null, .null, .null, .null, .null, .null, .null, .null, .null, .null, .null, .null])), (q1, .inr (0, [.ref u2, .int 0, .int 0])), (u2, .inl (aC 1, 7, .inl (fun _ => 0)))] H := hP
  have hD : va_D A [(h0, .inr (11, [.null, .null, .int 0, .null, .null, .null, .null, .null, .null, .null, .null, .null, .null, .null, .null])), (q1, .inr (0, [.ref u2, .int 0, .int 0])), (u2, .inl (aC 1, 7, .inl (fun _ => 0)))] := hD
  refine W.widen (k := 2) (n := 10) (Nat.le_of_ble_eq_true rfl) (Nat.le_of_ble_eq_true rfl) ?_
  refine va_putF (D := (dC, dI)) (ci := 11) (v := .ref q1) (ty := (.object "Transversary$Points")) (C := RX11) (T := TX11) (N := 15) hx hb hts (by decide +kernel) tyX11 tyX11_ok nmX11 hown hK hP hD hS 0 rfl rfl 0 (by decide) (hts (.fieldLink RX11 12 "Transversary" "points" "LTransversary$Points;") (by decide +kernel)) (fun _ h9 => h9) rfl hin rfl (by decide +kernel) rfl rfl (Nat.le_of_ble_eq_true rfl) dX11_init_12 (fun H locs hP hD hS => ?_)
  have hP : va_P (dC, dI) rfCl [(h0, .inr (11, [.ref q1, .null, .int 0, .null, .null, .null, .null, .null, .null, .null, .null, .null, .null, .null, .null])), (q1, .inr (0, [.ref u2, .int 0, .int 0])), (u2, .inl (aC 1, 7, .inl (fun _ => 0)))] H := hP
  have hD : va_D A [(h0, .inr (11, [.ref q1, .null, .int 0, .null, .null, .null, .null, .null, .null, .null, .null, .null, .null, .null, .null])), (q1, .inr (0, [.ref u2, .int 0, .int 0])), (u2, .inl (aC 1, 7, .inl (fun _ => 0)))] := hD
  refine lv_aload_n hx hb dX11_init_15 rfl (lv_at hl 0 rfl) ?_
  refine lv_iconst (v := 5) hx hb dX11_init_16 (by decide) ?_
  refine va_newq (C := "Transversary$Sets") (N' := 5) hx hb hown (hts (.classLink RX11 16 RX7) (by decide +kernel)) hN.2.1 hK hP hD hS hA (by decide) (by decide) (by decide) (Nat.le_of_ble_eq_true rfl) (Nat.le_of_ble_eq_true rfl) dX11_init_17 (fun q4 cA9 H hK hP hD hS => ?_)
  obtain rfl : cA9 = aC 4 := rf_sameA hK 6 4 rfl rfl
  have hK := hK.sub (tys' := rfT aC) [0, 1, 2, 3, 4, 5] rfl
  have hP : va_P (dC, dI) rfCl [(h0, .inr (11, [.ref q1, .null, .int 0, .null, .null, .null, .null, .null, .null, .null, .null, .null, .null, .null, .null])), (q1, .inr (0, [.ref u2, .int 0, .int 0])), (u2, .inl (aC 1, 7, .inl (fun _ => 0))), (q4, .inl (aC 4, 5, .inr (.inr (.inr (.inr (fun _ => none))))))] H := hP
  have hD : va_D A [(h0, .inr (11, [.ref q1, .null, .int 0, .null, .null, .null, .null, .null, .null, .null, .null, .null, .null, .null, .null])), (q1, .inr (0, [.ref u2, .int 0, .int 0])), (u2, .inl (aC 1, 7, .inl (fun _ => 0))), (q4, .inl (aC 4, 5, .inr (.inr (.inr (.inr (fun _ => none))))))] := hD
  refine W.widen (k := 3) (n := 15) (Nat.le_of_ble_eq_true rfl) (Nat.le_of_ble_eq_true rfl) ?_
  refine va_putF (D := (dC, dI)) (ci := 11) (v := .ref q4) (ty := (.array (.object "Transversary$Sets"))) (C := RX11) (T := TX11) (N := 15) hx hb hts (by decide +kernel) tyX11 tyX11_ok nmX11 hown hK hP hD hS 0 rfl rfl 1 (by decide) (hts (.fieldLink RX11 18 "Transversary" "families" "[LTransversary$Sets;") (by decide +kernel)) (fun _ h9 => h9) rfl hin rfl (by decide +kernel) rfl rfl (Nat.le_of_ble_eq_true rfl) dX11_init_20 (fun H locs hP hD hS => ?_)
  have hP : va_P (dC, dI) rfCl [(h0, .inr (11, [.ref q1, .ref q4, .int 0, .null, .null, .null, .null, .null, .null, .null, .null, .null, .null, .null, .null])), (q1, .inr (0, [.ref u2, .int 0, .int 0])), (u2, .inl (aC 1, 7, .inl (fun _ => 0))), (q4, .inl (aC 4, 5, .inr (.inr (.inr (.inr (fun _ => none))))))] H := hP
  have hD : va_D A [(h0, .inr (11, [.ref q1, .ref q4, .int 0, .null, .null, .null, .null, .null, .null, .null, .null, .null, .null, .null, .null])), (q1, .inr (0, [.ref u2, .int 0, .int 0])), (u2, .inl (aC 1, 7, .inl (fun _ => 0))), (q4, .inl (aC 4, 5, .inr (.inr (.inr (.inr (fun _ => none))))))] := hD
  refine lv_aload_n hx hb dX11_init_23 rfl (lv_at hl 0 rfl) ?_
  refine va_new (ci := 1) (fs := [.null, .null, .int 0]) (C := RX7) (T := TX7) (N := 3) hx hb hts (by decide +kernel) tyX7 tyX7_ok hown (hts (.classLink RX11 16 RX7) (by decide +kernel)) (hts (.instantiable RX7 3) (by decide +kernel)) (hts (.initialized RX7) (by decide +kernel)) hK hP hD hS hA rfl (fun j hj => by rcases (show j = 0 ∨ j = 1 ∨ j = 2 by omega) with rfl | rfl | rfl <;> rfl) (Nat.le_of_ble_eq_true rfl) (Nat.le_of_ble_eq_true rfl) dX11_init_24 (fun q5 H hP hD hS => ?_)
  have hP : va_P (dC, dI) rfCl [(h0, .inr (11, [.ref q1, .ref q4, .int 0, .null, .null, .null, .null, .null, .null, .null, .null, .null, .null, .null, .null])), (q1, .inr (0, [.ref u2, .int 0, .int 0])), (u2, .inl (aC 1, 7, .inl (fun _ => 0))), (q4, .inl (aC 4, 5, .inr (.inr (.inr (.inr (fun _ => none)))))), (q5, .inr (1, [.null, .null, .int 0]))] H := hP
  have hD : va_D A [(h0, .inr (11, [.ref q1, .ref q4, .int 0, .null, .null, .null, .null, .null, .null, .null, .null, .null, .null, .null, .null])), (q1, .inr (0, [.ref u2, .int 0, .int 0])), (u2, .inl (aC 1, 7, .inl (fun _ => 0))), (q4, .inl (aC 4, 5, .inr (.inr (.inr (.inr (fun _ => none)))))), (q5, .inr (1, [.null, .null, .int 0]))] := hD
  refine W.widen (k := 4) (n := 18) (Nat.le_of_ble_eq_true rfl) (Nat.le_of_ble_eq_true rfl) ?_
  refine lv_dup hx hb dX11_init_27 rfl ?_
  have hPc := hP.sub (ws' := [(q5, .inr (1, [.null, .null, .int 0]))]) [4] rfl
  have hDc := hD.sub (ws' := [(q5, .inr (1, [.null, .null, .int 0]))]) [4] (by decide) rfl
  have hFc := va_free (wc := [(q5, .inr (1, [.null, .null, .int 0]))]) hD hS hA [4] rfl
  refine va_callv (va_runIN (As := []) (rest := [.ref q5, .ref h0]) ⟨hx, hb, hml, hown, hts⟩ (c_X7_init l dC dI aC H.size q5) (⟨va_cnB 0 hts (goodIn_sub (by decide +kernel) (by decide +kernel)) rfl rfl rfl (rf_nst hN 8 (q := (RX11, 22, yX7_init, "Transversary")) rfl) (hts (.initialized RX7) (by decide +kernel)) (by decide +kernel) ⟨Nat.le_of_ble_eq_true rfl, Nat.le_of_ble_eq_true rfl⟩, rfl, hts (.instanceMethod yX7_init) (by decide +kernel)⟩) (rf_ps hK hN hPc hDc) rfl rfl hl.1 rfl (lv_room (Nat.le_of_ble_eq_true rfl)) dX11_init_28 ⟨Nat.le_of_ble_eq_true rfl, Nat.le_of_ble_eq_true rfl⟩) hS (fun q _ h => hFc q h) hFc (fun u6 t H1 locs ht hvm hwu6 hB hz1 hk1 hS => ?_)
  obtain ⟨hP1, hD1⟩ := hB
  rw [ht] at hP1
  try dsimp only at hwu6 hP1 hD1
  obtain ⟨hP, hD⟩ := va_join (wr := [(h0, .inr (11, [.ref q1, .ref q4, .int 0, .null, .null, .null, .null, .null, .null, .null, .null, .null, .null, .null, .null])), (q1, .inr (0, [.ref u2, .int 0, .int 0])), (u2, .inl (aC 1, 7, .inl (fun _ => 0))), (q4, .inl (aC 4, 5, .inr (.inr (.inr (.inr (fun _ => none))))))]) (w1 := [(q5, .inr (1, [.ref (u6.1), .ref (u6.2), .int 0])), ((u6.1), .inl (aC 0, 128, .inl (fun _ => 0))), ((u6.2), .inl (aC 1, 128, .inl (fun _ => 0)))]) hP hD [4] [0, 1, 2, 3] rfl rfl (by decide) (by decide) hk1 hFc hP1 hD1
  clear hP1 hD1 hPc hDc hFc
  generalize H1 = H at hP hS ⊢
  have hP : va_P (dC, dI) rfCl [(h0, .inr (11, [.ref q1, .ref q4, .int 0, .null, .null, .null, .null, .null, .null, .null, .null, .null, .null, .null, .null])), (q1, .inr (0, [.ref u2, .int 0, .int 0])), (u2, .inl (aC 1, 7, .inl (fun _ => 0))), (q4, .inl (aC 4, 5, .inr (.inr (.inr (.inr (fun _ => none)))))), (q5, .inr (1, [.ref (u6.1), .ref (u6.2), .int 0])), ((u6.1), .inl (aC 0, 128, .inl (fun _ => 0))), ((u6.2), .inl (aC 1, 128, .inl (fun _ => 0)))] H := hP
  have hD : va_D A [(h0, .inr (11, [.ref q1, .ref q4, .int 0, .null, .null, .null, .null, .null, .null, .null, .null, .null, .null, .null, .null])), (q1, .inr (0, [.ref u2, .int 0, .int 0])), (u2, .inl (aC 1, 7, .inl (fun _ => 0))), (q4, .inl (aC 4, 5, .inr (.inr (.inr (.inr (fun _ => none)))))), (q5, .inr (1, [.ref (u6.1), .ref (u6.2), .int 0])), ((u6.1), .inl (aC 0, 128, .inl (fun _ => 0))), ((u6.2), .inl (aC 1, 128, .inl (fun _ => 0)))] := hD
  refine W.widen (k := 6) (n := 274) (Nat.le_of_ble_eq_true rfl) (Nat.le_of_ble_eq_true rfl) ?_
  obtain ⟨b8, r9⟩ := u6
  try dsimp only at hP hD
  have hP : va_P (dC, dI) rfCl [(h0, .inr (11, [.ref q1, .ref q4, .int 0, .null, .null, .null, .null, .null, .null, .null, .null, .null, .null, .null, .null])), (q1, .inr (0, [.ref u2, .int 0, .int 0])), (u2, .inl (aC 1, 7, .inl (fun _ => 0))), (q4, .inl (aC 4, 5, .inr (.inr (.inr (.inr (fun _ => none)))))), (q5, .inr (1, [.ref b8, .ref r9, .int 0])), (b8, .inl (aC 0, 128, .inl (fun _ => 0))), (r9, .inl (aC 1, 128, .inl (fun _ => 0)))] H := hP
  have hD : va_D A [(h0, .inr (11, [.ref q1, .ref q4, .int 0, .null, .null, .null, .null, .null, .null, .null, .null, .null, .null, .null, .null])), (q1, .inr (0, [.ref u2, .int 0, .int 0])), (u2, .inl (aC 1, 7, .inl (fun _ => 0))), (q4, .inl (aC 4, 5, .inr (.inr (.inr (.inr (fun _ => none)))))), (q5, .inr (1, [.ref b8, .ref r9, .int 0])), (b8, .inl (aC 0, 128, .inl (fun _ => 0))), (r9, .inl (aC 1, 128, .inl (fun _ => 0)))] := hD
  refine va_putF (D := (dC, dI)) (ci := 11) (v := .ref q5) (ty := (.object "Transversary$Sets")) (C := RX11) (T := TX11) (N := 15) hx hb hts (by decide +kernel) tyX11 tyX11_ok nmX11 hown hK hP hD hS 0 rfl rfl 3 (by decide) (hts (.fieldLink RX11 23 "Transversary" "parts" "LTransversary$Sets;") (by decide +kernel)) (fun _ h9 => h9) rfl hin rfl (by decide +kernel) rfl rfl (Nat.le_of_ble_eq_true rfl) dX11_init_31 (fun H locs hP hD hS => ?_)
  have hP : va_P (dC, dI) rfCl [(h0, .inr (11, [.ref q1, .ref q4, .int 0, .ref q5, .null, .null, .null, .null, .null, .null, .null, .null, .null, .null, .null])), (q1, .inr (0, [.ref u2, .int 0, .int 0])), (u2, .inl (aC 1, 7, .inl (fun _ => 0))), (q4, .inl (aC 4, 5, .inr (.inr (.inr (.inr (fun _ => none)))))), (q5, .inr (1, [.ref b8, .ref r9, .int 0])), (b8, .inl (aC 0, 128, .inl (fun _ => 0))), (r9, .inl (aC 1, 128, .inl (fun _ => 0)))] H := hP
  have hD : va_D A [(h0, .inr (11, [.ref q1, .ref q4, .int 0, .ref q5, .null, .null, .null, .null, .null, .null, .null, .null, .null, .null, .null])), (q1, .inr (0, [.ref u2, .int 0, .int 0])), (u2, .inl (aC 1, 7, .inl (fun _ => 0))), (q4, .inl (aC 4, 5, .inr (.inr (.inr (.inr (fun _ => none)))))), (q5, .inr (1, [.ref b8, .ref r9, .int 0])), (b8, .inl (aC 0, 128, .inl (fun _ => 0))), (r9, .inl (aC 1, 128, .inl (fun _ => 0)))] := hD
  refine lv_aload_n hx hb dX11_init_34 rfl (lv_at hl 0 rfl) ?_
  refine va_new (ci := 1) (fs := [.null, .null, .int 0]) (C := RX7) (T := TX7) (N := 3) hx hb hts (by decide +kernel) tyX7 tyX7_ok hown (hts (.classLink RX11 16 RX7) (by decide +kernel)) (hts (.instantiable RX7 3) (by decide +kernel)) (hts (.initialized RX7) (by decide +kernel)) hK hP hD hS hA rfl (fun j hj => by rcases (show j = 0 ∨ j = 1 ∨ j = 2 by omega) with rfl | rfl | rfl <;> rfl) (Nat.le_of_ble_eq_true rfl) (Nat.le_of_ble_eq_true rfl) dX11_init_35 (fun q10 H hP hD hS => ?_)
  have hP : va_P (dC, dI) rfCl [(h0, .inr (11, [.ref q1, .ref q4, .int 0, .ref q5, .null, .null, .null, .null, .null, .null, .null, .null, .null, .null, .null])), (q1, .inr (0, [.ref u2, .int 0, .int 0])), (u2, .inl (aC 1, 7, .inl (fun _ => 0))), (q4, .inl (aC 4, 5, .inr (.inr (.inr (.inr (fun _ => none)))))), (q5, .inr (1, [.ref b8, .ref r9, .int 0])), (b8, .inl (aC 0, 128, .inl (fun _ => 0))), (r9, .inl (aC 1, 128, .inl (fun _ => 0))), (q10, .inr (1, [.null, .null, .int 0]))] H := hP
  have hD : va_D A [(h0, .inr (11, [.ref q1, .ref q4, .int 0, .ref q5, .null, .null, .null, .null, .null, .null, .null, .null, .null, .null, .null])), (q1, .inr (0, [.ref u2, .int 0, .int 0])), (u2, .inl (aC 1, 7, .inl (fun _ => 0))), (q4, .inl (aC 4, 5, .inr (.inr (.inr (.inr (fun _ => none)))))), (q5, .inr (1, [.ref b8, .ref r9, .int 0])), (b8, .inl (aC 0, 128, .inl (fun _ => 0))), (r9, .inl (aC 1, 128, .inl (fun _ => 0))), (q10, .inr (1, [.null, .null, .int 0]))] := hD
  refine W.widen (k := 7) (n := 277) (Nat.le_of_ble_eq_true rfl) (Nat.le_of_ble_eq_true rfl) ?_
  refine lv_dup hx hb dX11_init_38 rfl ?_
  have hPc := hP.sub (ws' := [(q10, .inr (1, [.null, .null, .int 0]))]) [7] rfl
  have hDc := hD.sub (ws' := [(q10, .inr (1, [.null, .null, .int 0]))]) [7] (by decide) rfl
  have hFc := va_free (wc := [(q10, .inr (1, [.null, .null, .int 0]))]) hD hS hA [7] rfl
  refine va_callv (va_runIN (As := []) (rest := [.ref q10, .ref h0]) ⟨hx, hb, hml, hown, hts⟩ (c_X7_init l dC dI aC H.size q10) (⟨va_cnB 0 hts (goodIn_sub (by decide +kernel) (by decide +kernel)) rfl rfl rfl (rf_nst hN 8 (q := (RX11, 22, yX7_init, "Transversary")) rfl) (hts (.initialized RX7) (by decide +kernel)) (by decide +kernel) ⟨Nat.le_of_ble_eq_true rfl, Nat.le_of_ble_eq_true rfl⟩, rfl, hts (.instanceMethod yX7_init) (by decide +kernel)⟩) (rf_ps hK hN hPc hDc) rfl rfl hl.1 rfl (lv_room (Nat.le_of_ble_eq_true rfl)) dX11_init_39 ⟨Nat.le_of_ble_eq_true rfl, Nat.le_of_ble_eq_true rfl⟩) hS (fun q _ h => hFc q h) hFc (fun u11 t H1 locs ht hvm hwu11 hB hz1 hk1 hS => ?_)
  obtain ⟨hP1, hD1⟩ := hB
  rw [ht] at hP1
  try dsimp only at hwu11 hP1 hD1
  obtain ⟨hP, hD⟩ := va_join (wr := [(h0, .inr (11, [.ref q1, .ref q4, .int 0, .ref q5, .null, .null, .null, .null, .null, .null, .null, .null, .null, .null, .null])), (q1, .inr (0, [.ref u2, .int 0, .int 0])), (u2, .inl (aC 1, 7, .inl (fun _ => 0))), (q4, .inl (aC 4, 5, .inr (.inr (.inr (.inr (fun _ => none)))))), (q5, .inr (1, [.ref b8, .ref r9, .int 0])), (b8, .inl (aC 0, 128, .inl (fun _ => 0))), (r9, .inl (aC 1, 128, .inl (fun _ => 0)))]) (w1 := [(q10, .inr (1, [.ref (u11.1), .ref (u11.2), .int 0])), ((u11.1), .inl (aC 0, 128, .inl (fun _ => 0))), ((u11.2), .inl (aC 1, 128, .inl (fun _ => 0)))]) hP hD [7] [0, 1, 2, 3, 4, 5, 6] rfl rfl (by decide) (by decide) hk1 hFc hP1 hD1
  clear hP1 hD1 hPc hDc hFc
  generalize H1 = H at hP hS ⊢
  have hP : va_P (dC, dI) rfCl [(h0, .inr (11, [.ref q1, .ref q4, .int 0, .ref q5, .null, .null, .null, .null, .null, .null, .null, .null, .null, .null, .null])), (q1, .inr (0, [.ref u2, .int 0, .int 0])), (u2, .inl (aC 1, 7, .inl (fun _ => 0))), (q4, .inl (aC 4, 5, .inr (.inr (.inr (.inr (fun _ => none)))))), (q5, .inr (1, [.ref b8, .ref r9, .int 0])), (b8, .inl (aC 0, 128, .inl (fun _ => 0))), (r9, .inl (aC 1, 128, .inl (fun _ => 0))), (q10, .inr (1, [.ref (u11.1), .ref (u11.2), .int 0])), ((u11.1), .inl (aC 0, 128, .inl (fun _ => 0))), ((u11.2), .inl (aC 1, 128, .inl (fun _ => 0)))] H := hP
  have hD : va_D A [(h0, .inr (11, [.ref q1, .ref q4, .int 0, .ref q5, .null, .null, .null, .null, .null, .null, .null, .null, .null, .null, .null])), (q1, .inr (0, [.ref u2, .int 0, .int 0])), (u2, .inl (aC 1, 7, .inl (fun _ => 0))), (q4, .inl (aC 4, 5, .inr (.inr (.inr (.inr (fun _ => none)))))), (q5, .inr (1, [.ref b8, .ref r9, .int 0])), (b8, .inl (aC 0, 128, .inl (fun _ => 0))), (r9, .inl (aC 1, 128, .inl (fun _ => 0))), (q10, .inr (1, [.ref (u11.1), .ref (u11.2), .int 0])), ((u11.1), .inl (aC 0, 128, .inl (fun _ => 0))), ((u11.2), .inl (aC 1, 128, .inl (fun _ => 0)))] := hD
  refine W.widen (k := 9) (n := 533) (Nat.le_of_ble_eq_true rfl) (Nat.le_of_ble_eq_true rfl) ?_
  obtain ⟨b13, r14⟩ := u11
  try dsimp only at hP hD
  have hP : va_P (dC, dI) rfCl [(h0, .inr (11, [.ref q1, .ref q4, .int 0, .ref q5, .null, .null, .null, .null, .null, .null, .null, .null, .null, .null, .null])), (q1, .inr (0, [.ref u2, .int 0, .int 0])), (u2, .inl (aC 1, 7, .inl (fun _ => 0))), (q4, .inl (aC 4, 5, .inr (.inr (.inr (.inr (fun _ => none)))))), (q5, .inr (1, [.ref b8, .ref r9, .int 0])), (b8, .inl (aC 0, 128, .inl (fun _ => 0))), (r9, .inl (aC 1, 128, .inl (fun _ => 0))), (q10, .inr (1, [.ref b13, .ref r14, .int 0])), (b13, .inl (aC 0, 128, .inl (fun _ => 0))), (r14, .inl (aC 1, 128, .inl (fun _ => 0)))] H := hP
  have hD : va_D A [(h0, .inr (11, [.ref q1, .ref q4, .int 0, .ref q5, .null, .null, .null, .null, .null, .null, .null, .null, .null, .null, .null])), (q1, .inr (0, [.ref u2, .int 0, .int 0])), (u2, .inl (aC 1, 7, .inl (fun _ => 0))), (q4, .inl (aC 4, 5, .inr (.inr (.inr (.inr (fun _ => none)))))), (q5, .inr (1, [.ref b8, .ref r9, .int 0])), (b8, .inl (aC 0, 128, .inl (fun _ => 0))), (r9, .inl (aC 1, 128, .inl (fun _ => 0))), (q10, .inr (1, [.ref b13, .ref r14, .int 0])), (b13, .inl (aC 0, 128, .inl (fun _ => 0))), (r14, .inl (aC 1, 128, .inl (fun _ => 0)))] := hD
  refine va_putF (D := (dC, dI)) (ci := 11) (v := .ref q10) (ty := (.object "Transversary$Sets")) (C := RX11) (T := TX11) (N := 15) hx hb hts (by decide +kernel) tyX11 tyX11_ok nmX11 hown hK hP hD hS 0 rfl rfl 4 (by decide) (hts (.fieldLink RX11 27 "Transversary" "otherParts" "LTransversary$Sets;") (by decide +kernel)) (fun _ h9 => h9) rfl hin rfl (by decide +kernel) rfl rfl (Nat.le_of_ble_eq_true rfl) dX11_init_42 (fun H locs hP hD hS => ?_)
  have hP : va_P (dC, dI) rfCl [(h0, .inr (11, [.ref q1, .ref q4, .int 0, .ref q5, .ref q10, .null, .null, .null, .null, .null, .null, .null, .null, .null, .null])), (q1, .inr (0, [.ref u2, .int 0, .int 0])), (u2, .inl (aC 1, 7, .inl (fun _ => 0))), (q4, .inl (aC 4, 5, .inr (.inr (.inr (.inr (fun _ => none)))))), (q5, .inr (1, [.ref b8, .ref r9, .int 0])), (b8, .inl (aC 0, 128, .inl (fun _ => 0))), (r9, .inl (aC 1, 128, .inl (fun _ => 0))), (q10, .inr (1, [.ref b13, .ref r14, .int 0])), (b13, .inl (aC 0, 128, .inl (fun _ => 0))), (r14, .inl (aC 1, 128, .inl (fun _ => 0)))] H := hP
  have hD : va_D A [(h0, .inr (11, [.ref q1, .ref q4, .int 0, .ref q5, .ref q10, .null, .null, .null, .null, .null, .null, .null, .null, .null, .null])), (q1, .inr (0, [.ref u2, .int 0, .int 0])), (u2, .inl (aC 1, 7, .inl (fun _ => 0))), (q4, .inl (aC 4, 5, .inr (.inr (.inr (.inr (fun _ => none)))))), (q5, .inr (1, [.ref b8, .ref r9, .int 0])), (b8, .inl (aC 0, 128, .inl (fun _ => 0))), (r9, .inl (aC 1, 128, .inl (fun _ => 0))), (q10, .inr (1, [.ref b13, .ref r14, .int 0])), (b13, .inl (aC 0, 128, .inl (fun _ => 0))), (r14, .inl (aC 1, 128, .inl (fun _ => 0)))] := hD
  refine lv_aload_n hx hb dX11_init_45 rfl (lv_at hl 0 rfl) ?_
  refine va_new (ci := 1) (fs := [.null, .null, .int 0]) (C := RX7) (T := TX7) (N := 3) hx hb hts (by decide +kernel) tyX7 tyX7_ok hown (hts (.classLink RX11 16 RX7) (by decide +kernel)) (hts (.instantiable RX7 3) (by decide +kernel)) (hts (.initialized RX7) (by decide +kernel)) hK hP hD hS hA rfl (fun j hj => by rcases (show j = 0 ∨ j = 1 ∨ j = 2 by omega) with rfl | rfl | rfl <;> rfl) (Nat.le_of_ble_eq_true rfl) (Nat.le_of_ble_eq_true rfl) dX11_init_46 (fun q15 H hP hD hS => ?_)
  have hP : va_P (dC, dI) rfCl [(h0, .inr (11, [.ref q1, .ref q4, .int 0, .ref q5, .ref q10, .null, .null, .null, .null, .null, .null, .null, .null, .null, .null])), (q1, .inr (0, [.ref u2, .int 0, .int 0])), (u2, .inl (aC 1, 7, .inl (fun _ => 0))), (q4, .inl (aC 4, 5, .inr (.inr (.inr (.inr (fun _ => none)))))), (q5, .inr (1, [.ref b8, .ref r9, .int 0])), (b8, .inl (aC 0, 128, .inl (fun _ => 0))), (r9, .inl (aC 1, 128, .inl (fun _ => 0))), (q10, .inr (1, [.ref b13, .ref r14, .int 0])), (b13, .inl (aC 0, 128, .inl (fun _ => 0))), (r14, .inl (aC 1, 128, .inl (fun _ => 0))), (q15, .inr (1, [.null, .null, .int 0]))] H := hP
  have hD : va_D A [(h0, .inr (11, [.ref q1, .ref q4, .int 0, .ref q5, .ref q10, .null, .null, .null, .null, .null, .null, .null, .null, .null, .null])), (q1, .inr (0, [.ref u2, .int 0, .int 0])), (u2, .inl (aC 1, 7, .inl (fun _ => 0))), (q4, .inl (aC 4, 5, .inr (.inr (.inr (.inr (fun _ => none)))))), (q5, .inr (1, [.ref b8, .ref r9, .int 0])), (b8, .inl (aC 0, 128, .inl (fun _ => 0))), (r9, .inl (aC 1, 128, .inl (fun _ => 0))), (q10, .inr (1, [.ref b13, .ref r14, .int 0])), (b13, .inl (aC 0, 128, .inl (fun _ => 0))), (r14, .inl (aC 1, 128, .inl (fun _ => 0))), (q15, .inr (1, [.null, .null, .int 0]))] := hD
  refine W.widen (k := 10) (n := 536) (Nat.le_of_ble_eq_true rfl) (Nat.le_of_ble_eq_true rfl) ?_
  refine lv_dup hx hb dX11_init_49 rfl ?_
  have hPc := hP.sub (ws' := [(q15, .inr (1, [.null, .null, .int 0]))]) [10] rfl
  have hDc := hD.sub (ws' := [(q15, .inr (1, [.null, .null, .int 0]))]) [10] (by decide) rfl
  have hFc := va_free (wc := [(q15, .inr (1, [.null, .null, .int 0]))]) hD hS hA [10] rfl
  refine va_callv (va_runIN (As := []) (rest := [.ref q15, .ref h0]) ⟨hx, hb, hml, hown, hts⟩ (c_X7_init l dC dI aC H.size q15) (⟨va_cnB 0 hts (goodIn_sub (by decide +kernel) (by decide +kernel)) rfl rfl rfl (rf_nst hN 8 (q := (RX11, 22, yX7_init, "Transversary")) rfl) (hts (.initialized RX7) (by decide +kernel)) (by decide +kernel) ⟨Nat.le_of_ble_eq_true rfl, Nat.le_of_ble_eq_true rfl⟩, rfl, hts (.instanceMethod yX7_init) (by decide +kernel)⟩) (rf_ps hK hN hPc hDc) rfl rfl hl.1 rfl (lv_room (Nat.le_of_ble_eq_true rfl)) dX11_init_50 ⟨Nat.le_of_ble_eq_true rfl, Nat.le_of_ble_eq_true rfl⟩) hS (fun q _ h => hFc q h) hFc (fun u16 t H1 locs ht hvm hwu16 hB hz1 hk1 hS => ?_)
  obtain ⟨hP1, hD1⟩ := hB
  rw [ht] at hP1
  try dsimp only at hwu16 hP1 hD1
  obtain ⟨hP, hD⟩ := va_join (wr := [(h0, .inr (11, [.ref q1, .ref q4, .int 0, .ref q5, .ref q10, .null, .null, .null, .null, .null, .null, .null, .null, .null, .null])), (q1, .inr (0, [.ref u2, .int 0, .int 0])), (u2, .inl (aC 1, 7, .inl (fun _ => 0))), (q4, .inl (aC 4, 5, .inr (.inr (.inr (.inr (fun _ => none)))))), (q5, .inr (1, [.ref b8, .ref r9, .int 0])), (b8, .inl (aC 0, 128, .inl (fun _ => 0))), (r9, .inl (aC 1, 128, .inl (fun _ => 0))), (q10, .inr (1, [.ref b13, .ref r14, .int 0])), (b13, .inl (aC 0, 128, .inl (fun _ => 0))), (r14, .inl (aC 1, 128, .inl (fun _ => 0)))]) (w1 := [(q15, .inr (1, [.ref (u16.1), .ref (u16.2), .int 0])), ((u16.1), .inl (aC 0, 128, .inl (fun _ => 0))), ((u16.2), .inl (aC 1, 128, .inl (fun _ => 0)))]) hP hD [10] [0, 1, 2, 3, 4, 5, 6, 7, 8, 9] rfl rfl (by decide) (by decide) hk1 hFc hP1 hD1
  clear hP1 hD1 hPc hDc hFc
  generalize H1 = H at hP hS ⊢
  have hP : va_P (dC, dI) rfCl [(h0, .inr (11, [.ref q1, .ref q4, .int 0, .ref q5, .ref q10, .null, .null, .null, .null, .null, .null, .null, .null, .null, .null])), (q1, .inr (0, [.ref u2, .int 0, .int 0])), (u2, .inl (aC 1, 7, .inl (fun _ => 0))), (q4, .inl (aC 4, 5, .inr (.inr (.inr (.inr (fun _ => none)))))), (q5, .inr (1, [.ref b8, .ref r9, .int 0])), (b8, .inl (aC 0, 128, .inl (fun _ => 0))), (r9, .inl (aC 1, 128, .inl (fun _ => 0))), (q10, .inr (1, [.ref b13, .ref r14, .int 0])), (b13, .inl (aC 0, 128, .inl (fun _ => 0))), (r14, .inl (aC 1, 128, .inl (fun _ => 0))), (q15, .inr (1, [.ref (u16.1), .ref (u16.2), .int 0])), ((u16.1), .inl (aC 0, 128, .inl (fun _ => 0))), ((u16.2), .inl (aC 1, 128, .inl (fun _ => 0)))] H := hP
  have hD : va_D A [(h0, .inr (11, [.ref q1, .ref q4, .int 0, .ref q5, .ref q10, .null, .null, .null, .null, .null, .null, .null, .null, .null, .null])), (q1, .inr (0, [.ref u2, .int 0, .int 0])), (u2, .inl (aC 1, 7, .inl (fun _ => 0))), (q4, .inl (aC 4, 5, .inr (.inr (.inr (.inr (fun _ => none)))))), (q5, .inr (1, [.ref b8, .ref r9, .int 0])), (b8, .inl (aC 0, 128, .inl (fun _ => 0))), (r9, .inl (aC 1, 128, .inl (fun _ => 0))), (q10, .inr (1, [.ref b13, .ref r14, .int 0])), (b13, .inl (aC 0, 128, .inl (fun _ => 0))), (r14, .inl (aC 1, 128, .inl (fun _ => 0))), (q15, .inr (1, [.ref (u16.1), .ref (u16.2), .int 0])), ((u16.1), .inl (aC 0, 128, .inl (fun _ => 0))), ((u16.2), .inl (aC 1, 128, .inl (fun _ => 0)))] := hD
  refine W.widen (k := 12) (n := 792) (Nat.le_of_ble_eq_true rfl) (Nat.le_of_ble_eq_true rfl) ?_
  obtain ⟨b18, r19⟩ := u16
  try dsimp only at hP hD
  have hP : va_P (dC, dI) rfCl [(h0, .inr (11, [.ref q1, .ref q4, .int 0, .ref q5, .ref q10, .null, .null, .null, .null, .null, .null, .null, .null, .null, .null])), (q1, .inr (0, [.ref u2, .int 0, .int 0])), (u2, .inl (aC 1, 7, .inl (fun _ => 0))), (q4, .inl (aC 4, 5, .inr (.inr (.inr (.inr (fun _ => none)))))), (q5, .inr (1, [.ref b8, .ref r9, .int 0])), (b8, .inl (aC 0, 128, .inl (fun _ => 0))), (r9, .inl (aC 1, 128, .inl (fun _ => 0))), (q10, .inr (1, [.ref b13, .ref r14, .int 0])), (b13, .inl (aC 0, 128, .inl (fun _ => 0))), (r14, .inl (aC 1, 128, .inl (fun _ => 0))), (q15, .inr (1, [.ref b18, .ref r19, .int 0])), (b18, .inl (aC 0, 128, .inl (fun _ => 0))), (r19, .inl (aC 1, 128, .inl (fun _ => 0)))] H := hP
  have hD : va_D A [(h0, .inr (11, [.ref q1, .ref q4, .int 0, .ref q5, .ref q10, .null, .null, .null, .null, .null, .null, .null, .null, .null, .null])), (q1, .inr (0, [.ref u2, .int 0, .int 0])), (u2, .inl (aC 1, 7, .inl (fun _ => 0))), (q4, .inl (aC 4, 5, .inr (.inr (.inr (.inr (fun _ => none)))))), (q5, .inr (1, [.ref b8, .ref r9, .int 0])), (b8, .inl (aC 0, 128, .inl (fun _ => 0))), (r9, .inl (aC 1, 128, .inl (fun _ => 0))), (q10, .inr (1, [.ref b13, .ref r14, .int 0])), (b13, .inl (aC 0, 128, .inl (fun _ => 0))), (r14, .inl (aC 1, 128, .inl (fun _ => 0))), (q15, .inr (1, [.ref b18, .ref r19, .int 0])), (b18, .inl (aC 0, 128, .inl (fun _ => 0))), (r19, .inl (aC 1, 128, .inl (fun _ => 0)))] := hD
  refine va_putF (D := (dC, dI)) (ci := 11) (v := .ref q15) (ty := (.object "Transversary$Sets")) (C := RX11) (T := TX11) (N := 15) hx hb hts (by decide +kernel) tyX11 tyX11_ok nmX11 hown hK hP hD hS 0 rfl rfl 5 (by decide) (hts (.fieldLink RX11 30 "Transversary" "made" "LTransversary$Sets;") (by decide +kernel)) (fun _ h9 => h9) rfl hin rfl (by decide +kernel) rfl rfl (Nat.le_of_ble_eq_true rfl) dX11_init_53 (fun H locs hP hD hS => ?_)
  have hP : va_P (dC, dI) rfCl [(h0, .inr (11, [.ref q1, .ref q4, .int 0, .ref q5, .ref q10, .ref q15, .null, .null, .null, .null, .null, .null, .null, .null, .null])), (q1, .inr (0, [.ref u2, .int 0, .int 0])), (u2, .inl (aC 1, 7, .inl (fun _ => 0))), (q4, .inl (aC 4, 5, .inr (.inr (.inr (.inr (fun _ => none)))))), (q5, .inr (1, [.ref b8, .ref r9, .int 0])), (b8, .inl (aC 0, 128, .inl (fun _ => 0))), (r9, .inl (aC 1, 128, .inl (fun _ => 0))), (q10, .inr (1, [.ref b13, .ref r14, .int 0])), (b13, .inl (aC 0, 128, .inl (fun _ => 0))), (r14, .inl (aC 1, 128, .inl (fun _ => 0))), (q15, .inr (1, [.ref b18, .ref r19, .int 0])), (b18, .inl (aC 0, 128, .inl (fun _ => 0))), (r19, .inl (aC 1, 128, .inl (fun _ => 0)))] H := hP
  have hD : va_D A [(h0, .inr (11, [.ref q1, .ref q4, .int 0, .ref q5, .ref q10, .ref q15, .null, .null, .null, .null, .null, .null, .null, .null, .null])), (q1, .inr (0, [.ref u2, .int 0, .int 0])), (u2, .inl (aC 1, 7, .inl (fun _ => 0))), (q4, .inl (aC 4, 5, .inr (.inr (.inr (.inr (fun _ => none)))))), (q5, .inr (1, [.ref b8, .ref r9, .int 0])), (b8, .inl (aC 0, 128, .inl (fun _ => 0))), (r9, .inl (aC 1, 128, .inl (fun _ => 0))), (q10, .inr (1, [.ref b13, .ref r14, .int 0])), (b13, .inl (aC 0, 128, .inl (fun _ => 0))), (r14, .inl (aC 1, 128, .inl (fun _ => 0))), (q15, .inr (1, [.ref b18, .ref r19, .int 0])), (b18, .inl (aC 0, 128, .inl (fun _ => 0))), (r19, .inl (aC 1, 128, .inl (fun _ => 0)))] := hD
  refine lv_aload_n hx hb dX11_init_56 rfl (lv_at hl 0 rfl) ?_
  refine va_new (ci := 2) (fs := [.null, .null, .null, .null, .null]) (C := RX0) (T := TX0) (N := 5) hx hb hts (by decide +kernel) tyX0 tyX0_ok hown (hts (.classLink RX11 33 RX0) (by decide +kernel)) (hts (.instantiable RX0 5) (by decide +kernel)) (hts (.initialized RX0) (by decide +kernel)) hK hP hD hS hA rfl (fun j hj => by rcases (show j = 0 ∨ j = 1 ∨ j = 2 ∨ j = 3 ∨ j = 4 by omega) with rfl | rfl | rfl | rfl | rfl <;> rfl) (Nat.le_of_ble_eq_true rfl) (Nat.le_of_ble_eq_true rfl) dX11_init_57 (fun q20 H hP hD hS => ?_)
  have hP : va_P (dC, dI) rfCl [(h0, .inr (11, [.ref q1, .ref q4, .int 0, .ref q5, .ref q10, .ref q15, .null, .null, .null, .null, .null, .null, .null, .null, .null])), (q1, .inr (0, [.ref u2, .int 0, .int 0])), (u2, .inl (aC 1, 7, .inl (fun _ => 0))), (q4, .inl (aC 4, 5, .inr (.inr (.inr (.inr (fun _ => none)))))), (q5, .inr (1, [.ref b8, .ref r9, .int 0])), (b8, .inl (aC 0, 128, .inl (fun _ => 0))), (r9, .inl (aC 1, 128, .inl (fun _ => 0))), (q10, .inr (1, [.ref b13, .ref r14, .int 0])), (b13, .inl (aC 0, 128, .inl (fun _ => 0))), (r14, .inl (aC 1, 128, .inl (fun _ => 0))), (q15, .inr (1, [.ref b18, .ref r19, .int 0])), (b18, .inl (aC 0, 128, .inl (fun _ => 0))), (r19, .inl (aC 1, 128, .inl (fun _ => 0))), (q20, .inr (2, [.null, .null, .null, .null, .null]))] H := hP
  have hD : va_D A [(h0, .inr (11, [.ref q1, .ref q4, .int 0, .ref q5, .ref q10, .ref q15, .null, .null, .null, .null, .null, .null, .null, .null, .null])), (q1, .inr (0, [.ref u2, .int 0, .int 0])), (u2, .inl (aC 1, 7, .inl (fun _ => 0))), (q4, .inl (aC 4, 5, .inr (.inr (.inr (.inr (fun _ => none)))))), (q5, .inr (1, [.ref b8, .ref r9, .int 0])), (b8, .inl (aC 0, 128, .inl (fun _ => 0))), (r9, .inl (aC 1, 128, .inl (fun _ => 0))), (q10, .inr (1, [.ref b13, .ref r14, .int 0])), (b13, .inl (aC 0, 128, .inl (fun _ => 0))), (r14, .inl (aC 1, 128, .inl (fun _ => 0))), (q15, .inr (1, [.ref b18, .ref r19, .int 0])), (b18, .inl (aC 0, 128, .inl (fun _ => 0))), (r19, .inl (aC 1, 128, .inl (fun _ => 0))), (q20, .inr (2, [.null, .null, .null, .null, .null]))] := hD
  refine W.widen (k := 13) (n := 797) (Nat.le_of_ble_eq_true rfl) (Nat.le_of_ble_eq_true rfl) ?_
  refine lv_dup hx hb dX11_init_60 rfl ?_
  have hPc := hP.sub (ws' := [(q20, .inr (2, [.null, .null, .null, .null, .null]))]) [13] rfl
  have hDc := hD.sub (ws' := [(q20, .inr (2, [.null, .null, .null, .null, .null]))]) [13] (by decide) rfl
  have hFc := va_free (wc := [(q20, .inr (2, [.null, .null, .null, .null, .null]))]) hD hS hA [13] rfl
  refine va_callv (va_runIN (As := []) (rest := [.ref q20, .ref h0]) ⟨hx, hb, hml, hown, hts⟩ (c_X0_init l dC dI aC H.size q20) (⟨va_cnB 0 hts (goodIn_sub (by decide +kernel) (by decide +kernel)) rfl rfl rfl (rf_nst hN 9 (q := (RX11, 35, yX0_init, "Transversary")) rfl) (hts (.initialized RX0) (by decide +kernel)) (by decide +kernel) ⟨Nat.le_of_ble_eq_true rfl, Nat.le_of_ble_eq_true rfl⟩, rfl, hts (.instanceMethod yX0_init) (by decide +kernel)⟩) (rf_ps hK hN hPc hDc) rfl rfl hl.1 rfl (lv_room (Nat.le_of_ble_eq_true rfl)) dX11_init_61 ⟨Nat.le_of_ble_eq_true rfl, Nat.le_of_ble_eq_true rfl⟩) hS (fun q _ h => hFc q h) hFc (fun u21 t H1 locs ht hvm hwu21 hB hz1 hk1 hS => ?_)
  obtain ⟨hP1, hD1⟩ := hB
  rw [ht] at hP1
  try dsimp only at hwu21 hP1 hD1
  obtain ⟨hP, hD⟩ := va_join (wr := [(h0, .inr (11, [.ref q1, .ref q4, .int 0, .ref q5, .ref q10, .ref q15, .null, .null, .null, .null, .null, .null, .null, .null, .null])), (q1, .inr (0, [.ref u2, .int 0, .int 0])), (u2, .inl (aC 1, 7, .inl (fun _ => 0))), (q4, .inl (aC 4, 5, .inr (.inr (.inr (.inr (fun _ => none)))))), (q5, .inr (1, [.ref b8, .ref r9, .int 0])), (b8, .inl (aC 0, 128, .inl (fun _ => 0))), (r9, .inl (aC 1, 128, .inl (fun _ => 0))), (q10, .inr (1, [.ref b13, .ref r14, .int 0])), (b13, .inl (aC 0, 128, .inl (fun _ => 0))), (r14, .inl (aC 1, 128, .inl (fun _ => 0))), (q15, .inr (1, [.ref b18, .ref r19, .int 0])), (b18, .inl (aC 0, 128, .inl (fun _ => 0))), (r19, .inl (aC 1, 128, .inl (fun _ => 0)))]) (w1 := []) hP hD [13] [0, 1, 2, 3, 4, 5, 6, 7, 8, 9, 10, 11, 12] rfl rfl (by decide) (by decide) hk1 hFc hP1 hD1
  clear hP1 hD1 hPc hDc hFc
  generalize H1 = H at hP hS ⊢
  have hP : va_P (dC, dI) rfCl [(h0, .inr (11, [.ref q1, .ref q4, .int 0, .ref q5, .ref q10, .ref q15, .null, .null, .null, .null, .null, .null, .null, .null, .null])), (q1, .inr (0, [.ref u2, .int 0, .int 0])), (u2, .inl (aC 1, 7, .inl (fun _ => 0))), (q4, .inl (aC 4, 5, .inr (.inr (.inr (.inr (fun _ => none)))))), (q5, .inr (1, [.ref b8, .ref r9, .int 0])), (b8, .inl (aC 0, 128, .inl (fun _ => 0))), (r9, .inl (aC 1, 128, .inl (fun _ => 0))), (q10, .inr (1, [.ref b13, .ref r14, .int 0])), (b13, .inl (aC 0, 128, .inl (fun _ => 0))), (r14, .inl (aC 1, 128, .inl (fun _ => 0))), (q15, .inr (1, [.ref b18, .ref r19, .int 0])), (b18, .inl (aC 0, 128, .inl (fun _ => 0))), (r19, .inl (aC 1, 128, .inl (fun _ => 0)))] H := hP
  have hD : va_D A [(h0, .inr (11, [.ref q1, .ref q4, .int 0, .ref q5, .ref q10, .ref q15, .null, .null, .null, .null, .null, .null, .null, .null, .null])), (q1, .inr (0, [.ref u2, .int 0, .int 0])), (u2, .inl (aC 1, 7, .inl (fun _ => 0))), (q4, .inl (aC 4, 5, .inr (.inr (.inr (.inr (fun _ => none)))))), (q5, .inr (1, [.ref b8, .ref r9, .int 0])), (b8, .inl (aC 0, 128, .inl (fun _ => 0))), (r9, .inl (aC 1, 128, .inl (fun _ => 0))), (q10, .inr (1, [.ref b13, .ref r14, .int 0])), (b13, .inl (aC 0, 128, .inl (fun _ => 0))), (r14, .inl (aC 1, 128, .inl (fun _ => 0))), (q15, .inr (1, [.ref b18, .ref r19, .int 0])), (b18, .inl (aC 0, 128, .inl (fun _ => 0))), (r19, .inl (aC 1, 128, .inl (fun _ => 0)))] := hD
  refine W.widen (k := 24) (n := 1830) (Nat.le_of_ble_eq_true rfl) (Nat.le_of_ble_eq_true rfl) ?_
  refine va_putF (D := (dC, dI)) (ci := 11) (v := .ref q20) (ty := (.object "Transversary$Covers")) (C := RX11) (T := TX11) (N := 15) hx hb hts (by decide +kernel) tyX11 tyX11_ok nmX11 hown hK hP hD hS 0 rfl rfl 6 (by decide) (hts (.fieldLink RX11 36 "Transversary" "covers" "LTransversary$Covers;") (by decide +kernel)) (fun _ h9 => h9) rfl hin rfl (by decide +kernel) rfl rfl (Nat.le_of_ble_eq_true rfl) dX11_init_64 (fun H locs hP hD hS => ?_)
  have hP : va_P (dC, dI) rfCl [(h0, .inr (11, [.ref q1, .ref q4, .int 0, .ref q5, .ref q10, .ref q15, .ref q20, .null, .null, .null, .null, .null, .null, .null, .null])), (q1, .inr (0, [.ref u2, .int 0, .int 0])), (u2, .inl (aC 1, 7, .inl (fun _ => 0))), (q4, .inl (aC 4, 5, .inr (.inr (.inr (.inr (fun _ => none)))))), (q5, .inr (1, [.ref b8, .ref r9, .int 0])), (b8, .inl (aC 0, 128, .inl (fun _ => 0))), (r9, .inl (aC 1, 128, .inl (fun _ => 0))), (q10, .inr (1, [.ref b13, .ref r14, .int 0])), (b13, .inl (aC 0, 128, .inl (fun _ => 0))), (r14, .inl (aC 1, 128, .inl (fun _ => 0))), (q15, .inr (1, [.ref b18, .ref r19, .int 0])), (b18, .inl (aC 0, 128, .inl (fun _ => 0))), (r19, .inl (aC 1, 128, .inl (fun _ => 0)))] H := hP
  have hD : va_D A [(h0, .inr (11, [.ref q1, .ref q4, .int 0, .ref q5, .ref q10, .ref q15, .ref q20, .null, .null, .null, .null, .null, .null, .null, .null])), (q1, .inr (0, [.ref u2, .int 0, .int 0])), (u2, .inl (aC 1, 7, .inl (fun _ => 0))), (q4, .inl (aC 4, 5, .inr (.inr (.inr (.inr (fun _ => none)))))), (q5, .inr (1, [.ref b8, .ref r9, .int 0])), (b8, .inl (aC 0, 128, .inl (fun _ => 0))), (r9, .inl (aC 1, 128, .inl (fun _ => 0))), (q10, .inr (1, [.ref b13, .ref r14, .int 0])), (b13, .inl (aC 0, 128, .inl (fun _ => 0))), (r14, .inl (aC 1, 128, .inl (fun _ => 0))), (q15, .inr (1, [.ref b18, .ref r19, .int 0])), (b18, .inl (aC 0, 128, .inl (fun _ => 0))), (r19, .inl (aC 1, 128, .inl (fun _ => 0)))] := hD
  refine lv_aload_n hx hb dX11_init_67 rfl (lv_at hl 0 rfl) ?_
  refine va_new (ci := 3) (fs := [.null, .null, .long 0, .long 0, .long 0]) (C := RX4) (T := TX4) (N := 5) hx hb hts (by decide +kernel) tyX4 tyX4_ok hown (hts (.classLink RX11 40 RX4) (by decide +kernel)) (hts (.instantiable RX4 5) (by decide +kernel)) (hts (.initialized RX4) (by decide +kernel)) hK hP hD hS hA rfl (fun j hj => by rcases (show j = 0 ∨ j = 1 ∨ j = 2 ∨ j = 3 ∨ j = 4 by omega) with rfl | rfl | rfl | rfl | rfl <;> rfl) (Nat.le_of_ble_eq_true rfl) (Nat.le_of_ble_eq_true rfl) dX11_init_68 (fun q23 H hP hD hS => ?_)
  have hP : va_P (dC, dI) rfCl [(h0, .inr (11, [.ref q1, .ref q4, .int 0, .ref q5, .ref q10, .ref q15, .ref q20, .null, .null, .null, .null, .null, .null, .null, .null])), (q1, .inr (0, [.ref u2, .int 0, .int 0])), (u2, .inl (aC 1, 7, .inl (fun _ => 0))), (q4, .inl (aC 4, 5, .inr (.inr (.inr (.inr (fun _ => none)))))), (q5, .inr (1, [.ref b8, .ref r9, .int 0])), (b8, .inl (aC 0, 128, .inl (fun _ => 0))), (r9, .inl (aC 1, 128, .inl (fun _ => 0))), (q10, .inr (1, [.ref b13, .ref r14, .int 0])), (b13, .inl (aC 0, 128, .inl (fun _ => 0))), (r14, .inl (aC 1, 128, .inl (fun _ => 0))), (q15, .inr (1, [.ref b18, .ref r19, .int 0])), (b18, .inl (aC 0, 128, .inl (fun _ => 0))), (r19, .inl (aC 1, 128, .inl (fun _ => 0))), (q23, .inr (3, [.null, .null, .long 0, .long 0, .long 0]))] H := hP
  have hD : va_D A [(h0, .inr (11, [.ref q1, .ref q4, .int 0, .ref q5, .ref q10, .ref q15, .ref q20, .null, .null, .null, .null, .null, .null, .null, .null])), (q1, .inr (0, [.ref u2, .int 0, .int 0])), (u2, .inl (aC 1, 7, .inl (fun _ => 0))), (q4, .inl (aC 4, 5, .inr (.inr (.inr (.inr (fun _ => none)))))), (q5, .inr (1, [.ref b8, .ref r9, .int 0])), (b8, .inl (aC 0, 128, .inl (fun _ => 0))), (r9, .inl (aC 1, 128, .inl (fun _ => 0))), (q10, .inr (1, [.ref b13, .ref r14, .int 0])), (b13, .inl (aC 0, 128, .inl (fun _ => 0))), (r14, .inl (aC 1, 128, .inl (fun _ => 0))), (q15, .inr (1, [.ref b18, .ref r19, .int 0])), (b18, .inl (aC 0, 128, .inl (fun _ => 0))), (r19, .inl (aC 1, 128, .inl (fun _ => 0))), (q23, .inr (3, [.null, .null, .long 0, .long 0, .long 0]))] := hD
  refine W.widen (k := 25) (n := 1835) (Nat.le_of_ble_eq_true rfl) (Nat.le_of_ble_eq_true rfl) ?_
  refine lv_dup hx hb dX11_init_71 rfl ?_
  have hPc := hP.sub (ws' := [(q23, .inr (3, [.null, .null, .long 0, .long 0, .long 0]))]) [13] rfl
  have hDc := hD.sub (ws' := [(q23, .inr (3, [.null, .null, .long 0, .long 0, .long 0]))]) [13] (by decide) rfl
  have hFc := va_free (wc := [(q23, .inr (3, [.null, .null, .long 0, .long 0, .long 0]))]) hD hS hA [13] rfl
  refine va_callv (va_runIN (As := []) (rest := [.ref q23, .ref h0]) ⟨hx, hb, hml, hown, hts⟩ (c_X4_init l dC dI aC H.size q23) (⟨va_cnB 0 hts (goodIn_sub (by decide +kernel) (by decide +kernel)) rfl rfl rfl (rf_nst hN 10 (q := (RX11, 42, yX4_init, "Transversary")) rfl) (hts (.initialized RX4) (by decide +kernel)) (by decide +kernel) ⟨Nat.le_of_ble_eq_true rfl, Nat.le_of_ble_eq_true rfl⟩, rfl, hts (.instanceMethod yX4_init) (by decide +kernel)⟩) (rf_ps hK hN hPc hDc) rfl rfl hl.1 rfl (lv_room (Nat.le_of_ble_eq_true rfl)) dX11_init_72 ⟨Nat.le_of_ble_eq_true rfl, Nat.le_of_ble_eq_true rfl⟩) hS (fun q _ h => hFc q h) hFc (fun u24 t H1 locs ht hvm hwu24 hB hz1 hk1 hS => ?_)
  obtain ⟨hP1, hD1⟩ := hB
  rw [ht] at hP1
  try dsimp only at hwu24 hP1 hD1
  obtain ⟨hP, hD⟩ := va_join (wr := [(h0, .inr (11, [.ref q1, .ref q4, .int 0, .ref q5, .ref q10, .ref q15, .ref q20, .null, .null, .null, .null, .null, .null, .null, .null])), (q1, .inr (0, [.ref u2, .int 0, .int 0])), (u2, .inl (aC 1, 7, .inl (fun _ => 0))), (q4, .inl (aC 4, 5, .inr (.inr (.inr (.inr (fun _ => none)))))), (q5, .inr (1, [.ref b8, .ref r9, .int 0])), (b8, .inl (aC 0, 128, .inl (fun _ => 0))), (r9, .inl (aC 1, 128, .inl (fun _ => 0))), (q10, .inr (1, [.ref b13, .ref r14, .int 0])), (b13, .inl (aC 0, 128, .inl (fun _ => 0))), (r14, .inl (aC 1, 128, .inl (fun _ => 0))), (q15, .inr (1, [.ref b18, .ref r19, .int 0])), (b18, .inl (aC 0, 128, .inl (fun _ => 0))), (r19, .inl (aC 1, 128, .inl (fun _ => 0)))]) (w1 := []) hP hD [13] [0, 1, 2, 3, 4, 5, 6, 7, 8, 9, 10, 11, 12] rfl rfl (by decide) (by decide) hk1 hFc hP1 hD1
  clear hP1 hD1 hPc hDc hFc
  generalize H1 = H at hP hS ⊢
  have hP : va_P (dC, dI) rfCl [(h0, .inr (11, [.ref q1, .ref q4, .int 0, .ref q5, .ref q10, .ref q15, .ref q20, .null, .null, .null, .null, .null, .null, .null, .null])), (q1, .inr (0, [.ref u2, .int 0, .int 0])), (u2, .inl (aC 1, 7, .inl (fun _ => 0))), (q4, .inl (aC 4, 5, .inr (.inr (.inr (.inr (fun _ => none)))))), (q5, .inr (1, [.ref b8, .ref r9, .int 0])), (b8, .inl (aC 0, 128, .inl (fun _ => 0))), (r9, .inl (aC 1, 128, .inl (fun _ => 0))), (q10, .inr (1, [.ref b13, .ref r14, .int 0])), (b13, .inl (aC 0, 128, .inl (fun _ => 0))), (r14, .inl (aC 1, 128, .inl (fun _ => 0))), (q15, .inr (1, [.ref b18, .ref r19, .int 0])), (b18, .inl (aC 0, 128, .inl (fun _ => 0))), (r19, .inl (aC 1, 128, .inl (fun _ => 0)))] H := hP
  have hD : va_D A [(h0, .inr (11, [.ref q1, .ref q4, .int 0, .ref q5, .ref q10, .ref q15, .ref q20, .null, .null, .null, .null, .null, .null, .null, .null])), (q1, .inr (0, [.ref u2, .int 0, .int 0])), (u2, .inl (aC 1, 7, .inl (fun _ => 0))), (q4, .inl (aC 4, 5, .inr (.inr (.inr (.inr (fun _ => none)))))), (q5, .inr (1, [.ref b8, .ref r9, .int 0])), (b8, .inl (aC 0, 128, .inl (fun _ => 0))), (r9, .inl (aC 1, 128, .inl (fun _ => 0))), (q10, .inr (1, [.ref b13, .ref r14, .int 0])), (b13, .inl (aC 0, 128, .inl (fun _ => 0))), (r14, .inl (aC 1, 128, .inl (fun _ => 0))), (q15, .inr (1, [.ref b18, .ref r19, .int 0])), (b18, .inl (aC 0, 128, .inl (fun _ => 0))), (r19, .inl (aC 1, 128, .inl (fun _ => 0)))] := hD
  refine W.widen (k := 35) (n := 2234) (Nat.le_of_ble_eq_true rfl) (Nat.le_of_ble_eq_true rfl) ?_
  refine va_putF (D := (dC, dI)) (ci := 11) (v := .ref q23) (ty := (.object "Transversary$Price")) (C := RX11) (T := TX11) (N := 15) hx hb hts (by decide +kernel) tyX11 tyX11_ok nmX11 hown hK hP hD hS 0 rfl rfl 7 (by decide) (hts (.fieldLink RX11 43 "Transversary" "prices" "LTransversary$Price;") (by decide +kernel)) (fun _ h9 => h9) rfl hin rfl (by decide +kernel) rfl rfl (Nat.le_of_ble_eq_true rfl) dX11_init_75 (fun H locs hP hD hS => ?_)
  have hP : va_P (dC, dI) rfCl [(h0, .inr (11, [.ref q1, .ref q4, .int 0, .ref q5, .ref q10, .ref q15, .ref q20, .ref q23, .null, .null, .null, .null, .null, .null, .null])), (q1, .inr (0, [.ref u2, .int 0, .int 0])), (u2, .inl (aC 1, 7, .inl (fun _ => 0))), (q4, .inl (aC 4, 5, .inr (.inr (.inr (.inr (fun _ => none)))))), (q5, .inr (1, [.ref b8, .ref r9, .int 0])), (b8, .inl (aC 0, 128, .inl (fun _ => 0))), (r9, .inl (aC 1, 128, .inl (fun _ => 0))), (q10, .inr (1, [.ref b13, .ref r14, .int 0])), (b13, .inl (aC 0, 128, .inl (fun _ => 0))), (r14, .inl (aC 1, 128, .inl (fun _ => 0))), (q15, .inr (1, [.ref b18, .ref r19, .int 0])), (b18, .inl (aC 0, 128, .inl (fun _ => 0))), (r19, .inl (aC 1, 128, .inl (fun _ => 0)))] H := hP
  have hD : va_D A [(h0, .inr (11, [.ref q1, .ref q4, .int 0, .ref q5, .ref q10, .ref q15, .ref q20, .ref q23, .null, .null, .null, .null, .null, .null, .null])), (q1, .inr (0, [.ref u2, .int 0, .int 0])), (u2, .inl (aC 1, 7, .inl (fun _ => 0))), (q4, .inl (aC 4, 5, .inr (.inr (.inr (.inr (fun _ => none)))))), (q5, .inr (1, [.ref b8, .ref r9, .int 0])), (b8, .inl (aC 0, 128, .inl (fun _ => 0))), (r9, .inl (aC 1, 128, .inl (fun _ => 0))), (q10, .inr (1, [.ref b13, .ref r14, .int 0])), (b13, .inl (aC 0, 128, .inl (fun _ => 0))), (r14, .inl (aC 1, 128, .inl (fun _ => 0))), (q15, .inr (1, [.ref b18, .ref r19, .int 0])), (b18, .inl (aC 0, 128, .inl (fun _ => 0))), (r19, .inl (aC 1, 128, .inl (fun _ => 0)))] := hD
  refine lv_aload_n hx hb dX11_init_78 rfl (lv_at hl 0 rfl) ?_
  refine va_new (ci := 4) (fs := [.null, .null, .null, .null, .null]) (C := RX5) (T := TX5) (N := 5) hx hb hts (by decide +kernel) tyX5 tyX5_ok hown (hts (.classLink RX11 47 RX5) (by decide +kernel)) (hts (.instantiable RX5 5) (by decide +kernel)) (hts (.initialized RX5) (by decide +kernel)) hK hP hD hS hA rfl (fun j hj => by rcases (show j = 0 ∨ j = 1 ∨ j = 2 ∨ j = 3 ∨ j = 4 by omega) with rfl | rfl | rfl | rfl | rfl <;> rfl) (Nat.le_of_ble_eq_true rfl) (Nat.le_of_ble_eq_true rfl) dX11_init_79 (fun q26 H hP hD hS => ?_)
  have hP : va_P (dC, dI) rfCl [(h0, .inr (11, [.ref q1, .ref q4, .int 0, .ref q5, .ref q10, .ref q15, .ref q20, .ref q23, .null, .null, .null, .null, .null, .null, .null])), (q1, .inr (0, [.ref u2, .int 0, .int 0])), (u2, .inl (aC 1, 7, .inl (fun _ => 0))), (q4, .inl (aC 4, 5, .inr (.inr (.inr (.inr (fun _ => none)))))), (q5, .inr (1, [.ref b8, .ref r9, .int 0])), (b8, .inl (aC 0, 128, .inl (fun _ => 0))), (r9, .inl (aC 1, 128, .inl (fun _ => 0))), (q10, .inr (1, [.ref b13, .ref r14, .int 0])), (b13, .inl (aC 0, 128, .inl (fun _ => 0))), (r14, .inl (aC 1, 128, .inl (fun _ => 0))), (q15, .inr (1, [.ref b18, .ref r19, .int 0])), (b18, .inl (aC 0, 128, .inl (fun _ => 0))), (r19, .inl (aC 1, 128, .inl (fun _ => 0))), (q26, .inr (4, [.null, .null, .null, .null, .null]))] H := hP
  have hD : va_D A [(h0, .inr (11, [.ref q1, .ref q4, .int 0, .ref q5, .ref q10, .ref q15, .ref q20, .ref q23, .null, .null, .null, .null, .null, .null, .null])), (q1, .inr (0, [.ref u2, .int 0, .int 0])), (u2, .inl (aC 1, 7, .inl (fun _ => 0))), (q4, .inl (aC 4, 5, .inr (.inr (.inr (.inr (fun _ => none)))))), (q5, .inr (1, [.ref b8, .ref r9, .int 0])), (b8, .inl (aC 0, 128, .inl (fun _ => 0))), (r9, .inl (aC 1, 128, .inl (fun _ => 0))), (q10, .inr (1, [.ref b13, .ref r14, .int 0])), (b13, .inl (aC 0, 128, .inl (fun _ => 0))), (r14, .inl (aC 1, 128, .inl (fun _ => 0))), (q15, .inr (1, [.ref b18, .ref r19, .int 0])), (b18, .inl (aC 0, 128, .inl (fun _ => 0))), (r19, .inl (aC 1, 128, .inl (fun _ => 0))), (q26, .inr (4, [.null, .null, .null, .null, .null]))] := hD
  refine W.widen (k := 36) (n := 2239) (Nat.le_of_ble_eq_true rfl) (Nat.le_of_ble_eq_true rfl) ?_
  refine lv_dup hx hb dX11_init_82 rfl ?_
  refine lv_aload_n hx hb dX11_init_83 rfl (lv_at hl 0 rfl) ?_
  refine va_get (D := (dC, dI)) (ci := 11) (v := .ref q20) (C := RX11) (T := TX11) (N := 15) hx hb hts (by decide +kernel) hown hK hP 0 rfl rfl 6 (by decide) (hts (.fieldLink RX11 36 "Transversary" "covers" "LTransversary$Covers;") (by decide +kernel)) (fun _ h9 => h9) rfl dX11_init_84 ?_
  have hPc := hP.sub (ws' := [(q26, .inr (4, [.null, .null, .null, .null, .null]))]) [13] rfl
  have hDc := hD.sub (ws' := [(q26, .inr (4, [.null, .null, .null, .null, .null]))]) [13] (by decide) rfl
  have hFc := va_free (wc := [(q26, .inr (4, [.null, .null, .null, .null, .null]))]) hD hS hA [13] rfl
  refine va_callv (va_runI (As := [.ref q20]) (rest := [.ref q26, .ref h0]) ⟨hx, hb, hml, hown, hts⟩ (c_X5_init l dC dI aC H.size q26 q20) (cwI 1 hts gX11_init_X5_init rfl rfl rfl (hts (.initialized RX5) (by decide +kernel)) (hts (.methodLink RX11 49 yX5_init) (by decide +kernel)) (hts (.instanceMethod yX5_init) (by decide +kernel)) rfl (by decide +kernel) ⟨Nat.le_of_ble_eq_true rfl, Nat.le_of_ble_eq_true rfl⟩) (rf_ps hK hN hPc hDc) rfl rfl hl.1 rfl (lv_room (Nat.le_of_ble_eq_true rfl)) dX11_init_87 ⟨Nat.le_of_ble_eq_true rfl, Nat.le_of_ble_eq_true rfl⟩) hS (fun q _ h => hFc q h) hFc (fun u27 t H1 locs ht hvm hwu27 hB hz1 hk1 hS => ?_)
  obtain ⟨hP1, hD1⟩ := hB
  rw [ht] at hP1
  try dsimp only at hwu27 hP1 hD1
  obtain ⟨hP, hD⟩ := va_join (wr := [(h0, .inr (11, [.ref q1, .ref q4, .int 0, .ref q5, .ref q10, .ref q15, .ref q20, .ref q23, .null, .null, .null, .null, .null, .null, .null])), (q1, .inr (0, [.ref u2, .int 0, .int 0])), (u2, .inl (aC 1, 7, .inl (fun _ => 0))), (q4, .inl (aC 4, 5, .inr (.inr (.inr (.inr (fun _ => none)))))), (q5, .inr (1, [.ref b8, .ref r9, .int 0])), (b8, .inl (aC 0, 128, .inl (fun _ => 0))), (r9, .inl (aC 1, 128, .inl (fun _ => 0))), (q10, .inr (1, [.ref b13, .ref r14, .int 0])), (b13, .inl (aC 0, 128, .inl (fun _ => 0))), (r14, .inl (aC 1, 128, .inl (fun _ => 0))), (q15, .inr (1, [.ref b18, .ref r19, .int 0])), (b18, .inl (aC 0, 128, .inl (fun _ => 0))), (r19, .inl (aC 1, 128, .inl (fun _ => 0)))]) (w1 := [(q26, .inr (4, [.ref q20, .ref (u27.1), .ref (u27.2.1), .ref (u27.2.2.1), .ref (u27.2.2.2)])), ((u27.2.2.2), .inl (aC 2, 256, .inr (.inl (fun _ => 0))))]) hP hD [13] [0, 1, 2, 3, 4, 5, 6, 7, 8, 9, 10, 11, 12] rfl rfl (by decide) (by decide) hk1 hFc hP1 hD1
  clear hP1 hD1 hPc hDc hFc
  generalize H1 = H at hP hS ⊢
  have hP : va_P (dC, dI) rfCl [(h0, .inr (11, [.ref q1, .ref q4, .int 0, .ref q5, .ref q10, .ref q15, .ref q20, .ref q23, .null, .null, .null, .null, .null, .null, .null])), (q1, .inr (0, [.ref u2, .int 0, .int 0])), (u2, .inl (aC 1, 7, .inl (fun _ => 0))), (q4, .inl (aC 4, 5, .inr (.inr (.inr (.inr (fun _ => none)))))), (q5, .inr (1, [.ref b8, .ref r9, .int 0])), (b8, .inl (aC 0, 128, .inl (fun _ => 0))), (r9, .inl (aC 1, 128, .inl (fun _ => 0))), (q10, .inr (1, [.ref b13, .ref r14, .int 0])), (b13, .inl (aC 0, 128, .inl (fun _ => 0))), (r14, .inl (aC 1, 128, .inl (fun _ => 0))), (q15, .inr (1, [.ref b18, .ref r19, .int 0])), (b18, .inl (aC 0, 128, .inl (fun _ => 0))), (r19, .inl (aC 1, 128, .inl (fun _ => 0))), (q26, .inr (4, [.ref q20, .ref (u27.1), .ref (u27.2.1), .ref (u27.2.2.1), .ref (u27.2.2.2)])), ((u27.2.2.2), .inl (aC 2, 256, .inr (.inl (fun _ => 0))))] H := hP
  have hD : va_D A [(h0, .inr (11, [.ref q1, .ref q4, .int 0, .ref q5, .ref q10, .ref q15, .ref q20, .ref q23, .null, .null, .null, .null, .null, .null, .null])), (q1, .inr (0, [.ref u2, .int 0, .int 0])), (u2, .inl (aC 1, 7, .inl (fun _ => 0))), (q4, .inl (aC 4, 5, .inr (.inr (.inr (.inr (fun _ => none)))))), (q5, .inr (1, [.ref b8, .ref r9, .int 0])), (b8, .inl (aC 0, 128, .inl (fun _ => 0))), (r9, .inl (aC 1, 128, .inl (fun _ => 0))), (q10, .inr (1, [.ref b13, .ref r14, .int 0])), (b13, .inl (aC 0, 128, .inl (fun _ => 0))), (r14, .inl (aC 1, 128, .inl (fun _ => 0))), (q15, .inr (1, [.ref b18, .ref r19, .int 0])), (b18, .inl (aC 0, 128, .inl (fun _ => 0))), (r19, .inl (aC 1, 128, .inl (fun _ => 0))), (q26, .inr (4, [.ref q20, .ref (u27.1), .ref (u27.2.1), .ref (u27.2.2.1), .ref (u27.2.2.2)])), ((u27.2.2.2), .inl (aC 2, 256, .inr (.inl (fun _ => 0))))] := hD
  refine W.widen (k := 40) (n := 2758) (Nat.le_of_ble_eq_true rfl) (Nat.le_of_ble_eq_true rfl) ?_
  refine va_putF (D := (dC, dI)) (ci := 11) (v := .ref q26) (ty := (.object "Transversary$Rings")) (C := RX11) (T := TX11) (N := 15) hx hb hts (by decide +kernel) tyX11 tyX11_ok nmX11 hown hK hP hD hS 0 rfl rfl 8 (by decide) (hts (.fieldLink RX11 52 "Transversary" "rings" "LTransversary$Rings;") (by decide +kernel)) (fun _ h9 => h9) rfl hin rfl (by decide +kernel) rfl rfl (Nat.le_of_ble_eq_true rfl) dX11_init_90 (fun H locs hP hD hS => ?_)
  have hP : va_P (dC, dI) rfCl [(h0, .inr (11, [.ref q1, .ref q4, .int 0, .ref q5, .ref q10, .ref q15, .ref q20, .ref q23, .ref q26, .null, .null, .null, .null, .null, .null])), (q1, .inr (0, [.ref u2, .int 0, .int 0])), (u2, .inl (aC 1, 7, .inl (fun _ => 0))), (q4, .inl (aC 4, 5, .inr (.inr (.inr (.inr (fun _ => none)))))), (q5, .inr (1, [.ref b8, .ref r9, .int 0])), (b8, .inl (aC 0, 128, .inl (fun _ => 0))), (r9, .inl (aC 1, 128, .inl (fun _ => 0))), (q10, .inr (1, [.ref b13, .ref r14, .int 0])), (b13, .inl (aC 0, 128, .inl (fun _ => 0))), (r14, .inl (aC 1, 128, .inl (fun _ => 0))), (q15, .inr (1, [.ref b18, .ref r19, .int 0])), (b18, .inl (aC 0, 128, .inl (fun _ => 0))), (r19, .inl (aC 1, 128, .inl (fun _ => 0))), (q26, .inr (4, [.ref q20, .ref (u27.1), .ref (u27.2.1), .ref (u27.2.2.1), .ref (u27.2.2.2)])), ((u27.2.2.2), .inl (aC 2, 256, .inr (.inl (fun _ => 0))))] H := hP
  have hD : va_D A [(h0, .inr (11, [.ref q1, .ref q4, .int 0, .ref q5, .ref q10, .ref q15, .ref q20, .ref q23, .ref q26, .null, .null, .null, .null, .null, .null])), (q1, .inr (0, [.ref u2, .int 0, .int 0])), (u2, .inl (aC 1, 7, .inl (fun _ => 0))), (q4, .inl (aC 4, 5, .inr (.inr (.inr (.inr (fun _ => none)))))), (q5, .inr (1, [.ref b8, .ref r9, .int 0])), (b8, .inl (aC 0, 128, .inl (fun _ => 0))), (r9, .inl (aC 1, 128, .inl (fun _ => 0))), (q10, .inr (1, [.ref b13, .ref r14, .int 0])), (b13, .inl (aC 0, 128, .inl (fun _ => 0))), (r14, .inl (aC 1, 128, .inl (fun _ => 0))), (q15, .inr (1, [.ref b18, .ref r19, .int 0])), (b18, .inl (aC 0, 128, .inl (fun _ => 0))), (r19, .inl (aC 1, 128, .inl (fun _ => 0))), (q26, .inr (4, [.ref q20, .ref (u27.1), .ref (u27.2.1), .ref (u27.2.2.1), .ref (u27.2.2.2)])), ((u27.2.2.2), .inl (aC 2, 256, .inr (.inl (fun _ => 0))))] := hD
  refine lv_aload_n hx hb dX11_init_93 rfl (lv_at hl 0 rfl) ?_
  refine va_new (ci := 5) (fs := [.null, .null, .null, .int 0, .int 0]) (C := RX6) (T := TX6) (N := 5) hx hb hts (by decide +kernel) tyX6 tyX6_ok hown (hts (.classLink RX11 56 RX6) (by decide +kernel)) (hts (.instantiable RX6 5) (by decide +kernel)) (hts (.initialized RX6) (by decide +kernel)) hK hP hD hS hA rfl (fun j hj => by rcases (show j = 0 ∨ j = 1 ∨ j = 2 ∨ j = 3 ∨ j = 4 by omega) with rfl | rfl | rfl | rfl | rfl <;> rfl) (Nat.le_of_ble_eq_true rfl) (Nat.le_of_ble_eq_true rfl) dX11_init_94 (fun q29 H hP hD hS => ?_)
  have hP : va_P (dC, dI) rfCl [(h0, .inr (11, [.ref q1, .ref q4, .int 0, .ref q5, .ref q10, .ref q15, .ref q20, .ref q23, .ref q26, .null, .null, .null, .null, .null, .null])), (q1, .inr (0, [.ref u2, .int 0, .int 0])), (u2, .inl (aC 1, 7, .inl (fun _ => 0))), (q4, .inl (aC 4, 5, .inr (.inr (.inr (.inr (fun _ => none)))))), (q5, .inr (1, [.ref b8, .ref r9, .int 0])), (b8, .inl (aC 0, 128, .inl (fun _ => 0))), (r9, .inl (aC 1, 128, .inl (fun _ => 0))), (q10, .inr (1, [.ref b13, .ref r14, .int 0])), (b13, .inl (aC 0, 128, .inl (fun _ => 0))), (r14, .inl (aC 1, 128, .inl (fun _ => 0))), (q15, .inr (1, [.ref b18, .ref r19, .int 0])), (b18, .inl (aC 0, 128, .inl (fun _ => 0))), (r19, .inl (aC 1, 128, .inl (fun _ => 0))), (q26, .inr (4, [.ref q20, .ref (u27.1), .ref (u27.2.1), .ref (u27.2.2.1), .ref (u27.2.2.2)])), ((u27.2.2.2), .inl (aC 2, 256, .inr (.inl (fun _ => 0)))), (q29, .inr (5, [.null, .null, .null, .int 0, .int 0]))] H := hP
  have hD : va_D A [(h0, .inr (11, [.ref q1, .ref q4, .int 0, .ref q5, .ref q10, .ref q15, .ref q20, .ref q23, .ref q26, .null, .null, .null, .null, .null, .null])), (q1, .inr (0, [.ref u2, .int 0, .int 0])), (u2, .inl (aC 1, 7, .inl (fun _ => 0))), (q4, .inl (aC 4, 5, .inr (.inr (.inr (.inr (fun _ => none)))))), (q5, .inr (1, [.ref b8, .ref r9, .int 0])), (b8, .inl (aC 0, 128, .inl (fun _ => 0))), (r9, .inl (aC 1, 128, .inl (fun _ => 0))), (q10, .inr (1, [.ref b13, .ref r14, .int 0])), (b13, .inl (aC 0, 128, .inl (fun _ => 0))), (r14, .inl (aC 1, 128, .inl (fun _ => 0))), (q15, .inr (1, [.ref b18, .ref r19, .int 0])), (b18, .inl (aC 0, 128, .inl (fun _ => 0))), (r19, .inl (aC 1, 128, .inl (fun _ => 0))), (q26, .inr (4, [.ref q20, .ref (u27.1), .ref (u27.2.1), .ref (u27.2.2.1), .ref (u27.2.2.2)])), ((u27.2.2.2), .inl (aC 2, 256, .inr (.inl (fun _ => 0)))), (q29, .inr (5, [.null, .null, .null, .int 0, .int 0]))] := hD
  refine W.widen (k := 41) (n := 2763) (Nat.le_of_ble_eq_true rfl) (Nat.le_of_ble_eq_true rfl) ?_
  refine lv_dup hx hb dX11_init_97 rfl ?_
  refine lv_aload_n hx hb dX11_init_98 rfl (lv_at hl 0 rfl) ?_
  refine va_get (D := (dC, dI)) (ci := 11) (v := .ref q20) (C := RX11) (T := TX11) (N := 15) hx hb hts (by decide +kernel) hown hK hP 0 rfl rfl 6 (by decide) (hts (.fieldLink RX11 36 "Transversary" "covers" "LTransversary$Covers;") (by decide +kernel)) (fun _ h9 => h9) rfl dX11_init_99 ?_
  have hPc := hP.sub (ws' := [(q29, .inr (5, [.null, .null, .null, .int 0, .int 0]))]) [15] rfl
  have hDc := hD.sub (ws' := [(q29, .inr (5, [.null, .null, .null, .int 0, .int 0]))]) [15] (by decide) rfl
  have hFc := va_free (wc := [(q29, .inr (5, [.null, .null, .null, .int 0, .int 0]))]) hD hS hA [15] rfl
  refine va_callv (va_runI (As := [.ref q20]) (rest := [.ref q29, .ref h0]) ⟨hx, hb, hml, hown, hts⟩ (c_X6_init l dC dI aC H.size q29 q20) (cwI 1 hts gX11_init_X6_init rfl rfl rfl (hts (.initialized RX6) (by decide +kernel)) (hts (.methodLink RX11 58 yX6_init) (by decide +kernel)) (hts (.instanceMethod yX6_init) (by decide +kernel)) rfl (by decide +kernel) ⟨Nat.le_of_ble_eq_true rfl, Nat.le_of_ble_eq_true rfl⟩) (rf_ps hK hN hPc hDc) rfl rfl hl.1 rfl (lv_room (Nat.le_of_ble_eq_true rfl)) dX11_init_102 ⟨Nat.le_of_ble_eq_true rfl, Nat.le_of_ble_eq_true rfl⟩) hS (fun q _ h => hFc q h) hFc (fun u30 t H1 locs ht hvm hwu30 hB hz1 hk1 hS => ?_)
  obtain ⟨hP1, hD1⟩ := hB
  rw [ht] at hP1
  try dsimp only at hwu30 hP1 hD1
  obtain ⟨hP, hD⟩ := va_join (wr := [(h0, .inr (11, [.ref q1, .ref q4, .int 0, .ref q5, .ref q10, .ref q15, .ref q20, .ref q23, .ref q26, .null, .null, .null, .null, .null, .null])), (q1, .inr (0, [.ref u2, .int 0, .int 0])), (u2, .inl (aC 1, 7, .inl (fun _ => 0))), (q4, .inl (aC 4, 5, .inr (.inr (.inr (.inr (fun _ => none)))))), (q5, .inr (1, [.ref b8, .ref r9, .int 0])), (b8, .inl (aC 0, 128, .inl (fun _ => 0))), (r9, .inl (aC 1, 128, .inl (fun _ => 0))), (q10, .inr (1, [.ref b13, .ref r14, .int 0])), (b13, .inl (aC 0, 128, .inl (fun _ => 0))), (r14, .inl (aC 1, 128, .inl (fun _ => 0))), (q15, .inr (1, [.ref b18, .ref r19, .int 0])), (b18, .inl (aC 0, 128, .inl (fun _ => 0))), (r19, .inl (aC 1, 128, .inl (fun _ => 0))), (q26, .inr (4, [.ref q20, .ref (u27.1), .ref (u27.2.1), .ref (u27.2.2.1), .ref (u27.2.2.2)])), ((u27.2.2.2), .inl (aC 2, 256, .inr (.inl (fun _ => 0))))]) (w1 := []) hP hD [15] [0, 1, 2, 3, 4, 5, 6, 7, 8, 9, 10, 11, 12, 13, 14] rfl rfl (by decide) (by decide) hk1 hFc hP1 hD1
  clear hP1 hD1 hPc hDc hFc
  generalize H1 = H at hP hS ⊢
  have hP : va_P (dC, dI) rfCl [(h0, .inr (11, [.ref q1, .ref q4, .int 0, .ref q5, .ref q10, .ref q15, .ref q20, .ref q23, .ref q26, .null, .null, .null, .null, .null, .null])), (q1, .inr (0, [.ref u2, .int 0, .int 0])), (u2, .inl (aC 1, 7, .inl (fun _ => 0))), (q4, .inl (aC 4, 5, .inr (.inr (.inr (.inr (fun _ => none)))))), (q5, .inr (1, [.ref b8, .ref r9, .int 0])), (b8, .inl (aC 0, 128, .inl (fun _ => 0))), (r9, .inl (aC 1, 128, .inl (fun _ => 0))), (q10, .inr (1, [.ref b13, .ref r14, .int 0])), (b13, .inl (aC 0, 128, .inl (fun _ => 0))), (r14, .inl (aC 1, 128, .inl (fun _ => 0))), (q15, .inr (1, [.ref b18, .ref r19, .int 0])), (b18, .inl (aC 0, 128, .inl (fun _ => 0))), (r19, .inl (aC 1, 128, .inl (fun _ => 0))), (q26, .inr (4, [.ref q20, .ref (u27.1), .ref (u27.2.1), .ref (u27.2.2.1), .ref (u27.2.2.2)])), ((u27.2.2.2), .inl (aC 2, 256, .inr (.inl (fun _ => 0))))] H := hP
  have hD : va_D A [(h0, .inr (11, [.ref q1, .ref q4, .int 0, .ref q5, .ref q10, .ref q15, .ref q20, .ref q23, .ref q26, .null, .null, .null, .null, .null, .null])), (q1, .inr (0, [.ref u2, .int 0, .int 0])), (u2, .inl (aC 1, 7, .inl (fun _ => 0))), (q4, .inl (aC 4, 5, .inr (.inr (.inr (.inr (fun _ => none)))))), (q5, .inr (1, [.ref b8, .ref r9, .int 0])), (b8, .inl (aC 0, 128, .inl (fun _ => 0))), (r9, .inl (aC 1, 128, .inl (fun _ => 0))), (q10, .inr (1, [.ref b13, .ref r14, .int 0])), (b13, .inl (aC 0, 128, .inl (fun _ => 0))), (r14, .inl (aC 1, 128, .inl (fun _ => 0))), (q15, .inr (1, [.ref b18, .ref r19, .int 0])), (b18, .inl (aC 0, 128, .inl (fun _ => 0))), (r19, .inl (aC 1, 128, .inl (fun _ => 0))), (q26, .inr (4, [.ref q20, .ref (u27.1), .ref (u27.2.1), .ref (u27.2.2.1), .ref (u27.2.2.2)])), ((u27.2.2.2), .inl (aC 2, 256, .inr (.inl (fun _ => 0))))] := hD
  refine W.widen (k := 45) (n := 3150) (Nat.le_of_ble_eq_true rfl) (Nat.le_of_ble_eq_true rfl) ?_
  refine va_putF (D := (dC, dI)) (ci := 11) (v := .ref q29) (ty := (.object "Transversary$Samples")) (C := RX11) (T := TX11) (N := 15) hx hb hts (by decide +kernel) tyX11 tyX11_ok nmX11 hown hK hP hD hS 0 rfl rfl 9 (by decide) (hts (.fieldLink RX11 59 "Transversary" "samples" "LTransversary$Samples;") (by decide +kernel)) (fun _ h9 => h9) rfl hin rfl (by decide +kernel) rfl rfl (Nat.le_of_ble_eq_true rfl) dX11_init_105 (fun H locs hP hD hS => ?_)
  have hP : va_P (dC, dI) rfCl [(h0, .inr (11, [.ref q1, .ref q4, .int 0, .ref q5, .ref q10, .ref q15, .ref q20, .ref q23, .ref q26, .ref q29, .null, .null, .null, .null, .null])), (q1, .inr (0, [.ref u2, .int 0, .int 0])), (u2, .inl (aC 1, 7, .inl (fun _ => 0))), (q4, .inl (aC 4, 5, .inr (.inr (.inr (.inr (fun _ => none)))))), (q5, .inr (1, [.ref b8, .ref r9, .int 0])), (b8, .inl (aC 0, 128, .inl (fun _ => 0))), (r9, .inl (aC 1, 128, .inl (fun _ => 0))), (q10, .inr (1, [.ref b13, .ref r14, .int 0])), (b13, .inl (aC 0, 128, .inl (fun _ => 0))), (r14, .inl (aC 1, 128, .inl (fun _ => 0))), (q15, .inr (1, [.ref b18, .ref r19, .int 0])), (b18, .inl (aC 0, 128, .inl (fun _ => 0))), (r19, .inl (aC 1, 128, .inl (fun _ => 0))), (q26, .inr (4, [.ref q20, .ref (u27.1), .ref (u27.2.1), .ref (u27.2.2.1), .ref (u27.2.2.2)])), ((u27.2.2.2), .inl (aC 2, 256, .inr (.inl (fun _ => 0))))] H := hP
  have hD : va_D A [(h0, .inr (11, [.ref q1, .ref q4, .int 0, .ref q5, .ref q10, .ref q15, .ref q20, .ref q23, .ref q26, .ref q29, .null, .null, .null, .null, .null])), (q1, .inr (0, [.ref u2, .int 0, .int 0])), (u2, .inl (aC 1, 7, .inl (fun _ => 0))), (q4, .inl (aC 4, 5, .inr (.inr (.inr (.inr (fun _ => none)))))), (q5, .inr (1, [.ref b8, .ref r9, .int 0])), (b8, .inl (aC 0, 128, .inl (fun _ => 0))), (r9, .inl (aC 1, 128, .inl (fun _ => 0))), (q10, .inr (1, [.ref b13, .ref r14, .int 0])), (b13, .inl (aC 0, 128, .inl (fun _ => 0))), (r14, .inl (aC 1, 128, .inl (fun _ => 0))), (q15, .inr (1, [.ref b18, .ref r19, .int 0])), (b18, .inl (aC 0, 128, .inl (fun _ => 0))), (r19, .inl (aC 1, 128, .inl (fun _ => 0))), (q26, .inr (4, [.ref q20, .ref (u27.1), .ref (u27.2.1), .ref (u27.2.2.1), .ref (u27.2.2.2)])), ((u27.2.2.2), .inl (aC 2, 256, .inr (.inl (fun _ => 0))))] := hD
  refine lv_aload_n hx hb dX11_init_108 rfl (lv_at hl 0 rfl) ?_
  refine va_new (ci := 6) (fs := [.null, .null]) (C := RX1) (T := TX1) (N := 2) hx hb hts (by decide +kernel) tyX1 tyX1_ok hown (hts (.classLink RX11 63 RX1) (by decide +kernel)) (hts (.instantiable RX1 2) (by decide +kernel)) (hts (.initialized RX1) (by decide +kernel)) hK hP hD hS hA rfl (fun j hj => by rcases (show j = 0 ∨ j = 1 by omega) with rfl | rfl <;> rfl) (Nat.le_of_ble_eq_true rfl) (Nat.le_of_ble_eq_true rfl) dX11_init_109 (fun q32 H hP hD hS => ?_)
  have hP : va_P (dC, dI) rfCl [(h0, .inr (11, [.ref q1, .ref q4, .int 0, .ref q5, .ref q10, .ref q15, .ref q20, .ref q23, .ref q26, .ref q29, .null, .null, .null, .null, .null])), (q1, .inr (0, [.ref u2, .int 0, .int 0])), (u2, .inl (aC 1, 7, .inl (fun _ => 0))), (q4, .inl (aC 4, 5, .inr (.inr (.inr (.inr (fun _ => none)))))), (q5, .inr (1, [.ref b8, .ref r9, .int 0])), (b8, .inl (aC 0, 128, .inl (fun _ => 0))), (r9, .inl (aC 1, 128, .inl (fun _ => 0))), (q10, .inr (1, [.ref b13, .ref r14, .int 0])), (b13, .inl (aC 0, 128, .inl (fun _ => 0))), (r14, .inl (aC 1, 128, .inl (fun _ => 0))), (q15, .inr (1, [.ref b18, .ref r19, .int 0])), (b18, .inl (aC 0, 128, .inl (fun _ => 0))), (r19, .inl (aC 1, 128, .inl (fun _ => 0))), (q26, .inr (4, [.ref q20, .ref (u27.1), .ref (u27.2.1), .ref (u27.2.2.1), .ref (u27.2.2.2)])), ((u27.2.2.2), .inl (aC 2, 256, .inr (.inl (fun _ => 0)))), (q32, .inr (6, [.null, .null]))] H := hP
  have hD : va_D A [(h0, .inr (11, [.ref q1, .ref q4, .int 0, .ref q5, .ref q10, .ref q15, .ref q20, .ref q23, .ref q26, .ref q29, .null, .null, .null, .null, .null])), (q1, .inr (0, [.ref u2, .int 0, .int 0])), (u2, .inl (aC 1, 7, .inl (fun _ => 0))), (q4, .inl (aC 4, 5, .inr (.inr (.inr (.inr (fun _ => none)))))), (q5, .inr (1, [.ref b8, .ref r9, .int 0])), (b8, .inl (aC 0, 128, .inl (fun _ => 0))), (r9, .inl (aC 1, 128, .inl (fun _ => 0))), (q10, .inr (1, [.ref b13, .ref r14, .int 0])), (b13, .inl (aC 0, 128, .inl (fun _ => 0))), (r14, .inl (aC 1, 128, .inl (fun _ => 0))), (q15, .inr (1, [.ref b18, .ref r19, .int 0])), (b18, .inl (aC 0, 128, .inl (fun _ => 0))), (r19, .inl (aC 1, 128, .inl (fun _ => 0))), (q26, .inr (4, [.ref q20, .ref (u27.1), .ref (u27.2.1), .ref (u27.2.2.1), .ref (u27.2.2.2)])), ((u27.2.2.2), .inl (aC 2, 256, .inr (.inl (fun _ => 0)))), (q32, .inr (6, [.null, .null]))] := hD
  refine W.widen (k := 46) (n := 3152) (Nat.le_of_ble_eq_true rfl) (Nat.le_of_ble_eq_true rfl) ?_
  refine lv_dup hx hb dX11_init_112 rfl ?_
  refine lv_aload_n hx hb dX11_init_113 rfl (lv_at hl 0 rfl) ?_
  refine va_get (D := (dC, dI)) (ci := 11) (v := .ref q29) (C := RX11) (T := TX11) (N := 15) hx hb hts (by decide +kernel) hown hK hP 0 rfl rfl 9 (by decide) (hts (.fieldLink RX11 59 "Transversary" "samples" "LTransversary$Samples;") (by decide +kernel)) (fun _ h9 => h9) rfl dX11_init_114 ?_
  have hPc := hP.sub (ws' := [(q32, .inr (6, [.null, .null]))]) [15] rfl
  have hDc := hD.sub (ws' := [(q32, .inr (6, [.null, .null]))]) [15] (by decide) rfl
  have hFc := va_free (wc := [(q32, .inr (6, [.null, .null]))]) hD hS hA [15] rfl
  refine va_callv (va_runI (As := [.ref q29]) (rest := [.ref q32, .ref h0]) ⟨hx, hb, hml, hown, hts⟩ (c_X1_init l dC dI aC H.size q32 q29) (cwI 1 hts gX11_init_X1_init rfl rfl rfl (hts (.initialized RX1) (by decide +kernel)) (hts (.methodLink RX11 65 yX1_init) (by decide +kernel)) (hts (.instanceMethod yX1_init) (by decide +kernel)) rfl (by decide +kernel) ⟨Nat.le_of_ble_eq_true rfl, Nat.le_of_ble_eq_true rfl⟩) (rf_ps hK hN hPc hDc) rfl rfl hl.1 rfl (lv_room (Nat.le_of_ble_eq_true rfl)) dX11_init_117 ⟨Nat.le_of_ble_eq_true rfl, Nat.le_of_ble_eq_true rfl⟩) hS (fun q _ h => hFc q h) hFc (fun u33 t H1 locs ht hvm hwu33 hB hz1 hk1 hS => ?_)
  obtain ⟨hP1, hD1⟩ := hB
  rw [ht] at hP1
  try dsimp only at hwu33 hP1 hD1
  obtain ⟨hP, hD⟩ := va_join (wr := [(h0, .inr (11, [.ref q1, .ref q4, .int 0, .ref q5, .ref q10, .ref q15, .ref q20, .ref q23, .ref q26, .ref q29, .null, .null, .null, .null, .null])), (q1, .inr (0, [.ref u2, .int 0, .int 0])), (u2, .inl (aC 1, 7, .inl (fun _ => 0))), (q4, .inl (aC 4, 5, .inr (.inr (.inr (.inr (fun _ => none)))))), (q5, .inr (1, [.ref b8, .ref r9, .int 0])), (b8, .inl (aC 0, 128, .inl (fun _ => 0))), (r9, .inl (aC 1, 128, .inl (fun _ => 0))), (q10, .inr (1, [.ref b13, .ref r14, .int 0])), (b13, .inl (aC 0, 128, .inl (fun _ => 0))), (r14, .inl (aC 1, 128, .inl (fun _ => 0))), (q15, .inr (1, [.ref b18, .ref r19, .int 0])), (b18, .inl (aC 0, 128, .inl (fun _ => 0))), (r19, .inl (aC 1, 128, .inl (fun _ => 0))), (q26, .inr (4, [.ref q20, .ref (u27.1), .ref (u27.2.1), .ref (u27.2.2.1), .ref (u27.2.2.2)])), ((u27.2.2.2), .inl (aC 2, 256, .inr (.inl (fun _ => 0))))]) (w1 := [(q32, .inr (6, [.ref q29, .ref u33]))]) hP hD [15] [0, 1, 2, 3, 4, 5, 6, 7, 8, 9, 10, 11, 12, 13, 14] rfl rfl (by decide) (by decide) hk1 hFc hP1 hD1
  clear hP1 hD1 hPc hDc hFc
  generalize H1 = H at hP hS ⊢
  have hP : va_P (dC, dI) rfCl [(h0, .inr (11, [.ref q1, .ref q4, .int 0, .ref q5, .ref q10, .ref q15, .ref q20, .ref q23, .ref q26, .ref q29, .null, .null, .null, .null, .null])), (q1, .inr (0, [.ref u2, .int 0, .int 0])), (u2, .inl (aC 1, 7, .inl (fun _ => 0))), (q4, .inl (aC 4, 5, .inr (.inr (.inr (.inr (fun _ => none)))))), (q5, .inr (1, [.ref b8, .ref r9, .int 0])), (b8, .inl (aC 0, 128, .inl (fun _ => 0))), (r9, .inl (aC 1, 128, .inl (fun _ => 0))), (q10, .inr (1, [.ref b13, .ref r14, .int 0])), (b13, .inl (aC 0, 128, .inl (fun _ => 0))), (r14, .inl (aC 1, 128, .inl (fun _ => 0))), (q15, .inr (1, [.ref b18, .ref r19, .int 0])), (b18, .inl (aC 0, 128, .inl (fun _ => 0))), (r19, .inl (aC 1, 128, .inl (fun _ => 0))), (q26, .inr (4, [.ref q20, .ref (u27.1), .ref (u27.2.1), .ref (u27.2.2.1), .ref (u27.2.2.2)])), ((u27.2.2.2), .inl (aC 2, 256, .inr (.inl (fun _ => 0)))), (q32, .inr (6, [.ref q29, .ref u33]))] H := hP
  have hD : va_D A [(h0, .inr (11, [.ref q1, .ref q4, .int 0, .ref q5, .ref q10, .ref q15, .ref q20, .ref q23, .ref q26, .ref q29, .null, .null, .null, .null, .null])), (q1, .inr (0, [.ref u2, .int 0, .int 0])), (u2, .inl (aC 1, 7, .inl (fun _ => 0))), (q4, .inl (aC 4, 5, .inr (.inr (.inr (.inr (fun _ => none)))))), (q5, .inr (1, [.ref b8, .ref r9, .int 0])), (b8, .inl (aC 0, 128, .inl (fun _ => 0))), (r9, .inl (aC 1, 128, .inl (fun _ => 0))), (q10, .inr (1, [.ref b13, .ref r14, .int 0])), (b13, .inl (aC 0, 128, .inl (fun _ => 0))), (r14, .inl (aC 1, 128, .inl (fun _ => 0))), (q15, .inr (1, [.ref b18, .ref r19, .int 0])), (b18, .inl (aC 0, 128, .inl (fun _ => 0))), (r19, .inl (aC 1, 128, .inl (fun _ => 0))), (q26, .inr (4, [.ref q20, .ref (u27.1), .ref (u27.2.1), .ref (u27.2.2.1), .ref (u27.2.2.2)])), ((u27.2.2.2), .inl (aC 2, 256, .inr (.inl (fun _ => 0)))), (q32, .inr (6, [.ref q29, .ref u33]))] := hD
  refine W.widen (k := 49) (n := 3411) (Nat.le_of_ble_eq_true rfl) (Nat.le_of_ble_eq_true rfl) ?_
  refine va_putF (D := (dC, dI)) (ci := 11) (v := .ref q32) (ty := (.object "Transversary$Makers")) (C := RX11) (T := TX11) (N := 15) hx hb hts (by decide +kernel) tyX11 tyX11_ok nmX11 hown hK hP hD hS 0 rfl rfl 10 (by decide) (hts (.fieldLink RX11 68 "Transversary" "makers" "LTransversary$Makers;") (by decide +kernel)) (fun _ h9 => h9) rfl hin rfl (by decide +kernel) rfl rfl (Nat.le_of_ble_eq_true rfl) dX11_init_120 (fun H locs hP hD hS => ?_)
  have hP : va_P (dC, dI) rfCl [(h0, .inr (11, [.ref q1, .ref q4, .int 0, .ref q5, .ref q10, .ref q15, .ref q20, .ref q23, .ref q26, .ref q29, .ref q32, .null, .null, .null, .null])), (q1, .inr (0, [.ref u2, .int 0, .int 0])), (u2, .inl (aC 1, 7, .inl (fun _ => 0))), (q4, .inl (aC 4, 5, .inr (.inr (.inr (.inr (fun _ => none)))))), (q5, .inr (1, [.ref b8, .ref r9, .int 0])), (b8, .inl (aC 0, 128, .inl (fun _ => 0))), (r9, .inl (aC 1, 128, .inl (fun _ => 0))), (q10, .inr (1, [.ref b13, .ref r14, .int 0])), (b13, .inl (aC 0, 128, .inl (fun _ => 0))), (r14, .inl (aC 1, 128, .inl (fun _ => 0))), (q15, .inr (1, [.ref b18, .ref r19, .int 0])), (b18, .inl (aC 0, 128, .inl (fun _ => 0))), (r19, .inl (aC 1, 128, .inl (fun _ => 0))), (q26, .inr (4, [.ref q20, .ref (u27.1), .ref (u27.2.1), .ref (u27.2.2.1), .ref (u27.2.2.2)])), ((u27.2.2.2), .inl (aC 2, 256, .inr (.inl (fun _ => 0)))), (q32, .inr (6, [.ref q29, .ref u33]))] H := hP
  have hD : va_D A [(h0, .inr (11, [.ref q1, .ref q4, .int 0, .ref q5, .ref q10, .ref q15, .ref q20, .ref q23, .ref q26, .ref q29, .ref q32, .null, .null, .null, .null])), (q1, .inr (0, [.ref u2, .int 0, .int 0])), (u2, .inl (aC 1, 7, .inl (fun _ => 0))), (q4, .inl (aC 4, 5, .inr (.inr (.inr (.inr (fun _ => none)))))), (q5, .inr (1, [.ref b8, .ref r9, .int 0])), (b8, .inl (aC 0, 128, .inl (fun _ => 0))), (r9, .inl (aC 1, 128, .inl (fun _ => 0))), (q10, .inr (1, [.ref b13, .ref r14, .int 0])), (b13, .inl (aC 0, 128, .inl (fun _ => 0))), (r14, .inl (aC 1, 128, .inl (fun _ => 0))), (q15, .inr (1, [.ref b18, .ref r19, .int 0])), (b18, .inl (aC 0, 128, .inl (fun _ => 0))), (r19, .inl (aC 1, 128, .inl (fun _ => 0))), (q26, .inr (4, [.ref q20, .ref (u27.1), .ref (u27.2.1), .ref (u27.2.2.1), .ref (u27.2.2.2)])), ((u27.2.2.2), .inl (aC 2, 256, .inr (.inl (fun _ => 0)))), (q32, .inr (6, [.ref q29, .ref u33]))] := hD
  refine lv_aload_n hx hb dX11_init_123 rfl (lv_at hl 0 rfl) ?_
  refine va_new (ci := 7) (fs := [.null, .null, .int 0]) (C := RX8) (T := TX8) (N := 3) hx hb hts (by decide +kernel) tyX8 tyX8_ok hown (hts (.classLink RX11 72 RX8) (by decide +kernel)) (hts (.instantiable RX8 3) (by decide +kernel)) (hts (.initialized RX8) (by decide +kernel)) hK hP hD hS hA rfl (fun j hj => by rcases (show j = 0 ∨ j = 1 ∨ j = 2 by omega) with rfl | rfl | rfl <;> rfl) (Nat.le_of_ble_eq_true rfl) (Nat.le_of_ble_eq_true rfl) dX11_init_124 (fun q35 H hP hD hS => ?_)
  have hP : va_P (dC, dI) rfCl [(h0, .inr (11, [.ref q1, .ref q4, .int 0, .ref q5, .ref q10, .ref q15, .ref q20, .ref q23, .ref q26, .ref q29, .ref q32, .null, .null, .null, .null])), (q1, .inr (0, [.ref u2, .int 0, .int 0])), (u2, .inl (aC 1, 7, .inl (fun _ => 0))), (q4, .inl (aC 4, 5, .inr (.inr (.inr (.inr (fun _ => none)))))), (q5, .inr (1, [.ref b8, .ref r9, .int 0])), (b8, .inl (aC 0, 128, .inl (fun _ => 0))), (r9, .inl (aC 1, 128, .inl (fun _ => 0))), (q10, .inr (1, [.ref b13, .ref r14, .int 0])), (b13, .inl (aC 0, 128, .inl (fun _ => 0))), (r14, .inl (aC 1, 128, .inl (fun _ => 0))), (q15, .inr (1, [.ref b18, .ref r19, .int 0])), (b18, .inl (aC 0, 128, .inl (fun _ => 0))), (r19, .inl (aC 1, 128, .inl (fun _ => 0))), (q26, .inr (4, [.ref q20, .ref (u27.1), .ref (u27.2.1), .ref (u27.2.2.1), .ref (u27.2.2.2)])), ((u27.2.2.2), .inl (aC 2, 256, .inr (.inl (fun _ => 0)))), (q32, .inr (6, [.ref q29, .ref u33])), (q35, .inr (7, [.null, .null, .int 0]))] H := hP
  have hD : va_D A [(h0, .inr (11, [.ref q1, .ref q4, .int 0, .ref q5, .ref q10, .ref q15, .ref q20, .ref q23, .ref q26, .ref q29, .ref q32, .null, .null, .null, .null])), (q1, .inr (0, [.ref u2, .int 0, .int 0])), (u2, .inl (aC 1, 7, .inl (fun _ => 0))), (q4, .inl (aC 4, 5, .inr (.inr (.inr (.inr (fun _ => none)))))), (q5, .inr (1, [.ref b8, .ref r9, .int 0])), (b8, .inl (aC 0, 128, .inl (fun _ => 0))), (r9, .inl (aC 1, 128, .inl (fun _ => 0))), (q10, .inr (1, [.ref b13, .ref r14, .int 0])), (b13, .inl (aC 0, 128, .inl (fun _ => 0))), (r14, .inl (aC 1, 128, .inl (fun _ => 0))), (q15, .inr (1, [.ref b18, .ref r19, .int 0])), (b18, .inl (aC 0, 128, .inl (fun _ => 0))), (r19, .inl (aC 1, 128, .inl (fun _ => 0))), (q26, .inr (4, [.ref q20, .ref (u27.1), .ref (u27.2.1), .ref (u27.2.2.1), .ref (u27.2.2.2)])), ((u27.2.2.2), .inl (aC 2, 256, .inr (.inl (fun _ => 0)))), (q32, .inr (6, [.ref q29, .ref u33])), (q35, .inr (7, [.null, .null, .int 0]))] := hD
  refine W.widen (k := 50) (n := 3414) (Nat.le_of_ble_eq_true rfl) (Nat.le_of_ble_eq_true rfl) ?_
  refine lv_dup hx hb dX11_init_127 rfl ?_
  have hPc := hP.sub (ws' := [(q35, .inr (7, [.null, .null, .int 0]))]) [16] rfl
  have hDc := hD.sub (ws' := [(q35, .inr (7, [.null, .null, .int 0]))]) [16] (by decide) rfl
  have hFc := va_free (wc := [(q35, .inr (7, [.null, .null, .int 0]))]) hD hS hA [16] rfl
  refine va_callv (va_runIN (As := []) (rest := [.ref q35, .ref h0]) ⟨hx, hb, hml, hown, hts⟩ (c_X8_init l dC dI aC H.size q35) (⟨va_cnB 0 hts (goodIn_sub (by decide +kernel) (by decide +kernel)) rfl rfl rfl (rf_nst hN 11 (q := (RX11, 74, yX8_init, "Transversary")) rfl) (hts (.initialized RX8) (by decide +kernel)) (by decide +kernel) ⟨Nat.le_of_ble_eq_true rfl, Nat.le_of_ble_eq_true rfl⟩, rfl, hts (.instanceMethod yX8_init) (by decide +kernel)⟩) (rf_ps hK hN hPc hDc) rfl rfl hl.1 rfl (lv_room (Nat.le_of_ble_eq_true rfl)) dX11_init_128 ⟨Nat.le_of_ble_eq_true rfl, Nat.le_of_ble_eq_true rfl⟩) hS (fun q _ h => hFc q h) hFc (fun u36 t H1 locs ht hvm hwu36 hB hz1 hk1 hS => ?_)
  obtain ⟨hP1, hD1⟩ := hB
  rw [ht] at hP1
  try dsimp only at hwu36 hP1 hD1
  obtain ⟨hP, hD⟩ := va_join (wr := [(h0, .inr (11, [.ref q1, .ref q4, .int 0, .ref q5, .ref q10, .ref q15, .ref q20, .ref q23, .ref q26, .ref q29, .ref q32, .null, .null, .null, .null])), (q1, .inr (0, [.ref u2, .int 0, .int 0])), (u2, .inl (aC 1, 7, .inl (fun _ => 0))), (q4, .inl (aC 4, 5, .inr (.inr (.inr (.inr (fun _ => none)))))), (q5, .inr (1, [.ref b8, .ref r9, .int 0])), (b8, .inl (aC 0, 128, .inl (fun _ => 0))), (r9, .inl (aC 1, 128, .inl (fun _ => 0))), (q10, .inr (1, [.ref b13, .ref r14, .int 0])), (b13, .inl (aC 0, 128, .inl (fun _ => 0))), (r14, .inl (aC 1, 128, .inl (fun _ => 0))), (q15, .inr (1, [.ref b18, .ref r19, .int 0])), (b18, .inl (aC 0, 128, .inl (fun _ => 0))), (r19, .inl (aC 1, 128, .inl (fun _ => 0))), (q26, .inr (4, [.ref q20, .ref (u27.1), .ref (u27.2.1), .ref (u27.2.2.1), .ref (u27.2.2.2)])), ((u27.2.2.2), .inl (aC 2, 256, .inr (.inl (fun _ => 0)))), (q32, .inr (6, [.ref q29, .ref u33]))]) (w1 := []) hP hD [16] [0, 1, 2, 3, 4, 5, 6, 7, 8, 9, 10, 11, 12, 13, 14, 15] rfl rfl (by decide) (by decide) hk1 hFc hP1 hD1
  clear hP1 hD1 hPc hDc hFc
  generalize H1 = H at hP hS ⊢
  have hP : va_P (dC, dI) rfCl [(h0, .inr (11, [.ref q1, .ref q4, .int 0, .ref q5, .ref q10, .ref q15, .ref q20, .ref q23, .ref q26, .ref q29, .ref q32, .null, .null, .null, .null])), (q1, .inr (0, [.ref u2, .int 0, .int 0])), (u2, .inl (aC 1, 7, .inl (fun _ => 0))), (q4, .inl (aC 4, 5, .inr (.inr (.inr (.inr (fun _ => none)))))), (q5, .inr (1, [.ref b8, .ref r9, .int 0])), (b8, .inl (aC 0, 128, .inl (fun _ => 0))), (r9, .inl (aC 1, 128, .inl (fun _ => 0))), (q10, .inr (1, [.ref b13, .ref r14, .int 0])), (b13, .inl (aC 0, 128, .inl (fun _ => 0))), (r14, .inl (aC 1, 128, .inl (fun _ => 0))), (q15, .inr (1, [.ref b18, .ref r19, .int 0])), (b18, .inl (aC 0, 128, .inl (fun _ => 0))), (r19, .inl (aC 1, 128, .inl (fun _ => 0))), (q26, .inr (4, [.ref q20, .ref (u27.1), .ref (u27.2.1), .ref (u27.2.2.1), .ref (u27.2.2.2)])), ((u27.2.2.2), .inl (aC 2, 256, .inr (.inl (fun _ => 0)))), (q32, .inr (6, [.ref q29, .ref u33]))] H := hP
  have hD : va_D A [(h0, .inr (11, [.ref q1, .ref q4, .int 0, .ref q5, .ref q10, .ref q15, .ref q20, .ref q23, .ref q26, .ref q29, .ref q32, .null, .null, .null, .null])), (q1, .inr (0, [.ref u2, .int 0, .int 0])), (u2, .inl (aC 1, 7, .inl (fun _ => 0))), (q4, .inl (aC 4, 5, .inr (.inr (.inr (.inr (fun _ => none)))))), (q5, .inr (1, [.ref b8, .ref r9, .int 0])), (b8, .inl (aC 0, 128, .inl (fun _ => 0))), (r9, .inl (aC 1, 128, .inl (fun _ => 0))), (q10, .inr (1, [.ref b13, .ref r14, .int 0])), (b13, .inl (aC 0, 128, .inl (fun _ => 0))), (r14, .inl (aC 1, 128, .inl (fun _ => 0))), (q15, .inr (1, [.ref b18, .ref r19, .int 0])), (b18, .inl (aC 0, 128, .inl (fun _ => 0))), (r19, .inl (aC 1, 128, .inl (fun _ => 0))), (q26, .inr (4, [.ref q20, .ref (u27.1), .ref (u27.2.1), .ref (u27.2.2.1), .ref (u27.2.2.2)])), ((u27.2.2.2), .inl (aC 2, 256, .inr (.inl (fun _ => 0)))), (q32, .inr (6, [.ref q29, .ref u33]))] := hD
  refine W.widen (k := 52) (n := 3670) (Nat.le_of_ble_eq_true rfl) (Nat.le_of_ble_eq_true rfl) ?_
  refine va_putF (D := (dC, dI)) (ci := 11) (v := .ref q35) (ty := (.object "Transversary$Signs")) (C := RX11) (T := TX11) (N := 15) hx hb hts (by decide +kernel) tyX11 tyX11_ok nmX11 hown hK hP hD hS 0 rfl rfl 11 (by decide) (hts (.fieldLink RX11 75 "Transversary" "signs" "LTransversary$Signs;") (by decide +kernel)) (fun _ h9 => h9) rfl hin rfl (by decide +kernel) rfl rfl (Nat.le_of_ble_eq_true rfl) dX11_init_131 (fun H locs hP hD hS => ?_)
  have hP : va_P (dC, dI) rfCl [(h0, .inr (11, [.ref q1, .ref q4, .int 0, .ref q5, .ref q10, .ref q15, .ref q20, .ref q23, .ref q26, .ref q29, .ref q32, .ref q35, .null, .null, .null])), (q1, .inr (0, [.ref u2, .int 0, .int 0])), (u2, .inl (aC 1, 7, .inl (fun _ => 0))), (q4, .inl (aC 4, 5, .inr (.inr (.inr (.inr (fun _ => none)))))), (q5, .inr (1, [.ref b8, .ref r9, .int 0])), (b8, .inl (aC 0, 128, .inl (fun _ => 0))), (r9, .inl (aC 1, 128, .inl (fun _ => 0))), (q10, .inr (1, [.ref b13, .ref r14, .int 0])), (b13, .inl (aC 0, 128, .inl (fun _ => 0))), (r14, .inl (aC 1, 128, .inl (fun _ => 0))), (q15, .inr (1, [.ref b18, .ref r19, .int 0])), (b18, .inl (aC 0, 128, .inl (fun _ => 0))), (r19, .inl (aC 1, 128, .inl (fun _ => 0))), (q26, .inr (4, [.ref q20, .ref (u27.1), .ref (u27.2.1), .ref (u27.2.2.1), .ref (u27.2.2.2)])), ((u27.2.2.2), .inl (aC 2, 256, .inr (.inl (fun _ => 0)))), (q32, .inr (6, [.ref q29, .ref u33]))] H := hP
  have hD : va_D A [(h0, .inr (11, [.ref q1, .ref q4, .int 0, .ref q5, .ref q10, .ref q15, .ref q20, .ref q23, .ref q26, .ref q29, .ref q32, .ref q35, .null, .null, .null])), (q1, .inr (0, [.ref u2, .int 0, .int 0])), (u2, .inl (aC 1, 7, .inl (fun _ => 0))), (q4, .inl (aC 4, 5, .inr (.inr (.inr (.inr (fun _ => none)))))), (q5, .inr (1, [.ref b8, .ref r9, .int 0])), (b8, .inl (aC 0, 128, .inl (fun _ => 0))), (r9, .inl (aC 1, 128, .inl (fun _ => 0))), (q10, .inr (1, [.ref b13, .ref r14, .int 0])), (b13, .inl (aC 0, 128, .inl (fun _ => 0))), (r14, .inl (aC 1, 128, .inl (fun _ => 0))), (q15, .inr (1, [.ref b18, .ref r19, .int 0])), (b18, .inl (aC 0, 128, .inl (fun _ => 0))), (r19, .inl (aC 1, 128, .inl (fun _ => 0))), (q26, .inr (4, [.ref q20, .ref (u27.1), .ref (u27.2.1), .ref (u27.2.2.1), .ref (u27.2.2.2)])), ((u27.2.2.2), .inl (aC 2, 256, .inr (.inl (fun _ => 0)))), (q32, .inr (6, [.ref q29, .ref u33]))] := hD
  refine lv_aload_n hx hb dX11_init_134 rfl (lv_at hl 0 rfl) ?_
  refine va_new (ci := 8) (fs := [.null, .null, .null, .int 0]) (C := RX10) (T := TX10) (N := 4) hx hb hts (by decide +kernel) tyX10 tyX10_ok hown (hts (.classLink RX11 79 RX10) (by decide +kernel)) (hts (.instantiable RX10 4) (by decide +kernel)) (hts (.initialized RX10) (by decide +kernel)) hK hP hD hS hA rfl (fun j hj => by rcases (show j = 0 ∨ j = 1 ∨ j = 2 ∨ j = 3 by omega) with rfl | rfl | rfl | rfl <;> rfl) (Nat.le_of_ble_eq_true rfl) (Nat.le_of_ble_eq_true rfl) dX11_init_135 (fun q38 H hP hD hS => ?_)
  have hP : va_P (dC, dI) rfCl [(h0, .inr (11, [.ref q1, .ref q4, .int 0, .ref q5, .ref q10, .ref q15, .ref q20, .ref q23, .ref q26, .ref q29, .ref q32, .ref q35, .null, .null, .null])), (q1, .inr (0, [.ref u2, .int 0, .int 0])), (u2, .inl (aC 1, 7, .inl (fun _ => 0))), (q4, .inl (aC 4, 5, .inr (.inr (.inr (.inr (fun _ => none)))))), (q5, .inr (1, [.ref b8, .ref r9, .int 0])), (b8, .inl (aC 0, 128, .inl (fun _ => 0))), (r9, .inl (aC 1, 128, .inl (fun _ => 0))), (q10, .inr (1, [.ref b13, .ref r14, .int 0])), (b13, .inl (aC 0, 128, .inl (fun _ => 0))), (r14, .inl (aC 1, 128, .inl (fun _ => 0))), (q15, .inr (1, [.ref b18, .ref r19, .int 0])), (b18, .inl (aC 0, 128, .inl (fun _ => 0))), (r19, .inl (aC 1, 128, .inl (fun _ => 0))), (q26, .inr (4, [.ref q20, .ref (u27.1), .ref (u27.2.1), .ref (u27.2.2.1), .ref (u27.2.2.2)])), ((u27.2.2.2), .inl (aC 2, 256, .inr (.inl (fun _ => 0)))), (q32, .inr (6, [.ref q29, .ref u33])), (q38, .inr (8, [.null, .null, .null, .int 0]))] H := hP
  have hD : va_D A [(h0, .inr (11, [.ref q1, .ref q4, .int 0, .ref q5, .ref q10, .ref q15, .ref q20, .ref q23, .ref q26, .ref q29, .ref q32, .ref q35, .null, .null, .null])), (q1, .inr (0, [.ref u2, .int 0, .int 0])), (u2, .inl (aC 1, 7, .inl (fun _ => 0))), (q4, .inl (aC 4, 5, .inr (.inr (.inr (.inr (fun _ => none)))))), (q5, .inr (1, [.ref b8, .ref r9, .int 0])), (b8, .inl (aC 0, 128, .inl (fun _ => 0))), (r9, .inl (aC 1, 128, .inl (fun _ => 0))), (q10, .inr (1, [.ref b13, .ref r14, .int 0])), (b13, .inl (aC 0, 128, .inl (fun _ => 0))), (r14, .inl (aC 1, 128, .inl (fun _ => 0))), (q15, .inr (1, [.ref b18, .ref r19, .int 0])), (b18, .inl (aC 0, 128, .inl (fun _ => 0))), (r19, .inl (aC 1, 128, .inl (fun _ => 0))), (q26, .inr (4, [.ref q20, .ref (u27.1), .ref (u27.2.1), .ref (u27.2.2.1), .ref (u27.2.2.2)])), ((u27.2.2.2), .inl (aC 2, 256, .inr (.inl (fun _ => 0)))), (q32, .inr (6, [.ref q29, .ref u33])), (q38, .inr (8, [.null, .null, .null, .int 0]))] := hD
  refine W.widen (k := 53) (n := 3674) (Nat.le_of_ble_eq_true rfl) (Nat.le_of_ble_eq_true rfl) ?_
  refine lv_dup hx hb dX11_init_138 rfl ?_
  have hPc := hP.sub (ws' := [(q38, .inr (8, [.null, .null, .null, .int 0]))]) [16] rfl
  have hDc := hD.sub (ws' := [(q38, .inr (8, [.null, .null, .null, .int 0]))]) [16] (by decide) rfl
  have hFc := va_free (wc := [(q38, .inr (8, [.null, .null, .null, .int 0]))]) hD hS hA [16] rfl
  refine va_callv (va_runIN (As := []) (rest := [.ref q38, .ref h0]) ⟨hx, hb, hml, hown, hts⟩ (c_X10_init l dC dI aC H.size q38) (⟨va_cnB 0 hts (goodIn_sub (by decide +kernel) (by decide +kernel)) rfl rfl rfl (rf_nst hN 12 (q := (RX11, 81, yX10_init, "Transversary")) rfl) (hts (.initialized RX10) (by decide +kernel)) (by decide +kernel) ⟨Nat.le_of_ble_eq_true rfl, Nat.le_of_ble_eq_true rfl⟩, rfl, hts (.instanceMethod yX10_init) (by decide +kernel)⟩) (rf_ps hK hN hPc hDc) rfl rfl hl.1 rfl (lv_room (Nat.le_of_ble_eq_true rfl)) dX11_init_139 ⟨Nat.le_of_ble_eq_true rfl, Nat.le_of_ble_eq_true rfl⟩) hS (fun q _ h => hFc q h) hFc (fun u39 t H1 locs ht hvm hwu39 hB hz1 hk1 hS => ?_)
  obtain ⟨hP1, hD1⟩ := hB
  rw [ht] at hP1
  try dsimp only at hwu39 hP1 hD1
  obtain ⟨hP, hD⟩ := va_join (wr := [(h0, .inr (11, [.ref q1, .ref q4, .int 0, .ref q5, .ref q10, .ref q15, .ref q20, .ref q23, .ref q26, .ref q29, .ref q32, .ref q35, .null, .null, .null])), (q1, .inr (0, [.ref u2, .int 0, .int 0])), (u2, .inl (aC 1, 7, .inl (fun _ => 0))), (q4, .inl (aC 4, 5, .inr (.inr (.inr (.inr (fun _ => none)))))), (q5, .inr (1, [.ref b8, .ref r9, .int 0])), (b8, .inl (aC 0, 128, .inl (fun _ => 0))), (r9, .inl (aC 1, 128, .inl (fun _ => 0))), (q10, .inr (1, [.ref b13, .ref r14, .int 0])), (b13, .inl (aC 0, 128, .inl (fun _ => 0))), (r14, .inl (aC 1, 128, .inl (fun _ => 0))), (q15, .inr (1, [.ref b18, .ref r19, .int 0])), (b18, .inl (aC 0, 128, .inl (fun _ => 0))), (r19, .inl (aC 1, 128, .inl (fun _ => 0))), (q26, .inr (4, [.ref q20, .ref (u27.1), .ref (u27.2.1), .ref (u27.2.2.1), .ref (u27.2.2.2)])), ((u27.2.2.2), .inl (aC 2, 256, .inr (.inl (fun _ => 0)))), (q32, .inr (6, [.ref q29, .ref u33]))]) (w1 := []) hP hD [16] [0, 1, 2, 3, 4, 5, 6, 7, 8, 9, 10, 11, 12, 13, 14, 15] rfl rfl (by decide) (by decide) hk1 hFc hP1 hD1
  clear hP1 hD1 hPc hDc hFc
  generalize H1 = H at hP hS ⊢
  have hP : va_P (dC, dI) rfCl [(h0, .inr (11, [.ref q1, .ref q4, .int 0, .ref q5, .ref q10, .ref q15, .ref q20, .ref q23, .ref q26, .ref q29, .ref q32, .ref q35, .null, .null, .null])), (q1, .inr (0, [.ref u2, .int 0, .int 0])), (u2, .inl (aC 1, 7, .inl (fun _ => 0))), (q4, .inl (aC 4, 5, .inr (.inr (.inr (.inr (fun _ => none)))))), (q5, .inr (1, [.ref b8, .ref r9, .int 0])), (b8, .inl (aC 0, 128, .inl (fun _ => 0))), (r9, .inl (aC 1, 128, .inl (fun _ => 0))), (q10, .inr (1, [.ref b13, .ref r14, .int 0])), (b13, .inl (aC 0, 128, .inl (fun _ => 0))), (r14, .inl (aC 1, 128, .inl (fun _ => 0))), (q15, .inr (1, [.ref b18, .ref r19, .int 0])), (b18, .inl (aC 0, 128, .inl (fun _ => 0))), (r19, .inl (aC 1, 128, .inl (fun _ => 0))), (q26, .inr (4, [.ref q20, .ref (u27.1), .ref (u27.2.1), .ref (u27.2.2.1), .ref (u27.2.2.2)])), ((u27.2.2.2), .inl (aC 2, 256, .inr (.inl (fun _ => 0)))), (q32, .inr (6, [.ref q29, .ref u33]))] H := hP
  have hD : va_D A [(h0, .inr (11, [.ref q1, .ref q4, .int 0, .ref q5, .ref q10, .ref q15, .ref q20, .ref q23, .ref q26, .ref q29, .ref q32, .ref q35, .null, .null, .null])), (q1, .inr (0, [.ref u2, .int 0, .int 0])), (u2, .inl (aC 1, 7, .inl (fun _ => 0))), (q4, .inl (aC 4, 5, .inr (.inr (.inr (.inr (fun _ => none)))))), (q5, .inr (1, [.ref b8, .ref r9, .int 0])), (b8, .inl (aC 0, 128, .inl (fun _ => 0))), (r9, .inl (aC 1, 128, .inl (fun _ => 0))), (q10, .inr (1, [.ref b13, .ref r14, .int 0])), (b13, .inl (aC 0, 128, .inl (fun _ => 0))), (r14, .inl (aC 1, 128, .inl (fun _ => 0))), (q15, .inr (1, [.ref b18, .ref r19, .int 0])), (b18, .inl (aC 0, 128, .inl (fun _ => 0))), (r19, .inl (aC 1, 128, .inl (fun _ => 0))), (q26, .inr (4, [.ref q20, .ref (u27.1), .ref (u27.2.1), .ref (u27.2.2.1), .ref (u27.2.2.2)])), ((u27.2.2.2), .inl (aC 2, 256, .inr (.inl (fun _ => 0)))), (q32, .inr (6, [.ref q29, .ref u33]))] := hD
  refine W.widen (k := 58) (n := 4068) (Nat.le_of_ble_eq_true rfl) (Nat.le_of_ble_eq_true rfl) ?_
  refine va_putF (D := (dC, dI)) (ci := 11) (v := .ref q38) (ty := (.object "Transversary$Trees")) (C := RX11) (T := TX11) (N := 15) hx hb hts (by decide +kernel) tyX11 tyX11_ok nmX11 hown hK hP hD hS 0 rfl rfl 12 (by decide) (hts (.fieldLink RX11 82 "Transversary" "trees" "LTransversary$Trees;") (by decide +kernel)) (fun _ h9 => h9) rfl hin rfl (by decide +kernel) rfl rfl (Nat.le_of_ble_eq_true rfl) dX11_init_142 (fun H locs hP hD hS => ?_)
  have hP : va_P (dC, dI) rfCl [(h0, .inr (11, [.ref q1, .ref q4, .int 0, .ref q5, .ref q10, .ref q15, .ref q20, .ref q23, .ref q26, .ref q29, .ref q32, .ref q35, .ref q38, .null, .null])), (q1, .inr (0, [.ref u2, .int 0, .int 0])), (u2, .inl (aC 1, 7, .inl (fun _ => 0))), (q4, .inl (aC 4, 5, .inr (.inr (.inr (.inr (fun _ => none)))))), (q5, .inr (1, [.ref b8, .ref r9, .int 0])), (b8, .inl (aC 0, 128, .inl (fun _ => 0))), (r9, .inl (aC 1, 128, .inl (fun _ => 0))), (q10, .inr (1, [.ref b13, .ref r14, .int 0])), (b13, .inl (aC 0, 128, .inl (fun _ => 0))), (r14, .inl (aC 1, 128, .inl (fun _ => 0))), (q15, .inr (1, [.ref b18, .ref r19, .int 0])), (b18, .inl (aC 0, 128, .inl (fun _ => 0))), (r19, .inl (aC 1, 128, .inl (fun _ => 0))), (q26, .inr (4, [.ref q20, .ref (u27.1), .ref (u27.2.1), .ref (u27.2.2.1), .ref (u27.2.2.2)])), ((u27.2.2.2), .inl (aC 2, 256, .inr (.inl (fun _ => 0)))), (q32, .inr (6, [.ref q29, .ref u33]))] H := hP
  have hD : va_D A [(h0, .inr (11, [.ref q1, .ref q4, .int 0, .ref q5, .ref q10, .ref q15, .ref q20, .ref q23, .ref q26, .ref q29, .ref q32, .ref q35, .ref q38, .null, .null])), (q1, .inr (0, [.ref u2, .int 0, .int 0])), (u2, .inl (aC 1, 7, .inl (fun _ => 0))), (q4, .inl (aC 4, 5, .inr (.inr (.inr (.inr (fun _ => none)))))), (q5, .inr (1, [.ref b8, .ref r9, .int 0])), (b8, .inl (aC 0, 128, .inl (fun _ => 0))), (r9, .inl (aC 1, 128, .inl (fun _ => 0))), (q10, .inr (1, [.ref b13, .ref r14, .int 0])), (b13, .inl (aC 0, 128, .inl (fun _ => 0))), (r14, .inl (aC 1, 128, .inl (fun _ => 0))), (q15, .inr (1, [.ref b18, .ref r19, .int 0])), (b18, .inl (aC 0, 128, .inl (fun _ => 0))), (r19, .inl (aC 1, 128, .inl (fun _ => 0))), (q26, .inr (4, [.ref q20, .ref (u27.1), .ref (u27.2.1), .ref (u27.2.2.1), .ref (u27.2.2.2)])), ((u27.2.2.2), .inl (aC 2, 256, .inr (.inl (fun _ => 0)))), (q32, .inr (6, [.ref q29, .ref u33]))] := hD
  refine lv_aload_n hx hb dX11_init_145 rfl (lv_at hl 0 rfl) ?_
  refine va_new (ci := 9) (fs := [.null, .null, .null, .null, .null, .long 0, .long 0]) (C := RX2) (T := TX2) (N := 7) hx hb hts (by decide +kernel) tyX2 tyX2_ok hown (hts (.classLink RX11 86 RX2) (by decide +kernel)) (hts (.instantiable RX2 7) (by decide +kernel)) (hts (.initialized RX2) (by decide +kernel)) hK hP hD hS hA rfl (fun j hj => by rcases (show j = 0 ∨ j = 1 ∨ j = 2 ∨ j = 3 ∨ j = 4 ∨ j = 5 ∨ j = 6 by omega) with rfl | rfl | rfl | rfl | rfl | rfl | rfl <;> rfl) (Nat.le_of_ble_eq_true rfl) (Nat.le_of_ble_eq_true rfl) dX11_init_146 (fun q41 H hP hD hS => ?_)
  have hP : va_P (dC, dI) rfCl [(h0, .inr (11, [.ref q1, .ref q4, .int 0, .ref q5, .ref q10, .ref q15, .ref q20, .ref q23, .ref q26, .ref q29, .ref q32, .ref q35, .ref q38, .null, .null])), (q1, .inr (0, [.ref u2, .int 0, .int 0])), (u2, .inl (aC 1, 7, .inl (fun _ => 0))), (q4, .inl (aC 4, 5, .inr (.inr (.inr (.inr (fun _ => none)))))), (q5, .inr (1, [.ref b8, .ref r9, .int 0])), (b8, .inl (aC 0, 128, .inl (fun _ => 0))), (r9, .inl (aC 1, 128, .inl (fun _ => 0))), (q10, .inr (1, [.ref b13, .ref r14, .int 0])), (b13, .inl (aC 0, 128, .inl (fun _ => 0))), (r14, .inl (aC 1, 128, .inl (fun _ => 0))), (q15, .inr (1, [.ref b18, .ref r19, .int 0])), (b18, .inl (aC 0, 128, .inl (fun _ => 0))), (r19, .inl (aC 1, 128, .inl (fun _ => 0))), (q26, .inr (4, [.ref q20, .ref (u27.1), .ref (u27.2.1), .ref (u27.2.2.1), .ref (u27.2.2.2)])), ((u27.2.2.2), .inl (aC 2, 256, .inr (.inl (fun _ => 0)))), (q32, .inr (6, [.ref q29, .ref u33])), (q41, .inr (9, [.null, .null, .null, .null, .null, .long 0, .long 0]))] H := hP
  have hD : va_D A [(h0, .inr (11, [.ref q1, .ref q4, .int 0, .ref q5, .ref q10, .ref q15, .ref q20, .ref q23, .ref q26, .ref q29, .ref q32, .ref q35, .ref q38, .null, .null])), (q1, .inr (0, [.ref u2, .int 0, .int 0])), (u2, .inl (aC 1, 7, .inl (fun _ => 0))), (q4, .inl (aC 4, 5, .inr (.inr (.inr (.inr (fun _ => none)))))), (q5, .inr (1, [.ref b8, .ref r9, .int 0])), (b8, .inl (aC 0, 128, .inl (fun _ => 0))), (r9, .inl (aC 1, 128, .inl (fun _ => 0))), (q10, .inr (1, [.ref b13, .ref r14, .int 0])), (b13, .inl (aC 0, 128, .inl (fun _ => 0))), (r14, .inl (aC 1, 128, .inl (fun _ => 0))), (q15, .inr (1, [.ref b18, .ref r19, .int 0])), (b18, .inl (aC 0, 128, .inl (fun _ => 0))), (r19, .inl (aC 1, 128, .inl (fun _ => 0))), (q26, .inr (4, [.ref q20, .ref (u27.1), .ref (u27.2.1), .ref (u27.2.2.1), .ref (u27.2.2.2)])), ((u27.2.2.2), .inl (aC 2, 256, .inr (.inl (fun _ => 0)))), (q32, .inr (6, [.ref q29, .ref u33])), (q41, .inr (9, [.null, .null, .null, .null, .null, .long 0, .long 0]))] := hD
  refine W.widen (k := 59) (n := 4075) (Nat.le_of_ble_eq_true rfl) (Nat.le_of_ble_eq_true rfl) ?_
  refine lv_dup hx hb dX11_init_149 rfl ?_
  have hPc := hP.sub (ws' := [(q41, .inr (9, [.null, .null, .null, .null, .null, .long 0, .long 0]))]) [16] rfl
  have hDc := hD.sub (ws' := [(q41, .inr (9, [.null, .null, .null, .null, .null, .long 0, .long 0]))]) [16] (by decide) rfl
  have hFc := va_free (wc := [(q41, .inr (9, [.null, .null, .null, .null, .null, .long 0, .long 0]))]) hD hS hA [16] rfl
  refine va_callv (va_runIN (As := []) (rest := [.ref q41, .ref h0]) ⟨hx, hb, hml, hown, hts⟩ (c_X2_init l dC dI aC H.size q41) (⟨va_cnB 0 hts (goodIn_sub (by decide +kernel) (by decide +kernel)) rfl rfl rfl (rf_nst hN 13 (q := (RX11, 88, yX2_init, "Transversary")) rfl) (hts (.initialized RX2) (by decide +kernel)) (by decide +kernel) ⟨Nat.le_of_ble_eq_true rfl, Nat.le_of_ble_eq_true rfl⟩, rfl, hts (.instanceMethod yX2_init) (by decide +kernel)⟩) (rf_ps hK hN hPc hDc) rfl rfl hl.1 rfl (lv_room (Nat.le_of_ble_eq_true rfl)) dX11_init_150 ⟨Nat.le_of_ble_eq_true rfl, Nat.le_of_ble_eq_true rfl⟩) hS (fun q _ h => hFc q h) hFc (fun u42 t H1 locs ht hvm hwu42 hB hz1 hk1 hS => ?_)
  obtain ⟨hP1, hD1⟩ := hB
  rw [ht] at hP1
  try dsimp only at hwu42 hP1 hD1
  obtain ⟨hP, hD⟩ := va_join (wr := [(h0, .inr (11, [.ref q1, .ref q4, .int 0, .ref q5, .ref q10, .ref q15, .ref q20, .ref q23, .ref q26, .ref q29, .ref q32, .ref q35, .ref q38, .null, .null])), (q1, .inr (0, [.ref u2, .int 0, .int 0])), (u2, .inl (aC 1, 7, .inl (fun _ => 0))), (q4, .inl (aC 4, 5, .inr (.inr (.inr (.inr (fun _ => none)))))), (q5, .inr (1, [.ref b8, .ref r9, .int 0])), (b8, .inl (aC 0, 128, .inl (fun _ => 0))), (r9, .inl (aC 1, 128, .inl (fun _ => 0))), (q10, .inr (1, [.ref b13, .ref r14, .int 0])), (b13, .inl (aC 0, 128, .inl (fun _ => 0))), (r14, .inl (aC 1, 128, .inl (fun _ => 0))), (q15, .inr (1, [.ref b18, .ref r19, .int 0])), (b18, .inl (aC 0, 128, .inl (fun _ => 0))), (r19, .inl (aC 1, 128, .inl (fun _ => 0))), (q26, .inr (4, [.ref q20, .ref (u27.1), .ref (u27.2.1), .ref (u27.2.2.1), .ref (u27.2.2.2)])), ((u27.2.2.2), .inl (aC 2, 256, .inr (.inl (fun _ => 0)))), (q32, .inr (6, [.ref q29, .ref u33]))]) (w1 := []) hP hD [16] [0, 1, 2, 3, 4, 5, 6, 7, 8, 9, 10, 11, 12, 13, 14, 15] rfl rfl (by decide) (by decide) hk1 hFc hP1 hD1
  clear hP1 hD1 hPc hDc hFc
  generalize H1 = H at hP hS ⊢
  have hP : va_P (dC, dI) rfCl [(h0, .inr (11, [.ref q1, .ref q4, .int 0, .ref q5, .ref q10, .ref q15, .ref q20, .ref q23, .ref q26, .ref q29, .ref q32, .ref q35, .ref q38, .null, .null])), (q1, .inr (0, [.ref u2, .int 0, .int 0])), (u2, .inl (aC 1, 7, .inl (fun _ => 0))), (q4, .inl (aC 4, 5, .inr (.inr (.inr (.inr (fun _ => none)))))), (q5, .inr (1, [.ref b8, .ref r9, .int 0])), (b8, .inl (aC 0, 128, .inl (fun _ => 0))), (r9, .inl (aC 1, 128, .inl (fun _ => 0))), (q10, .inr (1, [.ref b13, .ref r14, .int 0])), (b13, .inl (aC 0, 128, .inl (fun _ => 0))), (r14, .inl (aC 1, 128, .inl (fun _ => 0))), (q15, .inr (1, [.ref b18, .ref r19, .int 0])), (b18, .inl (aC 0, 128, .inl (fun _ => 0))), (r19, .inl (aC 1, 128, .inl (fun _ => 0))), (q26, .inr (4, [.ref q20, .ref (u27.1), .ref (u27.2.1), .ref (u27.2.2.1), .ref (u27.2.2.2)])), ((u27.2.2.2), .inl (aC 2, 256, .inr (.inl (fun _ => 0)))), (q32, .inr (6, [.ref q29, .ref u33]))] H := hP
  have hD : va_D A [(h0, .inr (11, [.ref q1, .ref q4, .int 0, .ref q5, .ref q10, .ref q15, .ref q20, .ref q23, .ref q26, .ref q29, .ref q32, .ref q35, .ref q38, .null, .null])), (q1, .inr (0, [.ref u2, .int 0, .int 0])), (u2, .inl (aC 1, 7, .inl (fun _ => 0))), (q4, .inl (aC 4, 5, .inr (.inr (.inr (.inr (fun _ => none)))))), (q5, .inr (1, [.ref b8, .ref r9, .int 0])), (b8, .inl (aC 0, 128, .inl (fun _ => 0))), (r9, .inl (aC 1, 128, .inl (fun _ => 0))), (q10, .inr (1, [.ref b13, .ref r14, .int 0])), (b13, .inl (aC 0, 128, .inl (fun _ => 0))), (r14, .inl (aC 1, 128, .inl (fun _ => 0))), (q15, .inr (1, [.ref b18, .ref r19, .int 0])), (b18, .inl (aC 0, 128, .inl (fun _ => 0))), (r19, .inl (aC 1, 128, .inl (fun _ => 0))), (q26, .inr (4, [.ref q20, .ref (u27.1), .ref (u27.2.1), .ref (u27.2.2.1), .ref (u27.2.2.2)])), ((u27.2.2.2), .inl (aC 2, 256, .inr (.inl (fun _ => 0)))), (q32, .inr (6, [.ref q29, .ref u33]))] := hD
  refine W.widen (k := 64) (n := 4275) (Nat.le_of_ble_eq_true rfl) (Nat.le_of_ble_eq_true rfl) ?_
  refine va_putF (D := (dC, dI)) (ci := 11) (v := .ref q41) (ty := (.object "Transversary$Orders")) (C := RX11) (T := TX11) (N := 15) hx hb hts (by decide +kernel) tyX11 tyX11_ok nmX11 hown hK hP hD hS 0 rfl rfl 13 (by decide) (hts (.fieldLink RX11 89 "Transversary" "orders" "LTransversary$Orders;") (by decide +kernel)) (fun _ h9 => h9) rfl hin rfl (by decide +kernel) rfl rfl (Nat.le_of_ble_eq_true rfl) dX11_init_153 (fun H locs hP hD hS => ?_)
  have hP : va_P (dC, dI) rfCl [(h0, .inr (11, [.ref q1, .ref q4, .int 0, .ref q5, .ref q10, .ref q15, .ref q20, .ref q23, .ref q26, .ref q29, .ref q32, .ref q35, .ref q38, .ref q41, .null])), (q1, .inr (0, [.ref u2, .int 0, .int 0])), (u2, .inl (aC 1, 7, .inl (fun _ => 0))), (q4, .inl (aC 4, 5, .inr (.inr (.inr (.inr (fun _ => none)))))), (q5, .inr (1, [.ref b8, .ref r9, .int 0])), (b8, .inl (aC 0, 128, .inl (fun _ => 0))), (r9, .inl (aC 1, 128, .inl (fun _ => 0))), (q10, .inr (1, [.ref b13, .ref r14, .int 0])), (b13, .inl (aC 0, 128, .inl (fun _ => 0))), (r14, .inl (aC 1, 128, .inl (fun _ => 0))), (q15, .inr (1, [.ref b18, .ref r19, .int 0])), (b18, .inl (aC 0, 128, .inl (fun _ => 0))), (r19, .inl (aC 1, 128, .inl (fun _ => 0))), (q26, .inr (4, [.ref q20, .ref (u27.1), .ref (u27.2.1), .ref (u27.2.2.1), .ref (u27.2.2.2)])), ((u27.2.2.2), .inl (aC 2, 256, .inr (.inl (fun _ => 0)))), (q32, .inr (6, [.ref q29, .ref u33]))] H := hP
  have hD : va_D A [(h0, .inr (11, [.ref q1, .ref q4, .int 0, .ref q5, .ref q10, .ref q15, .ref q20, .ref q23, .ref q26, .ref q29, .ref q32, .ref q35, .ref q38, .ref q41, .null])), (q1, .inr (0, [.ref u2, .int 0, .int 0])), (u2, .inl (aC 1, 7, .inl (fun _ => 0))), (q4, .inl (aC 4, 5, .inr (.inr (.inr (.inr (fun _ => none)))))), (q5, .inr (1, [.ref b8, .ref r9, .int 0])), (b8, .inl (aC 0, 128, .inl (fun _ => 0))), (r9, .inl (aC 1, 128, .inl (fun _ => 0))), (q10, .inr (1, [.ref b13, .ref r14, .int 0])), (b13, .inl (aC 0, 128, .inl (fun _ => 0))), (r14, .inl (aC 1, 128, .inl (fun _ => 0))), (q15, .inr (1, [.ref b18, .ref r19, .int 0])), (b18, .inl (aC 0, 128, .inl (fun _ => 0))), (r19, .inl (aC 1, 128, .inl (fun _ => 0))), (q26, .inr (4, [.ref q20, .ref (u27.1), .ref (u27.2.1), .ref (u27.2.2.1), .ref (u27.2.2.2)])), ((u27.2.2.2), .inl (aC 2, 256, .inr (.inl (fun _ => 0)))), (q32, .inr (6, [.ref q29, .ref u33]))] := hD
  refine lv_aload_n hx hb dX11_init_156 rfl (lv_at hl 0 rfl) ?_
  refine va_new (ci := 10) (fs := [.null, .null, .null, .null, .null, .int 0]) (C := RX9) (T := TX9) (N := 6) hx hb hts (by decide +kernel) tyX9 tyX9_ok hown (hts (.classLink RX11 93 RX9) (by decide +kernel)) (hts (.instantiable RX9 6) (by decide +kernel)) (hts (.initialized RX9) (by decide +kernel)) hK hP hD hS hA rfl (fun j hj => by rcases (show j = 0 ∨ j = 1 ∨ j = 2 ∨ j = 3 ∨ j = 4 ∨ j = 5 by omega) with rfl | rfl | rfl | rfl | rfl | rfl <;> rfl) (Nat.le_of_ble_eq_true rfl) (Nat.le_of_ble_eq_true rfl) dX11_init_157 (fun q44 H hP hD hS => ?_)
  have hP : va_P (dC, dI) rfCl [(h0, .inr (11, [.ref q1, .ref q4, .int 0, .ref q5, .ref q10, .ref q15, .ref q20, .ref q23, .ref q26, .ref q29, .ref q32, .ref q35, .ref q38, .ref q41, .null])), (q1, .inr (0, [.ref u2, .int 0, .int 0])), (u2, .inl (aC 1, 7, .inl (fun _ => 0))), (q4, .inl (aC 4, 5, .inr (.inr (.inr (.inr (fun _ => none)))))), (q5, .inr (1, [.ref b8, .ref r9, .int 0])), (b8, .inl (aC 0, 128, .inl (fun _ => 0))), (r9, .inl (aC 1, 128, .inl (fun _ => 0))), (q10, .inr (1, [.ref b13, .ref r14, .int 0])), (b13, .inl (aC 0, 128, .inl (fun _ => 0))), (r14, .inl (aC 1, 128, .inl (fun _ => 0))), (q15, .inr (1, [.ref b18, .ref r19, .int 0])), (b18, .inl (aC 0, 128, .inl (fun _ => 0))), (r19, .inl (aC 1, 128, .inl (fun _ => 0))), (q26, .inr (4, [.ref q20, .ref (u27.1), .ref (u27.2.1), .ref (u27.2.2.1), .ref (u27.2.2.2)])), ((u27.2.2.2), .inl (aC 2, 256, .inr (.inl (fun _ => 0)))), (q32, .inr (6, [.ref q29, .ref u33])), (q44, .inr (10, [.null, .null, .null, .null, .null, .int 0]))] H := hP
  have hD : va_D A [(h0, .inr (11, [.ref q1, .ref q4, .int 0, .ref q5, .ref q10, .ref q15, .ref q20, .ref q23, .ref q26, .ref q29, .ref q32, .ref q35, .ref q38, .ref q41, .null])), (q1, .inr (0, [.ref u2, .int 0, .int 0])), (u2, .inl (aC 1, 7, .inl (fun _ => 0))), (q4, .inl (aC 4, 5, .inr (.inr (.inr (.inr (fun _ => none)))))), (q5, .inr (1, [.ref b8, .ref r9, .int 0])), (b8, .inl (aC 0, 128, .inl (fun _ => 0))), (r9, .inl (aC 1, 128, .inl (fun _ => 0))), (q10, .inr (1, [.ref b13, .ref r14, .int 0])), (b13, .inl (aC 0, 128, .inl (fun _ => 0))), (r14, .inl (aC 1, 128, .inl (fun _ => 0))), (q15, .inr (1, [.ref b18, .ref r19, .int 0])), (b18, .inl (aC 0, 128, .inl (fun _ => 0))), (r19, .inl (aC 1, 128, .inl (fun _ => 0))), (q26, .inr (4, [.ref q20, .ref (u27.1), .ref (u27.2.1), .ref (u27.2.2.1), .ref (u27.2.2.2)])), ((u27.2.2.2), .inl (aC 2, 256, .inr (.inl (fun _ => 0)))), (q32, .inr (6, [.ref q29, .ref u33])), (q44, .inr (10, [.null, .null, .null, .null, .null, .int 0]))] := hD
  refine W.widen (k := 65) (n := 4281) (Nat.le_of_ble_eq_true rfl) (Nat.le_of_ble_eq_true rfl) ?_
  refine lv_dup hx hb dX11_init_160 rfl ?_
  have hPc := hP.sub (ws' := [(q44, .inr (10, [.null, .null, .null, .null, .null, .int 0]))]) [16] rfl
  have hDc := hD.sub (ws' := [(q44, .inr (10, [.null, .null, .null, .null, .null, .int 0]))]) [16] (by decide) rfl
  have hFc := va_free (wc := [(q44, .inr (10, [.null, .null, .null, .null, .null, .int 0]))]) hD hS hA [16] rfl
  refine va_callv (va_runIN (As := []) (rest := [.ref q44, .ref h0]) ⟨hx, hb, hml, hown, hts⟩ (c_X9_init l dC dI aC H.size q44) (⟨va_cnB 0 hts (goodIn_sub (by decide +kernel) (by decide +kernel)) rfl rfl rfl (rf_nst hN 14 (q := (RX11, 95, yX9_init, "Transversary")) rfl) (hts (.initialized RX9) (by decide +kernel)) (by decide +kernel) ⟨Nat.le_of_ble_eq_true rfl, Nat.le_of_ble_eq_true rfl⟩, rfl, hts (.instanceMethod yX9_init) (by decide +kernel)⟩) (rf_ps hK hN hPc hDc) rfl rfl hl.1 rfl (lv_room (Nat.le_of_ble_eq_true rfl)) dX11_init_161 ⟨Nat.le_of_ble_eq_true rfl, Nat.le_of_ble_eq_true rfl⟩) hS (fun q _ h => hFc q h) hFc (fun u45 t H1 locs ht hvm hwu45 hB hz1 hk1 hS => ?_)
  obtain ⟨hP1, hD1⟩ := hB
  rw [ht] at hP1
  try dsimp only at hwu45 hP1 hD1
  obtain ⟨hP, hD⟩ := va_join (wr := [(h0, .inr (11, [.ref q1, .ref q4, .int 0, .ref q5, .ref q10, .ref q15, .ref q20, .ref q23, .ref q26, .ref q29, .ref q32, .ref q35, .ref q38, .ref q41, .null])), (q1, .inr (0, [.ref u2, .int 0, .int 0])), (u2, .inl (aC 1, 7, .inl (fun _ => 0))), (q4, .inl (aC 4, 5, .inr (.inr (.inr (.inr (fun _ => none)))))), (q5, .inr (1, [.ref b8, .ref r9, .int 0])), (b8, .inl (aC 0, 128, .inl (fun _ => 0))), (r9, .inl (aC 1, 128, .inl (fun _ => 0))), (q10, .inr (1, [.ref b13, .ref r14, .int 0])), (b13, .inl (aC 0, 128, .inl (fun _ => 0))), (r14, .inl (aC 1, 128, .inl (fun _ => 0))), (q15, .inr (1, [.ref b18, .ref r19, .int 0])), (b18, .inl (aC 0, 128, .inl (fun _ => 0))), (r19, .inl (aC 1, 128, .inl (fun _ => 0))), (q26, .inr (4, [.ref q20, .ref (u27.1), .ref (u27.2.1), .ref (u27.2.2.1), .ref (u27.2.2.2)])), ((u27.2.2.2), .inl (aC 2, 256, .inr (.inl (fun _ => 0)))), (q32, .inr (6, [.ref q29, .ref u33]))]) (w1 := []) hP hD [16] [0, 1, 2, 3, 4, 5, 6, 7, 8, 9, 10, 11, 12, 13, 14, 15] rfl rfl (by decide) (by decide) hk1 hFc hP1 hD1
  clear hP1 hD1 hPc hDc hFc
  generalize H1 = H at hP hS ⊢
  have hP : va_P (dC, dI) rfCl [(h0, .inr (11, [.ref q1, .ref q4, .int 0, .ref q5, .ref q10, .ref q15, .ref q20, .ref q23, .ref q26, .ref q29, .ref q32, .ref q35, .ref q38, .ref q41, .null])), (q1, .inr (0, [.ref u2, .int 0, .int 0])), (u2, .inl (aC 1, 7, .inl (fun _ => 0))), (q4, .inl (aC 4, 5, .inr (.inr (.inr (.inr (fun _ => none)))))), (q5, .inr (1, [.ref b8, .ref r9, .int 0])), (b8, .inl (aC 0, 128, .inl (fun _ => 0))), (r9, .inl (aC 1, 128, .inl (fun _ => 0))), (q10, .inr (1, [.ref b13, .ref r14, .int 0])), (b13, .inl (aC 0, 128, .inl (fun _ => 0))), (r14, .inl (aC 1, 128, .inl (fun _ => 0))), (q15, .inr (1, [.ref b18, .ref r19, .int 0])), (b18, .inl (aC 0, 128, .inl (fun _ => 0))), (r19, .inl (aC 1, 128, .inl (fun _ => 0))), (q26, .inr (4, [.ref q20, .ref (u27.1), .ref (u27.2.1), .ref (u27.2.2.1), .ref (u27.2.2.2)])), ((u27.2.2.2), .inl (aC 2, 256, .inr (.inl (fun _ => 0)))), (q32, .inr (6, [.ref q29, .ref u33]))] H := hP
  have hD : va_D A [(h0, .inr (11, [.ref q1, .ref q4, .int 0, .ref q5, .ref q10, .ref q15, .ref q20, .ref q23, .ref q26, .ref q29, .ref q32, .ref q35, .ref q38, .ref q41, .null])), (q1, .inr (0, [.ref u2, .int 0, .int 0])), (u2, .inl (aC 1, 7, .inl (fun _ => 0))), (q4, .inl (aC 4, 5, .inr (.inr (.inr (.inr (fun _ => none)))))), (q5, .inr (1, [.ref b8, .ref r9, .int 0])), (b8, .inl (aC 0, 128, .inl (fun _ => 0))), (r9, .inl (aC 1, 128, .inl (fun _ => 0))), (q10, .inr (1, [.ref b13, .ref r14, .int 0])), (b13, .inl (aC 0, 128, .inl (fun _ => 0))), (r14, .inl (aC 1, 128, .inl (fun _ => 0))), (q15, .inr (1, [.ref b18, .ref r19, .int 0])), (b18, .inl (aC 0, 128, .inl (fun _ => 0))), (r19, .inl (aC 1, 128, .inl (fun _ => 0))), (q26, .inr (4, [.ref q20, .ref (u27.1), .ref (u27.2.1), .ref (u27.2.2.1), .ref (u27.2.2.2)])), ((u27.2.2.2), .inl (aC 2, 256, .inr (.inl (fun _ => 0)))), (q32, .inr (6, [.ref q29, .ref u33]))] := hD
  refine W.widen (k := 77) (n := 4664) (Nat.le_of_ble_eq_true rfl) (Nat.le_of_ble_eq_true rfl) ?_
  refine va_putF (D := (dC, dI)) (ci := 11) (v := .ref q44) (ty := (.object "Transversary$Tables")) (C := RX11) (T := TX11) (N := 15) hx hb hts (by decide +kernel) tyX11 tyX11_ok nmX11 hown hK hP hD hS 0 rfl rfl 14 (by decide) (hts (.fieldLink RX11 96 "Transversary" "tables" "LTransversary$Tables;") (by decide +kernel)) (fun _ h9 => h9) rfl hin rfl (by decide +kernel) rfl rfl (Nat.le_of_ble_eq_true rfl) dX11_init_164 (fun H locs hP hD hS => ?_)
  have hP : va_P (dC, dI) rfCl [(h0, .inr (11, [.ref q1, .ref q4, .int 0, .ref q5, .ref q10, .ref q15, .ref q20, .ref q23, .ref q26, .ref q29, .ref q32, .ref q35, .ref q38, .ref q41, .ref q44])), (q1, .inr (0, [.ref u2, .int 0, .int 0])), (u2, .inl (aC 1, 7, .inl (fun _ => 0))), (q4, .inl (aC 4, 5, .inr (.inr (.inr (.inr (fun _ => none)))))), (q5, .inr (1, [.ref b8, .ref r9, .int 0])), (b8, .inl (aC 0, 128, .inl (fun _ => 0))), (r9, .inl (aC 1, 128, .inl (fun _ => 0))), (q10, .inr (1, [.ref b13, .ref r14, .int 0])), (b13, .inl (aC 0, 128, .inl (fun _ => 0))), (r14, .inl (aC 1, 128, .inl (fun _ => 0))), (q15, .inr (1, [.ref b18, .ref r19, .int 0])), (b18, .inl (aC 0, 128, .inl (fun _ => 0))), (r19, .inl (aC 1, 128, .inl (fun _ => 0))), (q26, .inr (4, [.ref q20, .ref (u27.1), .ref (u27.2.1), .ref (u27.2.2.1), .ref (u27.2.2.2)])), ((u27.2.2.2), .inl (aC 2, 256, .inr (.inl (fun _ => 0)))), (q32, .inr (6, [.ref q29, .ref u33]))] H := hP
  have hD : va_D A [(h0, .inr (11, [.ref q1, .ref q4, .int 0, .ref q5, .ref q10, .ref q15, .ref q20, .ref q23, .ref q26, .ref q29, .ref q32, .ref q35, .ref q38, .ref q41, .ref q44])), (q1, .inr (0, [.ref u2, .int 0, .int 0])), (u2, .inl (aC 1, 7, .inl (fun _ => 0))), (q4, .inl (aC 4, 5, .inr (.inr (.inr (.inr (fun _ => none)))))), (q5, .inr (1, [.ref b8, .ref r9, .int 0])), (b8, .inl (aC 0, 128, .inl (fun _ => 0))), (r9, .inl (aC 1, 128, .inl (fun _ => 0))), (q10, .inr (1, [.ref b13, .ref r14, .int 0])), (b13, .inl (aC 0, 128, .inl (fun _ => 0))), (r14, .inl (aC 1, 128, .inl (fun _ => 0))), (q15, .inr (1, [.ref b18, .ref r19, .int 0])), (b18, .inl (aC 0, 128, .inl (fun _ => 0))), (r19, .inl (aC 1, 128, .inl (fun _ => 0))), (q26, .inr (4, [.ref q20, .ref (u27.1), .ref (u27.2.1), .ref (u27.2.2.1), .ref (u27.2.2.2)])), ((u27.2.2.2), .inl (aC 2, 256, .inr (.inl (fun _ => 0)))), (q32, .inr (6, [.ref q29, .ref u33]))] := hD
  refine lv_iconst (v := 0) hx hb dX11_init_167 (by decide) ?_
  refine lv_istore_n (lv' := [(1, .int 0), (0, .ref h0)]) hx hb dX11_init_168 rfl hl (by decide) rfl (fun ls hl => ?_)
  refine lv_iload_n hx hb dX11_init_169 rfl (lv_at hl 0 rfl) ?_
  refine lv_aload_n hx hb dX11_init_170 rfl (lv_at hl 1 rfl) ?_
  refine va_get (D := (dC, dI)) (ci := 11) (v := .ref q4) (C := RX11) (T := TX11) (N := 15) hx hb hts (by decide +kernel) hown hK hP 0 rfl rfl 1 (by decide) (hts (.fieldLink RX11 18 "Transversary" "families" "[LTransversary$Sets;") (by decide +kernel)) (fun _ h9 => h9) rfl dX11_init_171 ?_
  refine va_alen (v := 5) hx hb hK hP 3 4 rfl rfl rfl dX11_init_174 ?_
  refine lv_icmp_ge (tgt := 197) hx hb dX11_init_175 (by decide) (fun c9 => absurd c9 (by decide)) (fun _ => ?_)
  refine lv_aload_n hx hb dX11_init_178 rfl (lv_at hl 1 rfl) ?_
  refine va_get (D := (dC, dI)) (ci := 11) (v := .ref q4) (C := RX11) (T := TX11) (N := 15) hx hb hts (by decide +kernel) hown hK hP 0 rfl rfl 1 (by decide) (hts (.fieldLink RX11 18 "Transversary" "families" "[LTransversary$Sets;") (by decide +kernel)) (fun _ h9 => h9) rfl dX11_init_179 ?_
  refine lv_iload_n hx hb dX11_init_182 rfl (lv_at hl 0 rfl) ?_
  refine va_new (ci := 1) (fs := [.null, .null, .int 0]) (C := RX7) (T := TX7) (N := 3) hx hb hts (by decide +kernel) tyX7 tyX7_ok hown (hts (.classLink RX11 16 RX7) (by decide +kernel)) (hts (.instantiable RX7 3) (by decide +kernel)) (hts (.initialized RX7) (by decide +kernel)) hK hP hD hS hA rfl (fun j hj => by rcases (show j = 0 ∨ j = 1 ∨ j = 2 by omega) with rfl | rfl | rfl <;> rfl) (Nat.le_of_ble_eq_true rfl) (Nat.le_of_ble_eq_true rfl) dX11_init_183 (fun q47 H hP hD hS => ?_)
  have hP : va_P (dC, dI) rfCl [(h0, .inr (11, [.ref q1, .ref q4, .int 0, .ref q5, .ref q10, .ref q15, .ref q20, .ref q23, .ref q26, .ref q29, .ref q32, .ref q35, .ref q38, .ref q41, .ref q44])), (q1, .inr (0, [.ref u2, .int 0, .int 0])), (u2, .inl (aC 1, 7, .inl (fun _ => 0))), (q4, .inl (aC 4, 5, .inr (.inr (.inr (.inr (fun _ => none)))))), (q5, .inr (1, [.ref b8, .ref r9, .int 0])), (b8, .inl (aC 0, 128, .inl (fun _ => 0))), (r9, .inl (aC 1, 128, .inl (fun _ => 0))), (q10, .inr (1, [.ref b13, .ref r14, .int 0])), (b13, .inl (aC 0, 128, .inl (fun _ => 0))), (r14, .inl (aC 1, 128, .inl (fun _ => 0))), (q15, .inr (1, [.ref b18, .ref r19, .int 0])), (b18, .inl (aC 0, 128, .inl (fun _ => 0))), (r19, .inl (aC 1, 128, .inl (fun _ => 0))), (q26, .inr (4, [.ref q20, .ref (u27.1), .ref (u27.2.1), .ref (u27.2.2.1), .ref (u27.2.2.2)])), ((u27.2.2.2), .inl (aC 2, 256, .inr (.inl (fun _ => 0)))), (q32, .inr (6, [.ref q29, .ref u33])), (q47, .inr (1, [.null, .null, .int 0]))] H := hP
  have hD : va_D A [(h0, .inr (11, [.ref q1, .ref q4, .int 0, .ref q5, .ref q10, .ref q15, .ref q20, .ref q23, .ref q26, .ref q29, .ref q32, .ref q35, .ref q38, .ref q41, .ref q44])), (q1, .inr (0, [.ref u2, .int 0, .int 0])), (u2, .inl (aC 1, 7, .inl (fun _ => 0))), (q4, .inl (aC 4, 5, .inr (.inr (.inr (.inr (fun _ => none)))))), (q5, .inr (1, [.ref b8, .ref r9, .int 0])), (b8, .inl (aC 0, 128, .inl (fun _ => 0))), (r9, .inl (aC 1, 128, .inl (fun _ => 0))), (q10, .inr (1, [.ref b13, .ref r14, .int 0])), (b13, .inl (aC 0, 128, .inl (fun _ => 0))), (r14, .inl (aC 1, 128, .inl (fun _ => 0))), (q15, .inr (1, [.ref b18, .ref r19, .int 0])), (b18, .inl (aC 0, 128, .inl (fun _ => 0))), (r19, .inl (aC 1, 128, .inl (fun _ => 0))), (q26, .inr (4, [.ref q20, .ref (u27.1), .ref (u27.2.1), .ref (u27.2.2.1), .ref (u27.2.2.2)])), ((u27.2.2.2), .inl (aC 2, 256, .inr (.inl (fun _ => 0)))), (q32, .inr (6, [.ref q29, .ref u33])), (q47, .inr (1, [.null, .null, .int 0]))] := hD
  refine W.widen (k := 78) (n := 4667) (Nat.le_of_ble_eq_true rfl) (Nat.le_of_ble_eq_true rfl) ?_
  refine lv_dup hx hb dX11_init_186 rfl ?_
  have hPc := hP.sub (ws' := [(q47, .inr (1, [.null, .null, .int 0]))]) [16] rfl
  have hDc := hD.sub (ws' := [(q47, .inr (1, [.null, .null, .int 0]))]) [16] (by decide) rfl
  have hFc := va_free (wc := [(q47, .inr (1, [.null, .null, .int 0]))]) hD hS hA [16] rfl
  refine va_callv (va_runIN (As := []) (rest := [.ref q47, .int 0, .ref q4]) ⟨hx, hb, hml, hown, hts⟩ (c_X7_init l dC dI aC H.size q47) (⟨va_cnB 0 hts (goodIn_sub (by decide +kernel) (by decide +kernel)) rfl rfl rfl (rf_nst hN 8 (q := (RX11, 22, yX7_init, "Transversary")) rfl) (hts (.initialized RX7) (by decide +kernel)) (by decide +kernel) ⟨Nat.le_of_ble_eq_true rfl, Nat.le_of_ble_eq_true rfl⟩, rfl, hts (.instanceMethod yX7_init) (by decide +kernel)⟩) (rf_ps hK hN hPc hDc) rfl rfl hl.1 rfl (lv_room (Nat.le_of_ble_eq_true rfl)) dX11_init_187 ⟨Nat.le_of_ble_eq_true rfl, Nat.le_of_ble_eq_true rfl⟩) hS (fun q _ h => hFc q h) hFc (fun u48 t H1 locs ht hvm hwu48 hB hz1 hk1 hS => ?_)
  obtain ⟨hP1, hD1⟩ := hB
  rw [ht] at hP1
  try dsimp only at hwu48 hP1 hD1
  obtain ⟨hP, hD⟩ := va_join (wr := [(h0, .inr (11, [.ref q1, .ref q4, .int 0, .ref q5, .ref q10, .ref q15, .ref q20, .ref q23, .ref q26, .ref q29, .ref q32, .ref q35, .ref q38, .ref q41, .ref q44])), (q1, .inr (0, [.ref u2, .int 0, .int 0])), (u2, .inl (aC 1, 7, .inl (fun _ => 0))), (q4, .inl (aC 4, 5, .inr (.inr (.inr (.inr (fun _ => none)))))), (q5, .inr (1, [.ref b8, .ref r9, .int 0])), (b8, .inl (aC 0, 128, .inl (fun _ => 0))), (r9, .inl (aC 1, 128, .inl (fun _ => 0))), (q10, .inr (1, [.ref b13, .ref r14, .int 0])), (b13, .inl (aC 0, 128, .inl (fun _ => 0))), (r14, .inl (aC 1, 128, .inl (fun _ => 0))), (q15, .inr (1, [.ref b18, .ref r19, .int 0])), (b18, .inl (aC 0, 128, .inl (fun _ => 0))), (r19, .inl (aC 1, 128, .inl (fun _ => 0))), (q26, .inr (4, [.ref q20, .ref (u27.1), .ref (u27.2.1), .ref (u27.2.2.1), .ref (u27.2.2.2)])), ((u27.2.2.2), .inl (aC 2, 256, .inr (.inl (fun _ => 0)))), (q32, .inr (6, [.ref q29, .ref u33]))]) (w1 := [(q47, .inr (1, [.ref (u48.1), .ref (u48.2), .int 0])), ((u48.1), .inl (aC 0, 128, .inl (fun _ => 0))), ((u48.2), .inl (aC 1, 128, .inl (fun _ => 0)))]) hP hD [16] [0, 1, 2, 3, 4, 5, 6, 7, 8, 9, 10, 11, 12, 13, 14, 15] rfl rfl (by decide) (by decide) hk1 hFc hP1 hD1
  clear hP1 hD1 hPc hDc hFc
  generalize H1 = H at hP hS ⊢
  have hP : va_P (dC, dI) rfCl [(h0, .inr (11, [.ref q1, .ref q4, .int 0, .ref q5, .ref q10, .ref q15, .ref q20, .ref q23, .ref q26, .ref q29, .ref q32, .ref q35, .ref q38, .ref q41, .ref q44])), (q1, .inr (0, [.ref u2, .int 0, .int 0])), (u2, .inl (aC 1, 7, .inl (fun _ => 0))), (q4, .inl (aC 4, 5, .inr (.inr (.inr (.inr (fun _ => none)))))), (q5, .inr (1, [.ref b8, .ref r9, .int 0])), (b8, .inl (aC 0, 128, .inl (fun _ => 0))), (r9, .inl (aC 1, 128, .inl (fun _ => 0))), (q10, .inr (1, [.ref b13, .ref r14, .int 0])), (b13, .inl (aC 0, 128, .inl (fun _ => 0))), (r14, .inl (aC 1, 128, .inl (fun _ => 0))), (q15, .inr (1, [.ref b18, .ref r19, .int 0])), (b18, .inl (aC 0, 128, .inl (fun _ => 0))), (r19, .inl (aC 1, 128, .inl (fun _ => 0))), (q26, .inr (4, [.ref q20, .ref (u27.1), .ref (u27.2.1), .ref (u27.2.2.1), .ref (u27.2.2.2)])), ((u27.2.2.2), .inl (aC 2, 256, .inr (.inl (fun _ => 0)))), (q32, .inr (6, [.ref q29, .ref u33])), (q47, .inr (1, [.ref (u48.1), .ref (u48.2), .int 0])), ((u48.1), .inl (aC 0, 128, .inl (fun _ => 0))), ((u48.2), .inl (aC 1, 128, .inl (fun _ => 0)))] H := hP
  have hD : va_D A [(h0, .inr (11, [.ref q1, .ref q4, .int 0, .ref q5, .ref q10, .ref q15, .ref q20, .ref q23, .ref q26, .ref q29, .ref q32, .ref q35, .ref q38, .ref q41, .ref q44])), (q1, .inr (0, [.ref u2, .int 0, .int 0])), (u2, .inl (aC 1, 7, .inl (fun _ => 0))), (q4, .inl (aC 4, 5, .inr (.inr (.inr (.inr (fun _ => none)))))), (q5, .inr (1, [.ref b8, .ref r9, .int 0])), (b8, .inl (aC 0, 128, .inl (fun _ => 0))), (r9, .inl (aC 1, 128, .inl (fun _ => 0))), (q10, .inr (1, [.ref b13, .ref r14, .int 0])), (b13, .inl (aC 0, 128, .inl (fun _ => 0))), (r14, .inl (aC 1, 128, .inl (fun _ => 0))), (q15, .inr (1, [.ref b18, .ref r19, .int 0])), (b18, .inl (aC 0, 128, .inl (fun _ => 0))), (r19, .inl (aC 1, 128, .inl (fun _ => 0))), (q26, .inr (4, [.ref q20, .ref (u27.1), .ref (u27.2.1), .ref (u27.2.2.1), .ref (u27.2.2.2)])), ((u27.2.2.2), .inl (aC 2, 256, .inr (.inl (fun _ => 0)))), (q32, .inr (6, [.ref q29, .ref u33])), (q47, .inr (1, [.ref (u48.1), .ref (u48.2), .int 0])), ((u48.1), .inl (aC 0, 128, .inl (fun _ => 0))), ((u48.2), .inl (aC 1, 128, .inl (fun _ => 0)))] := hD
  refine W.widen (k := 80) (n := 4923) (Nat.le_of_ble_eq_true rfl) (Nat.le_of_ble_eq_true rfl) ?_
  obtain ⟨b50, r51⟩ := u48
  try dsimp only at hP hD
  have hP : va_P (dC, dI) rfCl [(h0, .inr (11, [.ref q1, .ref q4, .int 0, .ref q5, .ref q10, .ref q15, .ref q20, .ref q23, .ref q26, .ref q29, .ref q32, .ref q35, .ref q38, .ref q41, .ref q44])), (q1, .inr (0, [.ref u2, .int 0, .int 0])), (u2, .inl (aC 1, 7, .inl (fun _ => 0))), (q4, .inl (aC 4, 5, .inr (.inr (.inr (.inr (fun _ => none)))))), (q5, .inr (1, [.ref b8, .ref r9, .int 0])), (b8, .inl (aC 0, 128, .inl (fun _ => 0))), (r9, .inl (aC 1, 128, .inl (fun _ => 0))), (q10, .inr (1, [.ref b13, .ref r14, .int 0])), (b13, .inl (aC 0, 128, .inl (fun _ => 0))), (r14, .inl (aC 1, 128, .inl (fun _ => 0))), (q15, .inr (1, [.ref b18, .ref r19, .int 0])), (b18, .inl (aC 0, 128, .inl (fun _ => 0))), (r19, .inl (aC 1, 128, .inl (fun _ => 0))), (q26, .inr (4, [.ref q20, .ref (u27.1), .ref (u27.2.1), .ref (u27.2.2.1), .ref (u27.2.2.2)])), ((u27.2.2.2), .inl (aC 2, 256, .inr (.inl (fun _ => 0)))), (q32, .inr (6, [.ref q29, .ref u33])), (q47, .inr (1, [.ref b50, .ref r51, .int 0])), (b50, .inl (aC 0, 128, .inl (fun _ => 0))), (r51, .inl (aC 1, 128, .inl (fun _ => 0)))] H := hP
  have hD : va_D A [(h0, .inr (11, [.ref q1, .ref q4, .int 0, .ref q5, .ref q10, .ref q15, .ref q20, .ref q23, .ref q26, .ref q29, .ref q32, .ref q35, .ref q38, .ref q41, .ref q44])), (q1, .inr (0, [.ref u2, .int 0, .int 0])), (u2, .inl (aC 1, 7, .inl (fun _ => 0))), (q4, .inl (aC 4, 5, .inr (.inr (.inr (.inr (fun _ => none)))))), (q5, .inr (1, [.ref b8, .ref r9, .int 0])), (b8, .inl (aC 0, 128, .inl (fun _ => 0))), (r9, .inl (aC 1, 128, .inl (fun _ => 0))), (q10, .inr (1, [.ref b13, .ref r14, .int 0])), (b13, .inl (aC 0, 128, .inl (fun _ => 0))), (r14, .inl (aC 1, 128, .inl (fun _ => 0))), (q15, .inr (1, [.ref b18, .ref r19, .int 0])), (b18, .inl (aC 0, 128, .inl (fun _ => 0))), (r19, .inl (aC 1, 128, .inl (fun _ => 0))), (q26, .inr (4, [.ref q20, .ref (u27.1), .ref (u27.2.1), .ref (u27.2.2.1), .ref (u27.2.2.2)])), ((u27.2.2.2), .inl (aC 2, 256, .inr (.inl (fun _ => 0)))), (q32, .inr (6, [.ref q29, .ref u33])), (q47, .inr (1, [.ref b50, .ref r51, .int 0])), (b50, .inl (aC 0, 128, .inl (fun _ => 0))), (r51, .inl (aC 1, 128, .inl (fun _ => 0)))] := hD
  refine va_astq (r := (RX7, TX7, 3)) hx hb hK hP hD hS 3 4 16 1 rfl rfl rfl rfl (vp_in_nI (n := 0) (N := 5) (by decide) (by decide)) dX11_init_190 (fun H locs hP hD hS => ?_)
  have hP : va_P (dC, dI) rfCl [(h0, .inr (11, [.ref q1, .ref q4, .int 0, .ref q5, .ref q10, .ref q15, .ref q20, .ref q23, .ref q26, .ref q29, .ref q32, .ref q35, .ref q38, .ref q41, .ref q44])), (q1, .inr (0, [.ref u2, .int 0, .int 0])), (u2, .inl (aC 1, 7, .inl (fun _ => 0))), (q4, .inl (aC 4, 5, .inr (.inr (.inr (.inr (va_up (fun _ => none) ((0 : Int32)).toNatClampNeg (some q47))))))), (q5, .inr (1, [.ref b8, .ref r9, .int 0])), (b8, .inl (aC 0, 128, .inl (fun _ => 0))), (r9, .inl (aC 1, 128, .inl (fun _ => 0))), (q10, .inr (1, [.ref b13, .ref r14, .int 0])), (b13, .inl (aC 0, 128, .inl (fun _ => 0))), (r14, .inl (aC 1, 128, .inl (fun _ => 0))), (q15, .inr (1, [.ref b18, .ref r19, .int 0])), (b18, .inl (aC 0, 128, .inl (fun _ => 0))), (r19, .inl (aC 1, 128, .inl (fun _ => 0))), (q26, .inr (4, [.ref q20, .ref (u27.1), .ref (u27.2.1), .ref (u27.2.2.1), .ref (u27.2.2.2)])), ((u27.2.2.2), .inl (aC 2, 256, .inr (.inl (fun _ => 0)))), (q32, .inr (6, [.ref q29, .ref u33])), (q47, .inr (1, [.ref b50, .ref r51, .int 0])), (b50, .inl (aC 0, 128, .inl (fun _ => 0))), (r51, .inl (aC 1, 128, .inl (fun _ => 0)))] H := hP
  have hD : va_D A [(h0, .inr (11, [.ref q1, .ref q4, .int 0, .ref q5, .ref q10, .ref q15, .ref q20, .ref q23, .ref q26, .ref q29, .ref q32, .ref q35, .ref q38, .ref q41, .ref q44])), (q1, .inr (0, [.ref u2, .int 0, .int 0])), (u2, .inl (aC 1, 7, .inl (fun _ => 0))), (q4, .inl (aC 4, 5, .inr (.inr (.inr (.inr (va_up (fun _ => none) ((0 : Int32)).toNatClampNeg (some q47))))))), (q5, .inr (1, [.ref b8, .ref r9, .int 0])), (b8, .inl (aC 0, 128, .inl (fun _ => 0))), (r9, .inl (aC 1, 128, .inl (fun _ => 0))), (q10, .inr (1, [.ref b13, .ref r14, .int 0])), (b13, .inl (aC 0, 128, .inl (fun _ => 0))), (r14, .inl (aC 1, 128, .inl (fun _ => 0))), (q15, .inr (1, [.ref b18, .ref r19, .int 0])), (b18, .inl (aC 0, 128, .inl (fun _ => 0))), (r19, .inl (aC 1, 128, .inl (fun _ => 0))), (q26, .inr (4, [.ref q20, .ref (u27.1), .ref (u27.2.1), .ref (u27.2.2.1), .ref (u27.2.2.2)])), ((u27.2.2.2), .inl (aC 2, 256, .inr (.inl (fun _ => 0)))), (q32, .inr (6, [.ref q29, .ref u33])), (q47, .inr (1, [.ref b50, .ref r51, .int 0])), (b50, .inl (aC 0, 128, .inl (fun _ => 0))), (r51, .inl (aC 1, 128, .inl (fun _ => 0)))] := hD
  obtain ⟨i1, ei1⟩ : ∃ y : Int32, y = 0 + (1) := ⟨_, rfl⟩
  refine lv_iinc (v := i1) (lv' := [(1, .int i1), (0, .ref h0)]) hx hb dX11_init_191 hl (k := 0) rfl (by rw [ei1]; rfl) (by decide) rfl (fun ls hl => ?_)
  have hi9 : i1 = 1 := by rw [ei1]; decide
  subst hi9
  refine lv_goto (tgt := 169) hx hb dX11_init_194 (by decide) ?_
  refine lv_iload_n hx hb dX11_init_169 rfl (lv_at hl 0 rfl) ?_
  refine lv_aload_n hx hb dX11_init_170 rfl (lv_at hl 1 rfl) ?_
  refine va_get (D := (dC, dI)) (ci := 11) (v := .ref q4) (C := RX11) (T := TX11) (N := 15) hx hb hts (by decide +kernel) hown hK hP 0 rfl rfl 1 (by decide) (hts (.fieldLink RX11 18 "Transversary" "families" "[LTransversary$Sets;") (by decide +kernel)) (fun _ h9 => h9) rfl dX11_init_171 ?_
  refine va_alen (v := 5) hx hb hK hP 3 4 rfl rfl rfl dX11_init_174 ?_
  refine lv_icmp_ge (tgt := 197) hx hb dX11_init_175 (by decide) (fun c9 => absurd c9 (by decide)) (fun _ => ?_)
  refine lv_aload_n hx hb dX11_init_178 rfl (lv_at hl 1 rfl) ?_
  refine va_get (D := (dC, dI)) (ci := 11) (v := .ref q4) (C := RX11) (T := TX11) (N := 15) hx hb hts (by decide +kernel) hown hK hP 0 rfl rfl 1 (by decide) (hts (.fieldLink RX11 18 "Transversary" "families" "[LTransversary$Sets;") (by decide +kernel)) (fun _ h9 => h9) rfl dX11_init_179 ?_
  refine lv_iload_n hx hb dX11_init_182 rfl (lv_at hl 0 rfl) ?_
  refine va_new (ci := 1) (fs := [.null, .null, .int 0]) (C := RX7) (T := TX7) (N := 3) hx hb hts (by decide +kernel) tyX7 tyX7_ok hown (hts (.classLink RX11 16 RX7) (by decide +kernel)) (hts (.instantiable RX7 3) (by decide +kernel)) (hts (.initialized RX7) (by decide +kernel)) hK hP hD hS hA rfl (fun j hj => by rcases (show j = 0 ∨ j = 1 ∨ j = 2 by omega) with rfl | rfl | rfl <;> rfl) (Nat.le_of_ble_eq_true rfl) (Nat.le_of_ble_eq_true rfl) dX11_init_183 (fun q52 H hP hD hS => ?_)
  have hP : va_P (dC, dI) rfCl [(h0, .inr (11, [.ref q1, .ref q4, .int 0, .ref q5, .ref q10, .ref q15, .ref q20, .ref q23, .ref q26, .ref q29, .ref q32, .ref q35, .ref q38, .ref q41, .ref q44])), (q1, .inr (0, [.ref u2, .int 0, .int 0])), (u2, .inl (aC 1, 7, .inl (fun _ => 0))), (q4, .inl (aC 4, 5, .inr (.inr (.inr (.inr (va_up (fun _ => none) ((0 : Int32)).toNatClampNeg (some q47))))))), (q5, .inr (1, [.ref b8, .ref r9, .int 0])), (b8, .inl (aC 0, 128, .inl (fun _ => 0))), (r9, .inl (aC 1, 128, .inl (fun _ => 0))), (q10, .inr (1, [.ref b13, .ref r14, .int 0])), (b13, .inl (aC 0, 128, .inl (fun _ => 0))), (r14, .inl (aC 1, 128, .inl (fun _ => 0))), (q15, .inr (1, [.ref b18, .ref r19, .int 0])), (b18, .inl (aC 0, 128, .inl (fun _ => 0))), (r19, .inl (aC 1, 128, .inl (fun _ => 0))), (q26, .inr (4, [.ref q20, .ref (u27.1), .ref (u27.2.1), .ref (u27.2.2.1), .ref (u27.2.2.2)])), ((u27.2.2.2), .inl (aC 2, 256, .inr (.inl (fun _ => 0)))), (q32, .inr (6, [.ref q29, .ref u33])), (q47, .inr (1, [.ref b50, .ref r51, .int 0])), (b50, .inl (aC 0, 128, .inl (fun _ => 0))), (r51, .inl (aC 1, 128, .inl (fun _ => 0))), (q52, .inr (1, [.null, .null, .int 0]))] H := hP
  have hD : va_D A [(h0, .inr (11, [.ref q1, .ref q4, .int 0, .ref q5, .ref q10, .ref q15, .ref q20, .ref q23, .ref q26, .ref q29, .ref q32, .ref q35, .ref q38, .ref q41, .ref q44])), (q1, .inr (0, [.ref u2, .int 0, .int 0])), (u2, .inl (aC 1, 7, .inl (fun _ => 0))), (q4, .inl (aC 4, 5, .inr (.inr (.inr (.inr (va_up (fun _ => none) ((0 : Int32)).toNatClampNeg (some q47))))))), (q5, .inr (1, [.ref b8, .ref r9, .int 0])), (b8, .inl (aC 0, 128, .inl (fun _ => 0))), (r9, .inl (aC 1, 128, .inl (fun _ => 0))), (q10, .inr (1, [.ref b13, .ref r14, .int 0])), (b13, .inl (aC 0, 128, .inl (fun _ => 0))), (r14, .inl (aC 1, 128, .inl (fun _ => 0))), (q15, .inr (1, [.ref b18, .ref r19, .int 0])), (b18, .inl (aC 0, 128, .inl (fun _ => 0))), (r19, .inl (aC 1, 128, .inl (fun _ => 0))), (q26, .inr (4, [.ref q20, .ref (u27.1), .ref (u27.2.1), .ref (u27.2.2.1), .ref (u27.2.2.2)])), ((u27.2.2.2), .inl (aC 2, 256, .inr (.inl (fun _ => 0)))), (q32, .inr (6, [.ref q29, .ref u33])), (q47, .inr (1, [.ref b50, .ref r51, .int 0])), (b50, .inl (aC 0, 128, .inl (fun _ => 0))), (r51, .inl (aC 1, 128, .inl (fun _ => 0))), (q52, .inr (1, [.null, .null, .int 0]))] := hD
  refine W.widen (k := 81) (n := 4926) (Nat.le_of_ble_eq_true rfl) (Nat.le_of_ble_eq_true rfl) ?_
  refine lv_dup hx hb dX11_init_186 rfl ?_
  have hPc := hP.sub (ws' := [(q52, .inr (1, [.null, .null, .int 0]))]) [19] rfl
  have hDc := hD.sub (ws' := [(q52, .inr (1, [.null, .null, .int 0]))]) [19] (by decide) rfl
  have hFc := va_free (wc := [(q52, .inr (1, [.null, .null, .int 0]))]) hD hS hA [19] rfl
  refine va_callv (va_runIN (As := []) (rest := [.ref q52, .int 1, .ref q4]) ⟨hx, hb, hml, hown, hts⟩ (c_X7_init l dC dI aC H.size q52) (⟨va_cnB 0 hts (goodIn_sub (by decide +kernel) (by decide +kernel)) rfl rfl rfl (rf_nst hN 8 (q := (RX11, 22, yX7_init, "Transversary")) rfl) (hts (.initialized RX7) (by decide +kernel)) (by decide +kernel) ⟨Nat.le_of_ble_eq_true rfl, Nat.le_of_ble_eq_true rfl⟩, rfl, hts (.instanceMethod yX7_init) (by decide +kernel)⟩) (rf_ps hK hN hPc hDc) rfl rfl hl.1 rfl (lv_room (Nat.le_of_ble_eq_true rfl)) dX11_init_187 ⟨Nat.le_of_ble_eq_true rfl, Nat.le_of_ble_eq_true rfl⟩) hS (fun q _ h => hFc q h) hFc (fun u53 t H1 locs ht hvm hwu53 hB hz1 hk1 hS => ?_)
  obtain ⟨hP1, hD1⟩ := hB
  rw [ht] at hP1
  try dsimp only at hwu53 hP1 hD1
  obtain ⟨hP, hD⟩ := va_join (wr := [(h0, .inr (11, [.ref q1, .ref q4, .int 0, .ref q5, .ref q10, .ref q15, .ref q20, .ref q23, .ref q26, .ref q29, .ref q32, .ref q35, .ref q38, .ref q41, .ref q44])), (q1, .inr (0, [.ref u2, .int 0, .int 0])), (u2, .inl (aC 1, 7, .inl (fun _ => 0))), (q4, .inl (aC 4, 5, .inr (.inr (.inr (.inr (va_up (fun _ => none) ((0 : Int32)).toNatClampNeg (some q47))))))), (q5, .inr (1, [.ref b8, .ref r9, .int 0])), (b8, .inl (aC 0, 128, .inl (fun _ => 0))), (r9, .inl (aC 1, 128, .inl (fun _ => 0))), (q10, .inr (1, [.ref b13, .ref r14, .int 0])), (b13, .inl (aC 0, 128, .inl (fun _ => 0))), (r14, .inl (aC 1, 128, .inl (fun _ => 0))), (q15, .inr (1, [.ref b18, .ref r19, .int 0])), (b18, .inl (aC 0, 128, .inl (fun _ => 0))), (r19, .inl (aC 1, 128, .inl (fun _ => 0))), (q26, .inr (4, [.ref q20, .ref (u27.1), .ref (u27.2.1), .ref (u27.2.2.1), .ref (u27.2.2.2)])), ((u27.2.2.2), .inl (aC 2, 256, .inr (.inl (fun _ => 0)))), (q32, .inr (6, [.ref q29, .ref u33])), (q47, .inr (1, [.ref b50, .ref r51, .int 0])), (b50, .inl (aC 0, 128, .inl (fun _ => 0))), (r51, .inl (aC 1, 128, .inl (fun _ => 0)))]) (w1 := [(q52, .inr (1, [.ref (u53.1), .ref (u53.2), .int 0])), ((u53.1), .inl (aC 0, 128, .inl (fun _ => 0))), ((u53.2), .inl (aC 1, 128, .inl (fun _ => 0)))]) hP hD [19] [0, 1, 2, 3, 4, 5, 6, 7, 8, 9, 10, 11, 12, 13, 14, 15, 16, 17, 18] rfl rfl (by decide) (by decide) hk1 hFc hP1 hD1
  clear hP1 hD1 hPc hDc hFc
  generalize H1 = H at hP hS ⊢
  have hP : va_P (dC, dI) rfCl [(h0, .inr (11, [.ref q1, .ref q4, .int 0, .ref q5, .ref q10, .ref q15, .ref q20, .ref q23, .ref q26, .ref q29, .ref q32, .ref q35, .ref q38, .ref q41, .ref q44])), (q1, .inr (0, [.ref u2, .int 0, .int 0])), (u2, .inl (aC 1, 7, .inl (fun _ => 0))), (q4, .inl (aC 4, 5, .inr (.inr (.inr (.inr (va_up (fun _ => none) ((0 : Int32)).toNatClampNeg (some q47))))))), (q5, .inr (1, [.ref b8, .ref r9, .int 0])), (b8, .inl (aC 0, 128, .inl (fun _ => 0))), (r9, .inl (aC 1, 128, .inl (fun _ => 0))), (q10, .inr (1, [.ref b13, .ref r14, .int 0])), (b13, .inl (aC 0, 128, .inl (fun _ => 0))), (r14, .inl (aC 1, 128, .inl (fun _ => 0))), (q15, .inr (1, [.ref b18, .ref r19, .int 0])), (b18, .inl (aC 0, 128, .inl (fun _ => 0))), (r19, .inl (aC 1, 128, .inl (fun _ => 0))), (q26, .inr (4, [.ref q20, .ref (u27.1), .ref (u27.2.1), .ref (u27.2.2.1), .ref (u27.2.2.2)])), ((u27.2.2.2), .inl (aC 2, 256, .inr (.inl (fun _ => 0)))), (q32, .inr (6, [.ref q29, .ref u33])), (q47, .inr (1, [.ref b50, .ref r51, .int 0])), (b50, .inl (aC 0, 128, .inl (fun _ => 0))), (r51, .inl (aC 1, 128, .inl (fun _ => 0))), (q52, .inr (1, [.ref (u53.1), .ref (u53.2), .int 0])), ((u53.1), .inl (aC 0, 128, .inl (fun _ => 0))), ((u53.2), .inl (aC 1, 128, .inl (fun _ => 0)))] H := hP
  have hD : va_D A [(h0, .inr (11, [.ref q1, .ref q4, .int 0, .ref q5, .ref q10, .ref q15, .ref q20, .ref q23, .ref q26, .ref q29, .ref q32, .ref q35, .ref q38, .ref q41, .ref q44])), (q1, .inr (0, [.ref u2, .int 0, .int 0])), (u2, .inl (aC 1, 7, .inl (fun _ => 0))), (q4, .inl (aC 4, 5, .inr (.inr (.inr (.inr (va_up (fun _ => none) ((0 : Int32)).toNatClampNeg (some q47))))))), (q5, .inr (1, [.ref b8, .ref r9, .int 0])), (b8, .inl (aC 0, 128, .inl (fun _ => 0))), (r9, .inl (aC 1, 128, .inl (fun _ => 0))), (q10, .inr (1, [.ref b13, .ref r14, .int 0])), (b13, .inl (aC 0, 128, .inl (fun _ => 0))), (r14, .inl (aC 1, 128, .inl (fun _ => 0))), (q15, .inr (1, [.ref b18, .ref r19, .int 0])), (b18, .inl (aC 0, 128, .inl (fun _ => 0))), (r19, .inl (aC 1, 128, .inl (fun _ => 0))), (q26, .inr (4, [.ref q20, .ref (u27.1), .ref (u27.2.1), .ref (u27.2.2.1), .ref (u27.2.2.2)])), ((u27.2.2.2), .inl (aC 2, 256, .inr (.inl (fun _ => 0)))), (q32, .inr (6, [.ref q29, .ref u33])), (q47, .inr (1, [.ref b50, .ref r51, .int 0])), (b50, .inl (aC 0, 128, .inl (fun _ => 0))), (r51, .inl (aC 1, 128, .inl (fun _ => 0))), (q52, .inr (1, [.ref (u53.1), .ref (u53.2), .int 0])), ((u53.1), .inl (aC 0, 128, .inl (fun _ => 0))), ((u53.2), .inl (aC 1, 128, .inl (fun _ => 0)))] := hD
  refine W.widen (k := 83) (n := 5182) (Nat.le_of_ble_eq_true rfl) (Nat.le_of_ble_eq_true rfl) ?_
  obtain ⟨b55, r56⟩ := u53
  try dsimp only at hP hD
  have hP : va_P (dC, dI) rfCl [(h0, .inr (11, [.ref q1, .ref q4, .int 0, .ref q5, .ref q10, .ref q15, .ref q20, .ref q23, .ref q26, .ref q29, .ref q32, .ref q35, .ref q38, .ref q41, .ref q44])), (q1, .inr (0, [.ref u2, .int 0, .int 0])), (u2, .inl (aC 1, 7, .inl (fun _ => 0))), (q4, .inl (aC 4, 5, .inr (.inr (.inr (.inr (va_up (fun _ => none) ((0 : Int32)).toNatClampNeg (some q47))))))), (q5, .inr (1, [.ref b8, .ref r9, .int 0])), (b8, .inl (aC 0, 128, .inl (fun _ => 0))), (r9, .inl (aC 1, 128, .inl (fun _ => 0))), (q10, .inr (1, [.ref b13, .ref r14, .int 0])), (b13, .inl (aC 0, 128, .inl (fun _ => 0))), (r14, .inl (aC 1, 128, .inl (fun _ => 0))), (q15, .inr (1, [.ref b18, .ref r19, .int 0])), (b18, .inl (aC 0, 128, .inl (fun _ => 0))), (r19, .inl (aC 1, 128, .inl (fun _ => 0))), (q26, .inr (4, [.ref q20, .ref (u27.1), .ref (u27.2.1), .ref (u27.2.2.1), .ref (u27.2.2.2)])), ((u27.2.2.2), .inl (aC 2, 256, .inr (.inl (fun _ => 0)))), (q32, .inr (6, [.ref q29, .ref u33])), (q47, .inr (1, [.ref b50, .ref r51, .int 0])), (b50, .inl (aC 0, 128, .inl (fun _ => 0))), (r51, .inl (aC 1, 128, .inl (fun _ => 0))), (q52, .inr (1, [.ref b55, .ref r56, .int 0])), (b55, .inl (aC 0, 128, .inl (fun _ => 0))), (r56, .inl (aC 1, 128, .inl (fun _ => 0)))] H := hP
  have hD : va_D A [(h0, .inr (11, [.ref q1, .ref q4, .int 0, .ref q5, .ref q10, .ref q15, .ref q20, .ref q23, .ref q26, .ref q29, .ref q32, .ref q35, .ref q38, .ref q41, .ref q44])), (q1, .inr (0, [.ref u2, .int 0, .int 0])), (u2, .inl (aC 1, 7, .inl (fun _ => 0))), (q4, .inl (aC 4, 5, .inr (.inr (.inr (.inr (va_up (fun _ => none) ((0 : Int32)).toNatClampNeg (some q47))))))), (q5, .inr (1, [.ref b8, .ref r9, .int 0])), (b8, .inl (aC 0, 128, .inl (fun _ => 0))), (r9, .inl (aC 1, 128, .inl (fun _ => 0))), (q10, .inr (1, [.ref b13, .ref r14, .int 0])), (b13, .inl (aC 0, 128, .inl (fun _ => 0))), (r14, .inl (aC 1, 128, .inl (fun _ => 0))), (q15, .inr (1, [.ref b18, .ref r19, .int 0])), (b18, .inl (aC 0, 128, .inl (fun _ => 0))), (r19, .inl (aC 1, 128, .inl (fun _ => 0))), (q26, .inr (4, [.ref q20, .ref (u27.1), .ref (u27.2.1), .ref (u27.2.2.1), .ref (u27.2.2.2)])), ((u27.2.2.2), .inl (aC 2, 256, .inr (.inl (fun _ => 0)))), (q32, .inr (6, [.ref q29, .ref u33])), (q47, .inr (1, [.ref b50, .ref r51, .int 0])), (b50, .inl (aC 0, 128, .inl (fun _ => 0))), (r51, .inl (aC 1, 128, .inl (fun _ => 0))), (q52, .inr (1, [.ref b55, .ref r56, .int 0])), (b55, .inl (aC 0, 128, .inl (fun _ => 0))), (r56, .inl (aC 1, 128, .inl (fun _ => 0)))] := hD
  refine va_astq (r := (RX7, TX7, 3)) hx hb hK hP hD hS 3 4 19 1 rfl rfl rfl rfl (vp_in_nI (n := 1) (N := 5) (by decide) (by decide)) dX11_init_190 (fun H locs hP hD hS => ?_)
  have hP : va_P (dC, dI) rfCl [(h0, .inr (11, [.ref q1, .ref q4, .int 0, .ref q5, .ref q10, .ref q15, .ref q20, .ref q23, .ref q26, .ref q29, .ref q32, .ref q35, .ref q38, .ref q41, .ref q44])), (q1, .inr (0, [.ref u2, .int 0, .int 0])), (u2, .inl (aC 1, 7, .inl (fun _ => 0))), (q4, .inl (aC 4, 5, .inr (.inr (.inr (.inr (va_up (va_up (fun _ => none) ((0 : Int32)).toNatClampNeg (some q47)) ((1 : Int32)).toNatClampNeg (some q52))))))), (q5, .inr (1, [.ref b8, .ref r9, .int 0])), (b8, .inl (aC 0, 128, .inl (fun _ => 0))), (r9, .inl (aC 1, 128, .inl (fun _ => 0))), (q10, .inr (1, [.ref b13, .ref r14, .int 0])), (b13, .inl (aC 0, 128, .inl (fun _ => 0))), (r14, .inl (aC 1, 128, .inl (fun _ => 0))), (q15, .inr (1, [.ref b18, .ref r19, .int 0])), (b18, .inl (aC 0, 128, .inl (fun _ => 0))), (r19, .inl (aC 1, 128, .inl (fun _ => 0))), (q26, .inr (4, [.ref q20, .ref (u27.1), .ref (u27.2.1), .ref (u27.2.2.1), .ref (u27.2.2.2)])), ((u27.2.2.2), .inl (aC 2, 256, .inr (.inl (fun _ => 0)))), (q32, .inr (6, [.ref q29, .ref u33])), (q47, .inr (1, [.ref b50, .ref r51, .int 0])), (b50, .inl (aC 0, 128, .inl (fun _ => 0))), (r51, .inl (aC 1, 128, .inl (fun _ => 0))), (q52, .inr (1, [.ref b55, .ref r56, .int 0])), (b55, .inl (aC 0, 128, .inl (fun _ => 0))), (r56, .inl (aC 1, 128, .inl (fun _ => 0)))] H := hP
  have hD : va_D A [(h0, .inr (11, [.ref q1, .ref q4, .int 0, .ref q5, .ref q10, .ref q15, .ref q20, .ref q23, .ref q26, .ref q29, .ref q32, .ref q35, .ref q38, .ref q41, .ref q44])), (q1, .inr (0, [.ref u2, .int 0, .int 0])), (u2, .inl (aC 1, 7, .inl (fun _ => 0))), (q4, .inl (aC 4, 5, .inr (.inr (.inr (.inr (va_up (va_up (fun _ => none) ((0 : Int32)).toNatClampNeg (some q47)) ((1 : Int32)).toNatClampNeg (some q52))))))), (q5, .inr (1, [.ref b8, .ref r9, .int 0])), (b8, .inl (aC 0, 128, .inl (fun _ => 0))), (r9, .inl (aC 1, 128, .inl (fun _ => 0))), (q10, .inr (1, [.ref b13, .ref r14, .int 0])), (b13, .inl (aC 0, 128, .inl (fun _ => 0))), (r14, .inl (aC 1, 128, .inl (fun _ => 0))), (q15, .inr (1, [.ref b18, .ref r19, .int 0])), (b18, .inl (aC 0, 128, .inl (fun _ => 0))), (r19, .inl (aC 1, 128, .inl (fun _ => 0))), (q26, .inr (4, [.ref q20, .ref (u27.1), .ref (u27.2.1), .ref (u27.2.2.1), .ref (u27.2.2.2)])), ((u27.2.2.2), .inl (aC 2, 256, .inr (.inl (fun _ => 0)))), (q32, .inr (6, [.ref q29, .ref u33])), (q47, .inr (1, [.ref b50, .ref r51, .int 0])), (b50, .inl (aC 0, 128, .inl (fun _ => 0))), (r51, .inl (aC 1, 128, .inl (fun _ => 0))), (q52, .inr (1, [.ref b55, .ref r56, .int 0])), (b55, .inl (aC 0, 128, .inl (fun _ => 0))), (r56, .inl (aC 1, 128, .inl (fun _ => 0)))] := hD
  obtain ⟨i2, ei2⟩ : ∃ y : Int32, y = 1 + (1) := ⟨_, rfl⟩
  refine lv_iinc (v := i2) (lv' := [(1, .int i2), (0, .ref h0)]) hx hb dX11_init_191 hl (k := 0) rfl (by rw [ei2]; rfl) (by decide) rfl (fun ls hl => ?_)
  have hi9 : i2 = 2 := by rw [ei2]; decide
  subst hi9
  refine lv_goto (tgt := 169) hx hb dX11_init_194 (by decide) ?_
  refine lv_iload_n hx hb dX11_init_169 rfl (lv_at hl 0 rfl) ?_
  refine lv_aload_n hx hb dX11_init_170 rfl (lv_at hl 1 rfl) ?_
  refine va_get (D := (dC, dI)) (ci := 11) (v := .ref q4) (C := RX11) (T := TX11) (N := 15) hx hb hts (by decide +kernel) hown hK hP 0 rfl rfl 1 (by decide) (hts (.fieldLink RX11 18 "Transversary" "families" "[LTransversary$Sets;") (by decide +kernel)) (fun _ h9 => h9) rfl dX11_init_171 ?_
  refine va_alen (v := 5) hx hb hK hP 3 4 rfl rfl rfl dX11_init_174 ?_
  refine lv_icmp_ge (tgt := 197) hx hb dX11_init_175 (by decide) (fun c9 => absurd c9 (by decide)) (fun _ => ?_)
  refine lv_aload_n hx hb dX11_init_178 rfl (lv_at hl 1 rfl) ?_
  refine va_get (D := (dC, dI)) (ci := 11) (v := .ref q4) (C := RX11) (T := TX11) (N := 15) hx hb hts (by decide +kernel) hown hK hP 0 rfl rfl 1 (by decide) (hts (.fieldLink RX11 18 "Transversary" "families" "[LTransversary$Sets;") (by decide +kernel)) (fun _ h9 => h9) rfl dX11_init_179 ?_
  refine lv_iload_n hx hb dX11_init_182 rfl (lv_at hl 0 rfl) ?_
  refine va_new (ci := 1) (fs := [.null, .null, .int 0]) (C := RX7) (T := TX7) (N := 3) hx hb hts (by decide +kernel) tyX7 tyX7_ok hown (hts (.classLink RX11 16 RX7) (by decide +kernel)) (hts (.instantiable RX7 3) (by decide +kernel)) (hts (.initialized RX7) (by decide +kernel)) hK hP hD hS hA rfl (fun j hj => by rcases (show j = 0 ∨ j = 1 ∨ j = 2 by omega) with rfl | rfl | rfl <;> rfl) (Nat.le_of_ble_eq_true rfl) (Nat.le_of_ble_eq_true rfl) dX11_init_183 (fun q57 H hP hD hS => ?_)
  have hP : va_P (dC, dI) rfCl [(h0, .inr (11, [.ref q1, .ref q4, .int 0, .ref q5, .ref q10, .ref q15, .ref q20, .ref q23, .ref q26, .ref q29, .ref q32, .ref q35, .ref q38, .ref q41, .ref q44])), (q1, .inr (0, [.ref u2, .int 0, .int 0])), (u2, .inl (aC 1, 7, .inl (fun _ => 0))), (q4, .inl (aC 4, 5, .inr (.inr (.inr (.inr (va_up (va_up (fun _ => none) ((0 : Int32)).toNatClampNeg (some q47)) ((1 : Int32)).toNatClampNeg (some q52))))))), (q5, .inr (1, [.ref b8, .ref r9, .int 0])), (b8, .inl (aC 0, 128, .inl (fun _ => 0))), (r9, .inl (aC 1, 128, .inl (fun _ => 0))), (q10, .inr (1, [.ref b13, .ref r14, .int 0])), (b13, .inl (aC 0, 128, .inl (fun _ => 0))), (r14, .inl (aC 1, 128, .inl (fun _ => 0))), (q15, .inr (1, [.ref b18, .ref r19, .int 0])), (b18, .inl (aC 0, 128, .inl (fun _ => 0))), (r19, .inl (aC 1, 128, .inl (fun _ => 0))), (q26, .inr (4, [.ref q20, .ref (u27.1), .ref (u27.2.1), .ref (u27.2.2.1), .ref (u27.2.2.2)])), ((u27.2.2.2), .inl (aC 2, 256, .inr (.inl (fun _ => 0)))), (q32, .inr (6, [.ref q29, .ref u33])), (q47, .inr (1, [.ref b50, .ref r51, .int 0])), (b50, .inl (aC 0, 128, .inl (fun _ => 0))), (r51, .inl (aC 1, 128, .inl (fun _ => 0))), (q52, .inr (1, [.ref b55, .ref r56, .int 0])), (b55, .inl (aC 0, 128, .inl (fun _ => 0))), (r56, .inl (aC 1, 128, .inl (fun _ => 0))), (q57, .inr (1, [.null, .null, .int 0]))] H := hP
  have hD : va_D A [(h0, .inr (11, [.ref q1, .ref q4, .int 0, .ref q5, .ref q10, .ref q15, .ref q20, .ref q23, .ref q26, .ref q29, .ref q32, .ref q35, .ref q38, .ref q41, .ref q44])), (q1, .inr (0, [.ref u2, .int 0, .int 0])), (u2, .inl (aC 1, 7, .inl (fun _ => 0))), (q4, .inl (aC 4, 5, .inr (.inr (.inr (.inr (va_up (va_up (fun _ => none) ((0 : Int32)).toNatClampNeg (some q47)) ((1 : Int32)).toNatClampNeg (some q52))))))), (q5, .inr (1, [.ref b8, .ref r9, .int 0])), (b8, .inl (aC 0, 128, .inl (fun _ => 0))), (r9, .inl (aC 1, 128, .inl (fun _ => 0))), (q10, .inr (1, [.ref b13, .ref r14, .int 0])), (b13, .inl (aC 0, 128, .inl (fun _ => 0))), (r14, .inl (aC 1, 128, .inl (fun _ => 0))), (q15, .inr (1, [.ref b18, .ref r19, .int 0])), (b18, .inl (aC 0, 128, .inl (fun _ => 0))), (r19, .inl (aC 1, 128, .inl (fun _ => 0))), (q26, .inr (4, [.ref q20, .ref (u27.1), .ref (u27.2.1), .ref (u27.2.2.1), .ref (u27.2.2.2)])), ((u27.2.2.2), .inl (aC 2, 256, .inr (.inl (fun _ => 0)))), (q32, .inr (6, [.ref q29, .ref u33])), (q47, .inr (1, [.ref b50, .ref r51, .int 0])), (b50, .inl (aC 0, 128, .inl (fun _ => 0))), (r51, .inl (aC 1, 128, .inl (fun _ => 0))), (q52, .inr (1, [.ref b55, .ref r56, .int 0])), (b55, .inl (aC 0, 128, .inl (fun _ => 0))), (r56, .inl (aC 1, 128, .inl (fun _ => 0))), (q57, .inr (1, [.null, .null, .int 0]))] := hD
  refine W.widen (k := 84) (n := 5185) (Nat.le_of_ble_eq_true rfl) (Nat.le_of_ble_eq_true rfl) ?_
  refine lv_dup hx hb dX11_init_186 rfl ?_
  have hPc := hP.sub (ws' := [(q57, .inr (1, [.null, .null, .int 0]))]) [22] rfl
  have hDc := hD.sub (ws' := [(q57, .inr (1, [.null, .null, .int 0]))]) [22] (by decide) rfl
  have hFc := va_free (wc := [(q57, .inr (1, [.null, .null, .int 0]))]) hD hS hA [22] rfl
  refine va_callv (va_runIN (As := []) (rest := [.ref q57, .int 2, .ref q4]) ⟨hx, hb, hml, hown, hts⟩ (c_X7_init l dC dI aC H.size q57) (⟨va_cnB 0 hts (goodIn_sub (by decide +kernel) (by decide +kernel)) rfl rfl rfl (rf_nst hN 8 (q := (RX11, 22, yX7_init, "Transversary")) rfl) (hts (.initialized RX7) (by decide +kernel)) (by decide +kernel) ⟨Nat.le_of_ble_eq_true rfl, Nat.le_of_ble_eq_true rfl⟩, rfl, hts (.instanceMethod yX7_init) (by decide +kernel)⟩) (rf_ps hK hN hPc hDc) rfl rfl hl.1 rfl (lv_room (Nat.le_of_ble_eq_true rfl)) dX11_init_187 ⟨Nat.le_of_ble_eq_true rfl, Nat.le_of_ble_eq_true rfl⟩) hS (fun q _ h => hFc q h) hFc (fun u58 t H1 locs ht hvm hwu58 hB hz1 hk1 hS => ?_)
  obtain ⟨hP1, hD1⟩ := hB
  rw [ht] at hP1
  try dsimp only at hwu58 hP1 hD1
  obtain ⟨hP, hD⟩ := va_join (wr := [(h0, .inr (11, [.ref q1, .ref q4, .int 0, .ref q5, .ref q10, .ref q15, .ref q20, .ref q23, .ref q26, .ref q29, .ref q32, .ref q35, .ref q38, .ref q41, .ref q44])), (q1, .inr (0, [.ref u2, .int 0, .int 0])), (u2, .inl (aC 1, 7, .inl (fun _ => 0))), (q4, .inl (aC 4, 5, .inr (.inr (.inr (.inr (va_up (va_up (fun _ => none) ((0 : Int32)).toNatClampNeg (some q47)) ((1 : Int32)).toNatClampNeg (some q52))))))), (q5, .inr (1, [.ref b8, .ref r9, .int 0])), (b8, .inl (aC 0, 128, .inl (fun _ => 0))), (r9, .inl (aC 1, 128, .inl (fun _ => 0))), (q10, .inr (1, [.ref b13, .ref r14, .int 0])), (b13, .inl (aC 0, 128, .inl (fun _ => 0))), (r14, .inl (aC 1, 128, .inl (fun _ => 0))), (q15, .inr (1, [.ref b18, .ref r19, .int 0])), (b18, .inl (aC 0, 128, .inl (fun _ => 0))), (r19, .inl (aC 1, 128, .inl (fun _ => 0))), (q26, .inr (4, [.ref q20, .ref (u27.1), .ref (u27.2.1), .ref (u27.2.2.1), .ref (u27.2.2.2)])), ((u27.2.2.2), .inl (aC 2, 256, .inr (.inl (fun _ => 0)))), (q32, .inr (6, [.ref q29, .ref u33])), (q47, .inr (1, [.ref b50, .ref r51, .int 0])), (b50, .inl (aC 0, 128, .inl (fun _ => 0))), (r51, .inl (aC 1, 128, .inl (fun _ => 0))), (q52, .inr (1, [.ref b55, .ref r56, .int 0])), (b55, .inl (aC 0, 128, .inl (fun _ => 0))), (r56, .inl (aC 1, 128, .inl (fun _ => 0)))]) (w1 := [(q57, .inr (1, [.ref (u58.1), .ref (u58.2), .int 0])), ((u58.1), .inl (aC 0, 128, .inl (fun _ => 0))), ((u58.2), .inl (aC 1, 128, .inl (fun _ => 0)))]) hP hD [22] [0, 1, 2, 3, 4, 5, 6, 7, 8, 9, 10, 11, 12, 13, 14, 15, 16, 17, 18, 19, 20, 21] rfl rfl (by decide) (by decide) hk1 hFc hP1 hD1
  clear hP1 hD1 hPc hDc hFc
  generalize H1 = H at hP hS ⊢
  have hP : va_P (dC, dI) rfCl [(h0, .inr (11, [.ref q1, .ref q4, .int 0, .ref q5, .ref q10, .ref q15, .ref q20, .ref q23, .ref q26, .ref q29, .ref q32, .ref q35, .ref q38, .ref q41, .ref q44])), (q1, .inr (0, [.ref u2, .int 0, .int 0])), (u2, .inl (aC 1, 7, .inl (fun _ => 0))), (q4, .inl (aC 4, 5, .inr (.inr (.inr (.inr (va_up (va_up (fun _ => none) ((0 : Int32)).toNatClampNeg (some q47)) ((1 : Int32)).toNatClampNeg (some q52))))))), (q5, .inr (1, [.ref b8, .ref r9, .int 0])), (b8, .inl (aC 0, 128, .inl (fun _ => 0))), (r9, .inl (aC 1, 128, .inl (fun _ => 0))), (q10, .inr (1, [.ref b13, .ref r14, .int 0])), (b13, .inl (aC 0, 128, .inl (fun _ => 0))), (r14, .inl (aC 1, 128, .inl (fun _ => 0))), (q15, .inr (1, [.ref b18, .ref r19, .int 0])), (b18, .inl (aC 0, 128, .inl (fun _ => 0))), (r19, .inl (aC 1, 128, .inl (fun _ => 0))), (q26, .inr (4, [.ref q20, .ref (u27.1), .ref (u27.2.1), .ref (u27.2.2.1), .ref (u27.2.2.2)])), ((u27.2.2.2), .inl (aC 2, 256, .inr (.inl (fun _ => 0)))), (q32, .inr (6, [.ref q29, .ref u33])), (q47, .inr (1, [.ref b50, .ref r51, .int 0])), (b50, .inl (aC 0, 128, .inl (fun _ => 0))), (r51, .inl (aC 1, 128, .inl (fun _ => 0))), (q52, .inr (1, [.ref b55, .ref r56, .int 0])), (b55, .inl (aC 0, 128, .inl (fun _ => 0))), (r56, .inl (aC 1, 128, .inl (fun _ => 0))), (q57, .inr (1, [.ref (u58.1), .ref (u58.2), .int 0])), ((u58.1), .inl (aC 0, 128, .inl (fun _ => 0))), ((u58.2), .inl (aC 1, 128, .inl (fun _ => 0)))] H := hP
  have hD : va_D A [(h0, .inr (11, [.ref q1, .ref q4, .int 0, .ref q5, .ref q10, .ref q15, .ref q20, .ref q23, .ref q26, .ref q29, .ref q32, .ref q35, .ref q38, .ref q41, .ref q44])), (q1, .inr (0, [.ref u2, .int 0, .int 0])), (u2, .inl (aC 1, 7, .inl (fun _ => 0))), (q4, .inl (aC 4, 5, .inr (.inr (.inr (.inr (va_up (va_up (fun _ => none) ((0 : Int32)).toNatClampNeg (some q47)) ((1 : Int32)).toNatClampNeg (some q52))))))), (q5, .inr (1, [.ref b8, .ref r9, .int 0])), (b8, .inl (aC 0, 128, .inl (fun _ => 0))), (r9, .inl (aC 1, 128, .inl (fun _ => 0))), (q10, .inr (1, [.ref b13, .ref r14, .int 0])), (b13, .inl (aC 0, 128, .inl (fun _ => 0))), (r14, .inl (aC 1, 128, .inl (fun _ => 0))), (q15, .inr (1, [.ref b18, .ref r19, .int 0])), (b18, .inl (aC 0, 128, .inl (fun _ => 0))), (r19, .inl (aC 1, 128, .inl (fun _ => 0))), (q26, .inr (4, [.ref q20, .ref (u27.1), .ref (u27.2.1), .ref (u27.2.2.1), .ref (u27.2.2.2)])), ((u27.2.2.2), .inl (aC 2, 256, .inr (.inl (fun _ => 0)))), (q32, .inr (6, [.ref q29, .ref u33])), (q47, .inr (1, [.ref b50, .ref r51, .int 0])), (b50, .inl (aC 0, 128, .inl (fun _ => 0))), (r51, .inl (aC 1, 128, .inl (fun _ => 0))), (q52, .inr (1, [.ref b55, .ref r56, .int 0])), (b55, .inl (aC 0, 128, .inl (fun _ => 0))), (r56, .inl (aC 1, 128, .inl (fun _ => 0))), (q57, .inr (1, [.ref (u58.1), .ref (u58.2), .int 0])), ((u58.1), .inl (aC 0, 128, .inl (fun _ => 0))), ((u58.2), .inl (aC 1, 128, .inl (fun _ => 0)))] := hD
  refine W.widen (k := 86) (n := 5441) (Nat.le_of_ble_eq_true rfl) (Nat.le_of_ble_eq_true rfl) ?_
  obtain ⟨b60, r61⟩ := u58
  try dsimp only at hP hD
  have hP : va_P (dC, dI) rfCl [(h0, .inr (11, [.ref q1, .ref q4, .int 0, .ref q5, .ref q10, .ref q15, .ref q20, .ref q23, .ref q26, .ref q29, .ref q32, .ref q35, .ref q38, .ref q41, .ref q44])), (q1, .inr (0, [.ref u2, .int 0, .int 0])), (u2, .inl (aC 1, 7, .inl (fun _ => 0))), (q4, .inl (aC 4, 5, .inr (.inr (.inr (.inr (va_up (va_up (fun _ => none) ((0 : Int32)).toNatClampNeg (some q47)) ((1 : Int32)).toNatClampNeg (some q52))))))), (q5, .inr (1, [.ref b8, .ref r9, .int 0])), (b8, .inl (aC 0, 128, .inl (fun _ => 0))), (r9, .inl (aC 1, 128, .inl (fun _ => 0))), (q10, .inr (1, [.ref b13, .ref r14, .int 0])), (b13, .inl (aC 0, 128, .inl (fun _ => 0))), (r14, .inl (aC 1, 128, .inl (fun _ => 0))), (q15, .inr (1, [.ref b18, .ref r19, .int 0])), (b18, .inl (aC 0, 128, .inl (fun _ => 0))), (r19, .inl (aC 1, 128, .inl (fun _ => 0))), (q26, .inr (4, [.ref q20, .ref (u27.1), .ref (u27.2.1), .ref (u27.2.2.1), .ref (u27.2.2.2)])), ((u27.2.2.2), .inl (aC 2, 256, .inr (.inl (fun _ => 0)))), (q32, .inr (6, [.ref q29, .ref u33])), (q47, .inr (1, [.ref b50, .ref r51, .int 0])), (b50, .inl (aC 0, 128, .inl (fun _ => 0))), (r51, .inl (aC 1, 128, .inl (fun _ => 0))), (q52, .inr (1, [.ref b55, .ref r56, .int 0])), (b55, .inl (aC 0, 128, .inl (fun _ => 0))), (r56, .inl (aC 1, 128, .inl (fun _ => 0))), (q57, .inr (1, [.ref b60, .ref r61, .int 0])), (b60, .inl (aC 0, 128, .inl (fun _ => 0))), (r61, .inl (aC 1, 128, .inl (fun _ => 0)))] H := hP
  have hD : va_D A [(h0, .inr (11, [.ref q1, .ref q4, .int 0, .ref q5, .ref q10, .ref q15, .ref q20, .ref q23, .ref q26, .ref q29, .ref q32, .ref q35, .ref q38, .ref q41, .ref q44])), (q1, .inr (0, [.ref u2, .int 0, .int 0])), (u2, .inl (aC 1, 7, .inl (fun _ => 0))), (q4, .inl (aC 4, 5, .inr (.inr (.inr (.inr (va_up (va_up (fun _ => none) ((0 : Int32)).toNatClampNeg (some q47)) ((1 : Int32)).toNatClampNeg (some q52))))))), (q5, .inr (1, [.ref b8, .ref r9, .int 0])), (b8, .inl (aC 0, 128, .inl (fun _ => 0))), (r9, .inl (aC 1, 128, .inl (fun _ => 0))), (q10, .inr (1, [.ref b13, .ref r14, .int 0])), (b13, .inl (aC 0, 128, .inl (fun _ => 0))), (r14, .inl (aC 1, 128, .inl (fun _ => 0))), (q15, .inr (1, [.ref b18, .ref r19, .int 0])), (b18, .inl (aC 0, 128, .inl (fun _ => 0))), (r19, .inl (aC 1, 128, .inl (fun _ => 0))), (q26, .inr (4, [.ref q20, .ref (u27.1), .ref (u27.2.1), .ref (u27.2.2.1), .ref (u27.2.2.2)])), ((u27.2.2.2), .inl (aC 2, 256, .inr (.inl (fun _ => 0)))), (q32, .inr (6, [.ref q29, .ref u33])), (q47, .inr (1, [.ref b50, .ref r51, .int 0])), (b50, .inl (aC 0, 128, .inl (fun _ => 0))), (r51, .inl (aC 1, 128, .inl (fun _ => 0))), (q52, .inr (1, [.ref b55, .ref r56, .int 0])), (b55, .inl (aC 0, 128, .inl (fun _ => 0))), (r56, .inl (aC 1, 128, .inl (fun _ => 0))), (q57, .inr (1, [.ref b60, .ref r61, .int 0])), (b60, .inl (aC 0, 128, .inl (fun _ => 0))), (r61, .inl (aC 1, 128, .inl (fun _ => 0)))] := hD
  refine va_astq (r := (RX7, TX7, 3)) hx hb hK hP hD hS 3 4 22 1 rfl rfl rfl rfl (vp_in_nI (n := 2) (N := 5) (by decide) (by decide)) dX11_init_190 (fun H locs hP hD hS => ?_)
  have hP : va_P (dC, dI) rfCl [(h0, .inr (11, [.ref q1, .ref q4, .int 0, .ref q5, .ref q10, .ref q15, .ref q20, .ref q23, .ref q26, .ref q29, .ref q32, .ref q35, .ref q38, .ref q41, .ref q44])), (q1, .inr (0, [.ref u2, .int 0, .int 0])), (u2, .inl (aC 1, 7, .inl (fun _ => 0))), (q4, .inl (aC 4, 5, .inr (.inr (.inr (.inr (va_up (va_up (va_up (fun _ => none) ((0 : Int32)).toNatClampNeg (some q47)) ((1 : Int32)).toNatClampNeg (some q52)) ((2 : Int32)).toNatClampNeg (some q57))))))), (q5, .inr (1, [.ref b8, .ref r9, .int 0])), (b8, .inl (aC 0, 128, .inl (fun _ => 0))), (r9, .inl (aC 1, 128, .inl (fun _ => 0))), (q10, .inr (1, [.ref b13, .ref r14, .int 0])), (b13, .inl (aC 0, 128, .inl (fun _ => 0))), (r14, .inl (aC 1, 128, .inl (fun _ => 0))), (q15, .inr (1, [.ref b18, .ref r19, .int 0])), (b18, .inl (aC 0, 128, .inl (fun _ => 0))), (r19, .inl (aC 1, 128, .inl (fun _ => 0))), (q26, .inr (4, [.ref q20, .ref (u27.1), .ref (u27.2.1), .ref (u27.2.2.1), .ref (u27.2.2.2)])), ((u27.2.2.2), .inl (aC 2, 256, .inr (.inl (fun _ => 0)))), (q32, .inr (6, [.ref q29, .ref u33])), (q47, .inr (1, [.ref b50, .ref r51, .int 0])), (b50, .inl (aC 0, 128, .inl (fun _ => 0))), (r51, .inl (aC 1, 128, .inl (fun _ => 0))), (q52, .inr (1, [.ref b55, .ref r56, .int 0])), (b55, .inl (aC 0, 128, .inl (fun _ => 0))), (r56, .inl (aC 1, 128, .inl (fun _ => 0))), (q57, .inr (1, [.ref b60, .ref r61, .int 0])), (b60, .inl (aC 0, 128, .inl (fun _ => 0))), (r61, .inl (aC 1, 128, .inl (fun _ => 0)))] H := hP
  have hD : va_D A [(h0, .inr (11, [.ref q1, .ref q4, .int 0, .ref q5, .ref q10, .ref q15, .ref q20, .ref q23, .ref q26, .ref q29, .ref q32, .ref q35, .ref q38, .ref q41, .ref q44])), (q1, .inr (0, [.ref u2, .int 0, .int 0])), (u2, .inl (aC 1, 7, .inl (fun _ => 0))), (q4, .inl (aC 4, 5, .inr (.inr (.inr (.inr (va_up (va_up (va_up (fun _ => none) ((0 : Int32)).toNatClampNeg (some q47)) ((1 : Int32)).toNatClampNeg (some q52)) ((2 : Int32)).toNatClampNeg (some q57))))))), (q5, .inr (1, [.ref b8, .ref r9, .int 0])), (b8, .inl (aC 0, 128, .inl (fun _ => 0))), (r9, .inl (aC 1, 128, .inl (fun _ => 0))), (q10, .inr (1, [.ref b13, .ref r14, .int 0])), (b13, .inl (aC 0, 128, .inl (fun _ => 0))), (r14, .inl (aC 1, 128, .inl (fun _ => 0))), (q15, .inr (1, [.ref b18, .ref r19, .int 0])), (b18, .inl (aC 0, 128, .inl (fun _ => 0))), (r19, .inl (aC 1, 128, .inl (fun _ => 0))), (q26, .inr (4, [.ref q20, .ref (u27.1), .ref (u27.2.1), .ref (u27.2.2.1), .ref (u27.2.2.2)])), ((u27.2.2.2), .inl (aC 2, 256, .inr (.inl (fun _ => 0)))), (q32, .inr (6, [.ref q29, .ref u33])), (q47, .inr (1, [.ref b50, .ref r51, .int 0])), (b50, .inl (aC 0, 128, .inl (fun _ => 0))), (r51, .inl (aC 1, 128, .inl (fun _ => 0))), (q52, .inr (1, [.ref b55, .ref r56, .int 0])), (b55, .inl (aC 0, 128, .inl (fun _ => 0))), (r56, .inl (aC 1, 128, .inl (fun _ => 0))), (q57, .inr (1, [.ref b60, .ref r61, .int 0])), (b60, .inl (aC 0, 128, .inl (fun _ => 0))), (r61, .inl (aC 1, 128, .inl (fun _ => 0)))] := hD
  obtain ⟨i3, ei3⟩ : ∃ y : Int32, y = 2 + (1) := ⟨_, rfl⟩
  refine lv_iinc (v := i3) (lv' := [(1, .int i3), (0, .ref h0)]) hx hb dX11_init_191 hl (k := 0) rfl (by rw [ei3]; rfl) (by decide) rfl (fun ls hl => ?_)
  have hi9 : i3 = 3 := by rw [ei3]; decide
  subst hi9
  refine lv_goto (tgt := 169) hx hb dX11_init_194 (by decide) ?_
  refine lv_iload_n hx hb dX11_init_169 rfl (lv_at hl 0 rfl) ?_
  refine lv_aload_n hx hb dX11_init_170 rfl (lv_at hl 1 rfl) ?_
  refine va_get (D := (dC, dI)) (ci := 11) (v := .ref q4) (C := RX11) (T := TX11) (N := 15) hx hb hts (by decide +kernel) hown hK hP 0 rfl rfl 1 (by decide) (hts (.fieldLink RX11 18 "Transversary" "families" "[LTransversary$Sets;") (by decide +kernel)) (fun _ h9 => h9) rfl dX11_init_171 ?_
  refine va_alen (v := 5) hx hb hK hP 3 4 rfl rfl rfl dX11_init_174 ?_
  refine lv_icmp_ge (tgt := 197) hx hb dX11_init_175 (by decide) (fun c9 => absurd c9 (by decide)) (fun _ => ?_)
  refine lv_aload_n hx hb dX11_init_178 rfl (lv_at hl 1 rfl) ?_
  refine va_get (D := (dC, dI)) (ci := 11) (v := .ref q4) (C := RX11) (T := TX11) (N := 15) hx hb hts (by decide +kernel) hown hK hP 0 rfl rfl 1 (by decide) (hts (.fieldLink RX11 18 "Transversary" "families" "[LTransversary$Sets;") (by decide +kernel)) (fun _ h9 => h9) rfl dX11_init_179 ?_
  refine lv_iload_n hx hb dX11_init_182 rfl (lv_at hl 0 rfl) ?_
  refine va_new (ci := 1) (fs := [.null, .null, .int 0]) (C := RX7) (T := TX7) (N := 3) hx hb hts (by decide +kernel) tyX7 tyX7_ok hown (hts (.classLink RX11 16 RX7) (by decide +kernel)) (hts (.instantiable RX7 3) (by decide +kernel)) (hts (.initialized RX7) (by decide +kernel)) hK hP hD hS hA rfl (fun j hj => by rcases (show j = 0 ∨ j = 1 ∨ j = 2 by omega) with rfl | rfl | rfl <;> rfl) (Nat.le_of_ble_eq_true rfl) (Nat.le_of_ble_eq_true rfl) dX11_init_183 (fun q62 H hP hD hS => ?_)
  have hP : va_P (dC, dI) rfCl [(h0, .inr (11, [.ref q1, .ref q4, .int 0, .ref q5, .ref q10, .ref q15, .ref q20, .ref q23, .ref q26, .ref q29, .ref q32, .ref q35, .ref q38, .ref q41, .ref q44])), (q1, .inr (0, [.ref u2, .int 0, .int 0])), (u2, .inl (aC 1, 7, .inl (fun _ => 0))), (q4, .inl (aC 4, 5, .inr (.inr (.inr (.inr (va_up (va_up (va_up (fun _ => none) ((0 : Int32)).toNatClampNeg (some q47)) ((1 : Int32)).toNatClampNeg (some q52)) ((2 : Int32)).toNatClampNeg (some q57))))))), (q5, .inr (1, [.ref b8, .ref r9, .int 0])), (b8, .inl (aC 0, 128, .inl (fun _ => 0))), (r9, .inl (aC 1, 128, .inl (fun _ => 0))), (q10, .inr (1, [.ref b13, .ref r14, .int 0])), (b13, .inl (aC 0, 128, .inl (fun _ => 0))), (r14, .inl (aC 1, 128, .inl (fun _ => 0))), (q15, .inr (1, [.ref b18, .ref r19, .int 0])), (b18, .inl (aC 0, 128, .inl (fun _ => 0))), (r19, .inl (aC 1, 128, .inl (fun _ => 0))), (q26, .inr (4, [.ref q20, .ref (u27.1), .ref (u27.2.1), .ref (u27.2.2.1), .ref (u27.2.2.2)])), ((u27.2.2.2), .inl (aC 2, 256, .inr (.inl (fun _ => 0)))), (q32, .inr (6, [.ref q29, .ref u33])), (q47, .inr (1, [.ref b50, .ref r51, .int 0])), (b50, .inl (aC 0, 128, .inl (fun _ => 0))), (r51, .inl (aC 1, 128, .inl (fun _ => 0))), (q52, .inr (1, [.ref b55, .ref r56, .int 0])), (b55, .inl (aC 0, 128, .inl (fun _ => 0))), (r56, .inl (aC 1, 128, .inl (fun _ => 0))), (q57, .inr (1, [.ref b60, .ref r61, .int 0])), (b60, .inl (aC 0, 128, .inl (fun _ => 0))), (r61, .inl (aC 1, 128, .inl (fun _ => 0))), (q62, .inr (1, [.null, .null, .int 0]))] H := hP
  have hD : va_D A [(h0, .inr (11, [.ref q1, .ref q4, .int 0, .ref q5, .ref q10, .ref q15, .ref q20, .ref q23, .ref q26, .ref q29, .ref q32, .ref q35, .ref q38, .ref q41, .ref q44])), (q1, .inr (0, [.ref u2, .int 0, .int 0])), (u2, .inl (aC 1, 7, .inl (fun _ => 0))), (q4, .inl (aC 4, 5, .inr (.inr (.inr (.inr (va_up (va_up (va_up (fun _ => none) ((0 : Int32)).toNatClampNeg (some q47)) ((1 : Int32)).toNatClampNeg (some q52)) ((2 : Int32)).toNatClampNeg (some q57))))))), (q5, .inr (1, [.ref b8, .ref r9, .int 0])), (b8, .inl (aC 0, 128, .inl (fun _ => 0))), (r9, .inl (aC 1, 128, .inl (fun _ => 0))), (q10, .inr (1, [.ref b13, .ref r14, .int 0])), (b13, .inl (aC 0, 128, .inl (fun _ => 0))), (r14, .inl (aC 1, 128, .inl (fun _ => 0))), (q15, .inr (1, [.ref b18, .ref r19, .int 0])), (b18, .inl (aC 0, 128, .inl (fun _ => 0))), (r19, .inl (aC 1, 128, .inl (fun _ => 0))), (q26, .inr (4, [.ref q20, .ref (u27.1), .ref (u27.2.1), .ref (u27.2.2.1), .ref (u27.2.2.2)])), ((u27.2.2.2), .inl (aC 2, 256, .inr (.inl (fun _ => 0)))), (q32, .inr (6, [.ref q29, .ref u33])), (q47, .inr (1, [.ref b50, .ref r51, .int 0])), (b50, .inl (aC 0, 128, .inl (fun _ => 0))), (r51, .inl (aC 1, 128, .inl (fun _ => 0))), (q52, .inr (1, [.ref b55, .ref r56, .int 0])), (b55, .inl (aC 0, 128, .inl (fun _ => 0))), (r56, .inl (aC 1, 128, .inl (fun _ => 0))), (q57, .inr (1, [.ref b60, .ref r61, .int 0])), (b60, .inl (aC 0, 128, .inl (fun _ => 0))), (r61, .inl (aC 1, 128, .inl (fun _ => 0))), (q62, .inr (1, [.null, .null, .int 0]))] := hD
  refine W.widen (k := 87) (n := 5444) (Nat.le_of_ble_eq_true rfl) (Nat.le_of_ble_eq_true rfl) ?_
  refine lv_dup hx hb dX11_init_186 rfl ?_
  have hPc := hP.sub (ws' := [(q62, .inr (1, [.null, .null, .int 0]))]) [25] rfl
  have hDc := hD.sub (ws' := [(q62, .inr (1, [.null, .null, .int 0]))]) [25] (by decide) rfl
  have hFc := va_free (wc := [(q62, .inr (1, [.null, .null, .int 0]))]) hD hS hA [25] rfl
  refine va_callv (va_runIN (As := []) (rest := [.ref q62, .int 3, .ref q4]) ⟨hx, hb, hml, hown, hts⟩ (c_X7_init l dC dI aC H.size q62) (⟨va_cnB 0 hts (goodIn_sub (by decide +kernel) (by decide +kernel)) rfl rfl rfl (rf_nst hN 8 (q := (RX11, 22, yX7_init, "Transversary")) rfl) (hts (.initialized RX7) (by decide +kernel)) (by decide +kernel) ⟨Nat.le_of_ble_eq_true rfl, Nat.le_of_ble_eq_true rfl⟩, rfl, hts (.instanceMethod yX7_init) (by decide +kernel)⟩) (rf_ps hK hN hPc hDc) rfl rfl hl.1 rfl (lv_room (Nat.le_of_ble_eq_true rfl)) dX11_init_187 ⟨Nat.le_of_ble_eq_true rfl, Nat.le_of_ble_eq_true rfl⟩) hS (fun q _ h => hFc q h) hFc (fun u63 t H1 locs ht hvm hwu63 hB hz1 hk1 hS => ?_)
  obtain ⟨hP1, hD1⟩ := hB
  rw [ht] at hP1
  try dsimp only at hwu63 hP1 hD1
  obtain ⟨hP, hD⟩ := va_join (wr := [(h0, .inr (11, [.ref q1, .ref q4, .int 0, .ref q5, .ref q10, .ref q15, .ref q20, .ref q23, .ref q26, .ref q29, .ref q32, .ref q35, .ref q38, .ref q41, .ref q44])), (q1, .inr (0, [.ref u2, .int 0, .int 0])), (u2, .inl (aC 1, 7, .inl (fun _ => 0))), (q4, .inl (aC 4, 5, .inr (.inr (.inr (.inr (va_up (va_up (va_up (fun _ => none) ((0 : Int32)).toNatClampNeg (some q47)) ((1 : Int32)).toNatClampNeg (some q52)) ((2 : Int32)).toNatClampNeg (some q57))))))), (q5, .inr (1, [.ref b8, .ref r9, .int 0])), (b8, .inl (aC 0, 128, .inl (fun _ => 0))), (r9, .inl (aC 1, 128, .inl (fun _ => 0))), (q10, .inr (1, [.ref b13, .ref r14, .int 0])), (b13, .inl (aC 0, 128, .inl (fun _ => 0))), (r14, .inl (aC 1, 128, .inl (fun _ => 0))), (q15, .inr (1, [.ref b18, .ref r19, .int 0])), (b18, .inl (aC 0, 128, .inl (fun _ => 0))), (r19, .inl (aC 1, 128, .inl (fun _ => 0))), (q26, .inr (4, [.ref q20, .ref (u27.1), .ref (u27.2.1), .ref (u27.2.2.1), .ref (u27.2.2.2)])), ((u27.2.2.2), .inl (aC 2, 256, .inr (.inl (fun _ => 0)))), (q32, .inr (6, [.ref q29, .ref u33])), (q47, .inr (1, [.ref b50, .ref r51, .int 0])), (b50, .inl (aC 0, 128, .inl (fun _ => 0))), (r51, .inl (aC 1, 128, .inl (fun _ => 0))), (q52, .inr (1, [.ref b55, .ref r56, .int 0])), (b55, .inl (aC 0, 128, .inl (fun _ => 0))), (r56, .inl (aC 1, 128, .inl (fun _ => 0))), (q57, .inr (1, [.ref b60, .ref r61, .int 0])), (b60, .inl (aC 0, 128, .inl (fun _ => 0))), (r61, .inl (aC 1, 128, .inl (fun _ => 0)))]) (w1 := [(q62, .inr (1, [.ref (u63.1), .ref (u63.2), .int 0])), ((u63.1), .inl (aC 0, 128, .inl (fun _ => 0))), ((u63.2), .inl (aC 1, 128, .inl (fun _ => 0)))]) hP hD [25] [0, 1, 2, 3, 4, 5, 6, 7, 8, 9, 10, 11, 12, 13, 14, 15, 16, 17, 18, 19, 20, 21, 22, 23, 24] rfl rfl (by decide) (by decide) hk1 hFc hP1 hD1
  clear hP1 hD1 hPc hDc hFc
  generalize H1 = H at hP hS ⊢
  have hP : va_P (dC, dI) rfCl [(h0, .inr (11, [.ref q1, .ref q4, .int 0, .ref q5, .ref q10, .ref q15, .ref q20, .ref q23, .ref q26, .ref q29, .ref q32, .ref q35, .ref q38, .ref q41, .ref q44])), (q1, .inr (0, [.ref u2, .int 0, .int 0])), (u2, .inl (aC 1, 7, .inl (fun _ => 0))), (q4, .inl (aC 4, 5, .inr (.inr (.inr (.inr (va_up (va_up (va_up (fun _ => none) ((0 : Int32)).toNatClampNeg (some q47)) ((1 : Int32)).toNatClampNeg (some q52)) ((2 : Int32)).toNatClampNeg (some q57))))))), (q5, .inr (1, [.ref b8, .ref r9, .int 0])), (b8, .inl (aC 0, 128, .inl (fun _ => 0))), (r9, .inl (aC 1, 128, .inl (fun _ => 0))), (q10, .inr (1, [.ref b13, .ref r14, .int 0])), (b13, .inl (aC 0, 128, .inl (fun _ => 0))), (r14, .inl (aC 1, 128, .inl (fun _ => 0))), (q15, .inr (1, [.ref b18, .ref r19, .int 0])), (b18, .inl (aC 0, 128, .inl (fun _ => 0))), (r19, .inl (aC 1, 128, .inl (fun _ => 0))), (q26, .inr (4, [.ref q20, .ref (u27.1), .ref (u27.2.1), .ref (u27.2.2.1), .ref (u27.2.2.2)])), ((u27.2.2.2), .inl (aC 2, 256, .inr (.inl (fun _ => 0)))), (q32, .inr (6, [.ref q29, .ref u33])), (q47, .inr (1, [.ref b50, .ref r51, .int 0])), (b50, .inl (aC 0, 128, .inl (fun _ => 0))), (r51, .inl (aC 1, 128, .inl (fun _ => 0))), (q52, .inr (1, [.ref b55, .ref r56, .int 0])), (b55, .inl (aC 0, 128, .inl (fun _ => 0))), (r56, .inl (aC 1, 128, .inl (fun _ => 0))), (q57, .inr (1, [.ref b60, .ref r61, .int 0])), (b60, .inl (aC 0, 128, .inl (fun _ => 0))), (r61, .inl (aC 1, 128, .inl (fun _ => 0))), (q62, .inr (1, [.ref (u63.1), .ref (u63.2), .int 0])), ((u63.1), .inl (aC 0, 128, .inl (fun _ => 0))), ((u63.2), .inl (aC 1, 128, .inl (fun _ => 0)))] H := hP
  have hD : va_D A [(h0, .inr (11, [.ref q1, .ref q4, .int 0, .ref q5, .ref q10, .ref q15, .ref q20, .ref q23, .ref q26, .ref q29, .ref q32, .ref q35, .ref q38, .ref q41, .ref q44])), (q1, .inr (0, [.ref u2, .int 0, .int 0])), (u2, .inl (aC 1, 7, .inl (fun _ => 0))), (q4, .inl (aC 4, 5, .inr (.inr (.inr (.inr (va_up (va_up (va_up (fun _ => none) ((0 : Int32)).toNatClampNeg (some q47)) ((1 : Int32)).toNatClampNeg (some q52)) ((2 : Int32)).toNatClampNeg (some q57))))))), (q5, .inr (1, [.ref b8, .ref r9, .int 0])), (b8, .inl (aC 0, 128, .inl (fun _ => 0))), (r9, .inl (aC 1, 128, .inl (fun _ => 0))), (q10, .inr (1, [.ref b13, .ref r14, .int 0])), (b13, .inl (aC 0, 128, .inl (fun _ => 0))), (r14, .inl (aC 1, 128, .inl (fun _ => 0))), (q15, .inr (1, [.ref b18, .ref r19, .int 0])), (b18, .inl (aC 0, 128, .inl (fun _ => 0))), (r19, .inl (aC 1, 128, .inl (fun _ => 0))), (q26, .inr (4, [.ref q20, .ref (u27.1), .ref (u27.2.1), .ref (u27.2.2.1), .ref (u27.2.2.2)])), ((u27.2.2.2), .inl (aC 2, 256, .inr (.inl (fun _ => 0)))), (q32, .inr (6, [.ref q29, .ref u33])), (q47, .inr (1, [.ref b50, .ref r51, .int 0])), (b50, .inl (aC 0, 128, .inl (fun _ => 0))), (r51, .inl (aC 1, 128, .inl (fun _ => 0))), (q52, .inr (1, [.ref b55, .ref r56, .int 0])), (b55, .inl (aC 0, 128, .inl (fun _ => 0))), (r56, .inl (aC 1, 128, .inl (fun _ => 0))), (q57, .inr (1, [.ref b60, .ref r61, .int 0])), (b60, .inl (aC 0, 128, .inl (fun _ => 0))), (r61, .inl (aC 1, 128, .inl (fun _ => 0))), (q62, .inr (1, [.ref (u63.1), .ref (u63.2), .int 0])), ((u63.1), .inl (aC 0, 128, .inl (fun _ => 0))), ((u63.2), .inl (aC 1, 128, .inl (fun _ => 0)))] := hD
  refine W.widen (k := 89) (n := 5700) (Nat.le_of_ble_eq_true rfl) (Nat.le_of_ble_eq_true rfl) ?_
  obtain ⟨b65, r66⟩ := u63
  try dsimp only at hP hD
  have hP : va_P (dC, dI) rfCl [(h0, .inr (11, [.ref q1, .ref q4, .int 0, .ref q5, .ref q10, .ref q15, .ref q20, .ref q23, .ref q26, .ref q29, .ref q32, .ref q35, .ref q38, .ref q41, .ref q44])), (q1, .inr (0, [.ref u2, .int 0, .int 0])), (u2, .inl (aC 1, 7, .inl (fun _ => 0))), (q4, .inl (aC 4, 5, .inr (.inr (.inr (.inr (va_up (va_up (va_up (fun _ => none) ((0 : Int32)).toNatClampNeg (some q47)) ((1 : Int32)).toNatClampNeg (some q52)) ((2 : Int32)).toNatClampNeg (some q57))))))), (q5, .inr (1, [.ref b8, .ref r9, .int 0])), (b8, .inl (aC 0, 128, .inl (fun _ => 0))), (r9, .inl (aC 1, 128, .inl (fun _ => 0))), (q10, .inr (1, [.ref b13, .ref r14, .int 0])), (b13, .inl (aC 0, 128, .inl (fun _ => 0))), (r14, .inl (aC 1, 128, .inl (fun _ => 0))), (q15, .inr (1, [.ref b18, .ref r19, .int 0])), (b18, .inl (aC 0, 128, .inl (fun _ => 0))), (r19, .inl (aC 1, 128, .inl (fun _ => 0))), (q26, .inr (4, [.ref q20, .ref (u27.1), .ref (u27.2.1), .ref (u27.2.2.1), .ref (u27.2.2.2)])), ((u27.2.2.2), .inl (aC 2, 256, .inr (.inl (fun _ => 0)))), (q32, .inr (6, [.ref q29, .ref u33])), (q47, .inr (1, [.ref b50, .ref r51, .int 0])), (b50, .inl (aC 0, 128, .inl (fun _ => 0))), (r51, .inl (aC 1, 128, .inl (fun _ => 0))), (q52, .inr (1, [.ref b55, .ref r56, .int 0])), (b55, .inl (aC 0, 128, .inl (fun _ => 0))), (r56, .inl (aC 1, 128, .inl (fun _ => 0))), (q57, .inr (1, [.ref b60, .ref r61, .int 0])), (b60, .inl (aC 0, 128, .inl (fun _ => 0))), (r61, .inl (aC 1, 128, .inl (fun _ => 0))), (q62, .inr (1, [.ref b65, .ref r66, .int 0])), (b65, .inl (aC 0, 128, .inl (fun _ => 0))), (r66, .inl (aC 1, 128, .inl (fun _ => 0)))] H := hP
  have hD : va_D A [(h0, .inr (11, [.ref q1, .ref q4, .int 0, .ref q5, .ref q10, .ref q15, .ref q20, .ref q23, .ref q26, .ref q29, .ref q32, .ref q35, .ref q38, .ref q41, .ref q44])), (q1, .inr (0, [.ref u2, .int 0, .int 0])), (u2, .inl (aC 1, 7, .inl (fun _ => 0))), (q4, .inl (aC 4, 5, .inr (.inr (.inr (.inr (va_up (va_up (va_up (fun _ => none) ((0 : Int32)).toNatClampNeg (some q47)) ((1 : Int32)).toNatClampNeg (some q52)) ((2 : Int32)).toNatClampNeg (some q57))))))), (q5, .inr (1, [.ref b8, .ref r9, .int 0])), (b8, .inl (aC 0, 128, .inl (fun _ => 0))), (r9, .inl (aC 1, 128, .inl (fun _ => 0))), (q10, .inr (1, [.ref b13, .ref r14, .int 0])), (b13, .inl (aC 0, 128, .inl (fun _ => 0))), (r14, .inl (aC 1, 128, .inl (fun _ => 0))), (q15, .inr (1, [.ref b18, .ref r19, .int 0])), (b18, .inl (aC 0, 128, .inl (fun _ => 0))), (r19, .inl (aC 1, 128, .inl (fun _ => 0))), (q26, .inr (4, [.ref q20, .ref (u27.1), .ref (u27.2.1), .ref (u27.2.2.1), .ref (u27.2.2.2)])), ((u27.2.2.2), .inl (aC 2, 256, .inr (.inl (fun _ => 0)))), (q32, .inr (6, [.ref q29, .ref u33])), (q47, .inr (1, [.ref b50, .ref r51, .int 0])), (b50, .inl (aC 0, 128, .inl (fun _ => 0))), (r51, .inl (aC 1, 128, .inl (fun _ => 0))), (q52, .inr (1, [.ref b55, .ref r56, .int 0])), (b55, .inl (aC 0, 128, .inl (fun _ => 0))), (r56, .inl (aC 1, 128, .inl (fun _ => 0))), (q57, .inr (1, [.ref b60, .ref r61, .int 0])), (b60, .inl (aC 0, 128, .inl (fun _ => 0))), (r61, .inl (aC 1, 128, .inl (fun _ => 0))), (q62, .inr (1, [.ref b65, .ref r66, .int 0])), (b65, .inl (aC 0, 128, .inl (fun _ => 0))), (r66, .inl (aC 1, 128, .inl (fun _ => 0)))] := hD
  refine va_astq (r := (RX7, TX7, 3)) hx hb hK hP hD hS 3 4 25 1 rfl rfl rfl rfl (vp_in_nI (n := 3) (N := 5) (by decide) (by decide)) dX11_init_190 (fun H locs hP hD hS => ?_)
  have hP : va_P (dC, dI) rfCl [(h0, .inr (11, [.ref q1, .ref q4, .int 0, .ref q5, .ref q10, .ref q15, .ref q20, .ref q23, .ref q26, .ref q29, .ref q32, .ref q35, .ref q38, .ref q41, .ref q44])), (q1, .inr (0, [.ref u2, .int 0, .int 0])), (u2, .inl (aC 1, 7, .inl (fun _ => 0))), (q4, .inl (aC 4, 5, .inr (.inr (.inr (.inr (va_up (va_up (va_up (va_up (fun _ => none) ((0 : Int32)).toNatClampNeg (some q47)) ((1 : Int32)).toNatClampNeg (some q52)) ((2 : Int32)).toNatClampNeg (some q57)) ((3 : Int32)).toNatClampNeg (some q62))))))), (q5, .inr (1, [.ref b8, .ref r9, .int 0])), (b8, .inl (aC 0, 128, .inl (fun _ => 0))), (r9, .inl (aC 1, 128, .inl (fun _ => 0))), (q10, .inr (1, [.ref b13, .ref r14, .int 0])), (b13, .inl (aC 0, 128, .inl (fun _ => 0))), (r14, .inl (aC 1, 128, .inl (fun _ => 0))), (q15, .inr (1, [.ref b18, .ref r19, .int 0])), (b18, .inl (aC 0, 128, .inl (fun _ => 0))), (r19, .inl (aC 1, 128, .inl (fun _ => 0))), (q26, .inr (4, [.ref q20, .ref (u27.1), .ref (u27.2.1), .ref (u27.2.2.1), .ref (u27.2.2.2)])), ((u27.2.2.2), .inl (aC 2, 256, .inr (.inl (fun _ => 0)))), (q32, .inr (6, [.ref q29, .ref u33])), (q47, .inr (1, [.ref b50, .ref r51, .int 0])), (b50, .inl (aC 0, 128, .inl (fun _ => 0))), (r51, .inl (aC 1, 128, .inl (fun _ => 0))), (q52, .inr (1, [.ref b55, .ref r56, .int 0])), (b55, .inl (aC 0, 128, .inl (fun _ => 0))), (r56, .inl (aC 1, 128, .inl (fun _ => 0))), (q57, .inr (1, [.ref b60, .ref r61, .int 0])), (b60, .inl (aC 0, 128, .inl (fun _ => 0))), (r61, .inl (aC 1, 128, .inl (fun _ => 0))), (q62, .inr (1, [.ref b65, .ref r66, .int 0])), (b65, .inl (aC 0, 128, .inl (fun _ => 0))), (r66, .inl (aC 1, 128, .inl (fun _ => 0)))] H := hP
  have hD : va_D A [(h0, .inr (11, [.ref q1, .ref q4, .int 0, .ref q5, .ref q10, .ref q15, .ref q20, .ref q23, .ref q26, .ref q29, .ref q32, .ref q35, .ref q38, .ref q41, .ref q44])), (q1, .inr (0, [.ref u2, .int 0, .int 0])), (u2, .inl (aC 1, 7, .inl (fun _ => 0))), (q4, .inl (aC 4, 5, .inr (.inr (.inr (.inr (va_up (va_up (va_up (va_up (fun _ => none) ((0 : Int32)).toNatClampNeg (some q47)) ((1 : Int32)).toNatClampNeg (some q52)) ((2 : Int32)).toNatClampNeg (some q57)) ((3 : Int32)).toNatClampNeg (some q62))))))), (q5, .inr (1, [.ref b8, .ref r9, .int 0])), (b8, .inl (aC 0, 128, .inl (fun _ => 0))), (r9, .inl (aC 1, 128, .inl (fun _ => 0))), (q10, .inr (1, [.ref b13, .ref r14, .int 0])), (b13, .inl (aC 0, 128, .inl (fun _ => 0))), (r14, .inl (aC 1, 128, .inl (fun _ => 0))), (q15, .inr (1, [.ref b18, .ref r19, .int 0])), (b18, .inl (aC 0, 128, .inl (fun _ => 0))), (r19, .inl (aC 1, 128, .inl (fun _ => 0))), (q26, .inr (4, [.ref q20, .ref (u27.1), .ref (u27.2.1), .ref (u27.2.2.1), .ref (u27.2.2.2)])), ((u27.2.2.2), .inl (aC 2, 256, .inr (.inl (fun _ => 0)))), (q32, .inr (6, [.ref q29, .ref u33])), (q47, .inr (1, [.ref b50, .ref r51, .int 0])), (b50, .inl (aC 0, 128, .inl (fun _ => 0))), (r51, .inl (aC 1, 128, .inl (fun _ => 0))), (q52, .inr (1, [.ref b55, .ref r56, .int 0])), (b55, .inl (aC 0, 128, .inl (fun _ => 0))), (r56, .inl (aC 1, 128, .inl (fun _ => 0))), (q57, .inr (1, [.ref b60, .ref r61, .int 0])), (b60, .inl (aC 0, 128, .inl (fun _ => 0))), (r61, .inl (aC 1, 128, .inl (fun _ => 0))), (q62, .inr (1, [.ref b65, .ref r66, .int 0])), (b65, .inl (aC 0, 128, .inl (fun _ => 0))), (r66, .inl (aC 1, 128, .inl (fun _ => 0)))] := hD
  obtain ⟨i4, ei4⟩ : ∃ y : Int32, y = 3 + (1) := ⟨_, rfl⟩
  refine lv_iinc (v := i4) (lv' := [(1, .int i4), (0, .ref h0)]) hx hb dX11_init_191 hl (k := 0) rfl (by rw [ei4]; rfl) (by decide) rfl (fun ls hl => ?_)
  have hi9 : i4 = 4 := by rw [ei4]; decide
  subst hi9
  refine lv_goto (tgt := 169) hx hb dX11_init_194 (by decide) ?_
  refine lv_iload_n hx hb dX11_init_169 rfl (lv_at hl 0 rfl) ?_
  refine lv_aload_n hx hb dX11_init_170 rfl (lv_at hl 1 rfl) ?_
  refine va_get (D := (dC, dI)) (ci := 11) (v := .ref q4) (C := RX11) (T := TX11) (N := 15) hx hb hts (by decide +kernel) hown hK hP 0 rfl rfl 1 (by decide) (hts (.fieldLink RX11 18 "Transversary" "families" "[LTransversary$Sets;") (by decide +kernel)) (fun _ h9 => h9) rfl dX11_init_171 ?_
  refine va_alen (v := 5) hx hb hK hP 3 4 rfl rfl rfl dX11_init_174 ?_
  refine lv_icmp_ge (tgt := 197) hx hb dX11_init_175 (by decide) (fun c9 => absurd c9 (by decide)) (fun _ => ?_)
  refine lv_aload_n hx hb dX11_init_178 rfl (lv_at hl 1 rfl) ?_
  refine va_get (D := (dC, dI)) (ci := 11) (v := .ref q4) (C := RX11) (T := TX11) (N := 15) hx hb hts (by decide +kernel) hown hK hP 0 rfl rfl 1 (by decide) (hts (.fieldLink RX11 18 "Transversary" "families" "[LTransversary$Sets;") (by decide +kernel)) (fun _ h9 => h9) rfl dX11_init_179 ?_
  refine lv_iload_n hx hb dX11_init_182 rfl (lv_at hl 0 rfl) ?_
  refine va_new (ci := 1) (fs := [.null, .null, .int 0]) (C := RX7) (T := TX7) (N := 3) hx hb hts (by decide +kernel) tyX7 tyX7_ok hown (hts (.classLink RX11 16 RX7) (by decide +kernel)) (hts (.instantiable RX7 3) (by decide +kernel)) (hts (.initialized RX7) (by decide +kernel)) hK hP hD hS hA rfl (fun j hj => by rcases (show j = 0 ∨ j = 1 ∨ j = 2 by omega) with rfl | rfl | rfl <;> rfl) (Nat.le_of_ble_eq_true rfl) (Nat.le_of_ble_eq_true rfl) dX11_init_183 (fun q67 H hP hD hS => ?_)
  have hP : va_P (dC, dI) rfCl [(h0, .inr (11, [.ref q1, .ref q4, .int 0, .ref q5, .ref q10, .ref q15, .ref q20, .ref q23, .ref q26, .ref q29, .ref q32, .ref q35, .ref q38, .ref q41, .ref q44])), (q1, .inr (0, [.ref u2, .int 0, .int 0])), (u2, .inl (aC 1, 7, .inl (fun _ => 0))), (q4, .inl (aC 4, 5, .inr (.inr (.inr (.inr (va_up (va_up (va_up (va_up (fun _ => none) ((0 : Int32)).toNatClampNeg (some q47)) ((1 : Int32)).toNatClampNeg (some q52)) ((2 : Int32)).toNatClampNeg (some q57)) ((3 : Int32)).toNatClampNeg (some q62))))))), (q5, .inr (1, [.ref b8, .ref r9, .int 0])), (b8, .inl (aC 0, 128, .inl (fun _ => 0))), (r9, .inl (aC 1, 128, .inl (fun _ => 0))), (q10, .inr (1, [.ref b13, .ref r14, .int 0])), (b13, .inl (aC 0, 128, .inl (fun _ => 0))), (r14, .inl (aC 1, 128, .inl (fun _ => 0))), (q15, .inr (1, [.ref b18, .ref r19, .int 0])), (b18, .inl (aC 0, 128, .inl (fun _ => 0))), (r19, .inl (aC 1, 128, .inl (fun _ => 0))), (q26, .inr (4, [.ref q20, .ref (u27.1), .ref (u27.2.1), .ref (u27.2.2.1), .ref (u27.2.2.2)])), ((u27.2.2.2), .inl (aC 2, 256, .inr (.inl (fun _ => 0)))), (q32, .inr (6, [.ref q29, .ref u33])), (q47, .inr (1, [.ref b50, .ref r51, .int 0])), (b50, .inl (aC 0, 128, .inl (fun _ => 0))), (r51, .inl (aC 1, 128, .inl (fun _ => 0))), (q52, .inr (1, [.ref b55, .ref r56, .int 0])), (b55, .inl (aC 0, 128, .inl (fun _ => 0))), (r56, .inl (aC 1, 128, .inl (fun _ => 0))), (q57, .inr (1, [.ref b60, .ref r61, .int 0])), (b60, .inl (aC 0, 128, .inl (fun _ => 0))), (r61, .inl (aC 1, 128, .inl (fun _ => 0))), (q62, .inr (1, [.ref b65, .ref r66, .int 0])), (b65, .inl (aC 0, 128, .inl (fun _ => 0))), (r66, .inl (aC 1, 128, .inl (fun _ => 0))), (q67, .inr (1, [.null, .null, .int 0]))] H := hP
  have hD : va_D A [(h0, .inr (11, [.ref q1, .ref q4, .int 0, .ref q5, .ref q10, .ref q15, .ref q20, .ref q23, .ref q26, .ref q29, .ref q32, .ref q35, .ref q38, .ref q41, .ref q44])), (q1, .inr (0, [.ref u2, .int 0, .int 0])), (u2, .inl (aC 1, 7, .inl (fun _ => 0))), (q4, .inl (aC 4, 5, .inr (.inr (.inr (.inr (va_up (va_up (va_up (va_up (fun _ => none) ((0 : Int32)).toNatClampNeg (some q47)) ((1 : Int32)).toNatClampNeg (some q52)) ((2 : Int32)).toNatClampNeg (some q57)) ((3 : Int32)).toNatClampNeg (some q62))))))), (q5, .inr (1, [.ref b8, .ref r9, .int 0])), (b8, .inl (aC 0, 128, .inl (fun _ => 0))), (r9, .inl (aC 1, 128, .inl (fun _ => 0))), (q10, .inr (1, [.ref b13, .ref r14, .int 0])), (b13, .inl (aC 0, 128, .inl (fun _ => 0))), (r14, .inl (aC 1, 128, .inl (fun _ => 0))), (q15, .inr (1, [.ref b18, .ref r19, .int 0])), (b18, .inl (aC 0, 128, .inl (fun _ => 0))), (r19, .inl (aC 1, 128, .inl (fun _ => 0))), (q26, .inr (4, [.ref q20, .ref (u27.1), .ref (u27.2.1), .ref (u27.2.2.1), .ref (u27.2.2.2)])), ((u27.2.2.2), .inl (aC 2, 256, .inr (.inl (fun _ => 0)))), (q32, .inr (6, [.ref q29, .ref u33])), (q47, .inr (1, [.ref b50, .ref r51, .int 0])), (b50, .inl (aC 0, 128, .inl (fun _ => 0))), (r51, .inl (aC 1, 128, .inl (fun _ => 0))), (q52, .inr (1, [.ref b55, .ref r56, .int 0])), (b55, .inl (aC 0, 128, .inl (fun _ => 0))), (r56, .inl (aC 1, 128, .inl (fun _ => 0))), (q57, .inr (1, [.ref b60, .ref r61, .int 0])), (b60, .inl (aC 0, 128, .inl (fun _ => 0))), (r61, .inl (aC 1, 128, .inl (fun _ => 0))), (q62, .inr (1, [.ref b65, .ref r66, .int 0])), (b65, .inl (aC 0, 128, .inl (fun _ => 0))), (r66, .inl (aC 1, 128, .inl (fun _ => 0))), (q67, .inr (1, [.null, .null, .int 0]))] := hD
  refine W.widen (k := 90) (n := 5703) (Nat.le_of_ble_eq_true rfl) (Nat.le_of_ble_eq_true rfl) ?_
  refine lv_dup hx hb dX11_init_186 rfl ?_
  have hPc := hP.sub (ws' := [(q67, .inr (1, [.null, .null, .int 0]))]) [28] rfl
  have hDc := hD.sub (ws' := [(q67, .inr (1, [.null, .null, .int 0]))]) [28] (by decide) rfl
  have hFc := va_free (wc := [(q67, .inr (1, [.null, .null, .int 0]))]) hD hS hA [28] rfl
  refine va_callv (va_runIN (As := []) (rest := [.ref q67, .int 4, .ref q4]) ⟨hx, hb, hml, hown, hts⟩ (c_X7_init l dC dI aC H.size q67) (⟨va_cnB 0 hts (goodIn_sub (by decide +kernel) (by decide +kernel)) rfl rfl rfl (rf_nst hN 8 (q := (RX11, 22, yX7_init, "Transversary")) rfl) (hts (.initialized RX7) (by decide +kernel)) (by decide +kernel) ⟨Nat.le_of_ble_eq_true rfl, Nat.le_of_ble_eq_true rfl⟩, rfl, hts (.instanceMethod yX7_init) (by decide +kernel)⟩) (rf_ps hK hN hPc hDc) rfl rfl hl.1 rfl (lv_room (Nat.le_of_ble_eq_true rfl)) dX11_init_187 ⟨Nat.le_of_ble_eq_true rfl, Nat.le_of_ble_eq_true rfl⟩) hS (fun q _ h => hFc q h) hFc (fun u68 t H1 locs ht hvm hwu68 hB hz1 hk1 hS => ?_)
  obtain ⟨hP1, hD1⟩ := hB
  rw [ht] at hP1
  try dsimp only at hwu68 hP1 hD1
  obtain ⟨hP, hD⟩ := va_join (wr := [(h0, .inr (11, [.ref q1, .ref q4, .int 0, .ref q5, .ref q10, .ref q15, .ref q20, .ref q23, .ref q26, .ref q29, .ref q32, .ref q35, .ref q38, .ref q41, .ref q44])), (q1, .inr (0, [.ref u2, .int 0, .int 0])), (u2, .inl (aC 1, 7, .inl (fun _ => 0))), (q4, .inl (aC 4, 5, .inr (.inr (.inr (.inr (va_up (va_up (va_up (va_up (fun _ => none) ((0 : Int32)).toNatClampNeg (some q47)) ((1 : Int32)).toNatClampNeg (some q52)) ((2 : Int32)).toNatClampNeg (some q57)) ((3 : Int32)).toNatClampNeg (some q62))))))), (q5, .inr (1, [.ref b8, .ref r9, .int 0])), (b8, .inl (aC 0, 128, .inl (fun _ => 0))), (r9, .inl (aC 1, 128, .inl (fun _ => 0))), (q10, .inr (1, [.ref b13, .ref r14, .int 0])), (b13, .inl (aC 0, 128, .inl (fun _ => 0))), (r14, .inl (aC 1, 128, .inl (fun _ => 0))), (q15, .inr (1, [.ref b18, .ref r19, .int 0])), (b18, .inl (aC 0, 128, .inl (fun _ => 0))), (r19, .inl (aC 1, 128, .inl (fun _ => 0))), (q26, .inr (4, [.ref q20, .ref (u27.1), .ref (u27.2.1), .ref (u27.2.2.1), .ref (u27.2.2.2)])), ((u27.2.2.2), .inl (aC 2, 256, .inr (.inl (fun _ => 0)))), (q32, .inr (6, [.ref q29, .ref u33])), (q47, .inr (1, [.ref b50, .ref r51, .int 0])), (b50, .inl (aC 0, 128, .inl (fun _ => 0))), (r51, .inl (aC 1, 128, .inl (fun _ => 0))), (q52, .inr (1, [.ref b55, .ref r56, .int 0])), (b55, .inl (aC 0, 128, .inl (fun _ => 0))), (r56, .inl (aC 1, 128, .inl (fun _ => 0))), (q57, .inr (1, [.ref b60, .ref r61, .int 0])), (b60, .inl (aC 0, 128, .inl (fun _ => 0))), (r61, .inl (aC 1, 128, .inl (fun _ => 0))), (q62, .inr (1, [.ref b65, .ref r66, .int 0])), (b65, .inl (aC 0, 128, .inl (fun _ => 0))), (r66, .inl (aC 1, 128, .inl (fun _ => 0)))]) (w1 := [(q67, .inr (1, [.ref (u68.1), .ref (u68.2), .int 0])), ((u68.1), .inl (aC 0, 128, .inl (fun _ => 0))), ((u68.2), .inl (aC 1, 128, .inl (fun _ => 0)))]) hP hD [28] [0, 1, 2, 3, 4, 5, 6, 7, 8, 9, 10, 11, 12, 13, 14, 15, 16, 17, 18, 19, 20, 21, 22, 23, 24, 25, 26, 27] rfl rfl (by decide) (by decide) hk1 hFc hP1 hD1
  clear hP1 hD1 hPc hDc hFc
  generalize H1 = H at hP hS ⊢
  have hP : va_P (dC, dI) rfCl [(h0, .inr (11, [.ref q1, .ref q4, .int 0, .ref q5, .ref q10, .ref q15, .ref q20, .ref q23, .ref q26, .ref q29, .ref q32, .ref q35, .ref q38, .ref q41, .ref q44])), (q1, .inr (0, [.ref u2, .int 0, .int 0])), (u2, .inl (aC 1, 7, .inl (fun _ => 0))), (q4, .inl (aC 4, 5, .inr (.inr (.inr (.inr (va_up (va_up (va_up (va_up (fun _ => none) ((0 : Int32)).toNatClampNeg (some q47)) ((1 : Int32)).toNatClampNeg (some q52)) ((2 : Int32)).toNatClampNeg (some q57)) ((3 : Int32)).toNatClampNeg (some q62))))))), (q5, .inr (1, [.ref b8, .ref r9, .int 0])), (b8, .inl (aC 0, 128, .inl (fun _ => 0))), (r9, .inl (aC 1, 128, .inl (fun _ => 0))), (q10, .inr (1, [.ref b13, .ref r14, .int 0])), (b13, .inl (aC 0, 128, .inl (fun _ => 0))), (r14, .inl (aC 1, 128, .inl (fun _ => 0))), (q15, .inr (1, [.ref b18, .ref r19, .int 0])), (b18, .inl (aC 0, 128, .inl (fun _ => 0))), (r19, .inl (aC 1, 128, .inl (fun _ => 0))), (q26, .inr (4, [.ref q20, .ref (u27.1), .ref (u27.2.1), .ref (u27.2.2.1), .ref (u27.2.2.2)])), ((u27.2.2.2), .inl (aC 2, 256, .inr (.inl (fun _ => 0)))), (q32, .inr (6, [.ref q29, .ref u33])), (q47, .inr (1, [.ref b50, .ref r51, .int 0])), (b50, .inl (aC 0, 128, .inl (fun _ => 0))), (r51, .inl (aC 1, 128, .inl (fun _ => 0))), (q52, .inr (1, [.ref b55, .ref r56, .int 0])), (b55, .inl (aC 0, 128, .inl (fun _ => 0))), (r56, .inl (aC 1, 128, .inl (fun _ => 0))), (q57, .inr (1, [.ref b60, .ref r61, .int 0])), (b60, .inl (aC 0, 128, .inl (fun _ => 0))), (r61, .inl (aC 1, 128, .inl (fun _ => 0))), (q62, .inr (1, [.ref b65, .ref r66, .int 0])), (b65, .inl (aC 0, 128, .inl (fun _ => 0))), (r66, .inl (aC 1, 128, .inl (fun _ => 0))), (q67, .inr (1, [.ref (u68.1), .ref (u68.2), .int 0])), ((u68.1), .inl (aC 0, 128, .inl (fun _ => 0))), ((u68.2), .inl (aC 1, 128, .inl (fun _ => 0)))] H := hP
  have hD : va_D A [(h0, .inr (11, [.ref q1, .ref q4, .int 0, .ref q5, .ref q10, .ref q15, .ref q20, .ref q23, .ref q26, .ref q29, .ref q32, .ref q35, .ref q38, .ref q41, .ref q44])), (q1, .inr (0, [.ref u2, .int 0, .int 0])), (u2, .inl (aC 1, 7, .inl (fun _ => 0))), (q4, .inl (aC 4, 5, .inr (.inr (.inr (.inr (va_up (va_up (va_up (va_up (fun _ => none) ((0 : Int32)).toNatClampNeg (some q47)) ((1 : Int32)).toNatClampNeg (some q52)) ((2 : Int32)).toNatClampNeg (some q57)) ((3 : Int32)).toNatClampNeg (some q62))))))), (q5, .inr (1, [.ref b8, .ref r9, .int 0])), (b8, .inl (aC 0, 128, .inl (fun _ => 0))), (r9, .inl (aC 1, 128, .inl (fun _ => 0))), (q10, .inr (1, [.ref b13, .ref r14, .int 0])), (b13, .inl (aC 0, 128, .inl (fun _ => 0))), (r14, .inl (aC 1, 128, .inl (fun _ => 0))), (q15, .inr (1, [.ref b18, .ref r19, .int 0])), (b18, .inl (aC 0, 128, .inl (fun _ => 0))), (r19, .inl (aC 1, 128, .inl (fun _ => 0))), (q26, .inr (4, [.ref q20, .ref (u27.1), .ref (u27.2.1), .ref (u27.2.2.1), .ref (u27.2.2.2)])), ((u27.2.2.2), .inl (aC 2, 256, .inr (.inl (fun _ => 0)))), (q32, .inr (6, [.ref q29, .ref u33])), (q47, .inr (1, [.ref b50, .ref r51, .int 0])), (b50, .inl (aC 0, 128, .inl (fun _ => 0))), (r51, .inl (aC 1, 128, .inl (fun _ => 0))), (q52, .inr (1, [.ref b55, .ref r56, .int 0])), (b55, .inl (aC 0, 128, .inl (fun _ => 0))), (r56, .inl (aC 1, 128, .inl (fun _ => 0))), (q57, .inr (1, [.ref b60, .ref r61, .int 0])), (b60, .inl (aC 0, 128, .inl (fun _ => 0))), (r61, .inl (aC 1, 128, .inl (fun _ => 0))), (q62, .inr (1, [.ref b65, .ref r66, .int 0])), (b65, .inl (aC 0, 128, .inl (fun _ => 0))), (r66, .inl (aC 1, 128, .inl (fun _ => 0))), (q67, .inr (1, [.ref (u68.1), .ref (u68.2), .int 0])), ((u68.1), .inl (aC 0, 128, .inl (fun _ => 0))), ((u68.2), .inl (aC 1, 128, .inl (fun _ => 0)))] := hD
  refine W.widen (k := 92) (n := 5959) (Nat.le_of_ble_eq_true rfl) (Nat.le_of_ble_eq_true rfl) ?_
  obtain ⟨b70, r71⟩ := u68
  try dsimp only at hP hD
  have hP : va_P (dC, dI) rfCl [(h0, .inr (11, [.ref q1, .ref q4, .int 0, .ref q5, .ref q10, .ref q15, .ref q20, .ref q23, .ref q26, .ref q29, .ref q32, .ref q35, .ref q38, .ref q41, .ref q44])), (q1, .inr (0, [.ref u2, .int 0, .int 0])), (u2, .inl (aC 1, 7, .inl (fun _ => 0))), (q4, .inl (aC 4, 5, .inr (.inr (.inr (.inr (va_up (va_up (va_up (va_up (fun _ => none) ((0 : Int32)).toNatClampNeg (some q47)) ((1 : Int32)).toNatClampNeg (some q52)) ((2 : Int32)).toNatClampNeg (some q57)) ((3 : Int32)).toNatClampNeg (some q62))))))), (q5, .inr (1, [.ref b8, .ref r9, .int 0])), (b8, .inl (aC 0, 128, .inl (fun _ => 0))), (r9, .inl (aC 1, 128, .inl (fun _ => 0))), (q10, .inr (1, [.ref b13, .ref r14, .int 0])), (b13, .inl (aC 0, 128, .inl (fun _ => 0))), (r14, .inl (aC 1, 128, .inl (fun _ => 0))), (q15, .inr (1, [.ref b18, .ref r19, .int 0])), (b18, .inl (aC 0, 128, .inl (fun _ => 0))), (r19, .inl (aC 1, 128, .inl (fun _ => 0))), (q26, .inr (4, [.ref q20, .ref (u27.1), .ref (u27.2.1), .ref (u27.2.2.1), .ref (u27.2.2.2)])), ((u27.2.2.2), .inl (aC 2, 256, .inr (.inl (fun _ => 0)))), (q32, .inr (6, [.ref q29, .ref u33])), (q47, .inr (1, [.ref b50, .ref r51, .int 0])), (b50, .inl (aC 0, 128, .inl (fun _ => 0))), (r51, .inl (aC 1, 128, .inl (fun _ => 0))), (q52, .inr (1, [.ref b55, .ref r56, .int 0])), (b55, .inl (aC 0, 128, .inl (fun _ => 0))), (r56, .inl (aC 1, 128, .inl (fun _ => 0))), (q57, .inr (1, [.ref b60, .ref r61, .int 0])), (b60, .inl (aC 0, 128, .inl (fun _ => 0))), (r61, .inl (aC 1, 128, .inl (fun _ => 0))), (q62, .inr (1, [.ref b65, .ref r66, .int 0])), (b65, .inl (aC 0, 128, .inl (fun _ => 0))), (r66, .inl (aC 1, 128, .inl (fun _ => 0))), (q67, .inr (1, [.ref b70, .ref r71, .int 0])), (b70, .inl (aC 0, 128, .inl (fun _ => 0))), (r71, .inl (aC 1, 128, .inl (fun _ => 0)))] H := hP
  have hD : va_D A [(h0, .inr (11, [.ref q1, .ref q4, .int 0, .ref q5, .ref q10, .ref q15, .ref q20, .ref q23, .ref q26, .ref q29, .ref q32, .ref q35, .ref q38, .ref q41, .ref q44])), (q1, .inr (0, [.ref u2, .int 0, .int 0])), (u2, .inl (aC 1, 7, .inl (fun _ => 0))), (q4, .inl (aC 4, 5, .inr (.inr (.inr (.inr (va_up (va_up (va_up (va_up (fun _ => none) ((0 : Int32)).toNatClampNeg (some q47)) ((1 : Int32)).toNatClampNeg (some q52)) ((2 : Int32)).toNatClampNeg (some q57)) ((3 : Int32)).toNatClampNeg (some q62))))))), (q5, .inr (1, [.ref b8, .ref r9, .int 0])), (b8, .inl (aC 0, 128, .inl (fun _ => 0))), (r9, .inl (aC 1, 128, .inl (fun _ => 0))), (q10, .inr (1, [.ref b13, .ref r14, .int 0])), (b13, .inl (aC 0, 128, .inl (fun _ => 0))), (r14, .inl (aC 1, 128, .inl (fun _ => 0))), (q15, .inr (1, [.ref b18, .ref r19, .int 0])), (b18, .inl (aC 0, 128, .inl (fun _ => 0))), (r19, .inl (aC 1, 128, .inl (fun _ => 0))), (q26, .inr (4, [.ref q20, .ref (u27.1), .ref (u27.2.1), .ref (u27.2.2.1), .ref (u27.2.2.2)])), ((u27.2.2.2), .inl (aC 2, 256, .inr (.inl (fun _ => 0)))), (q32, .inr (6, [.ref q29, .ref u33])), (q47, .inr (1, [.ref b50, .ref r51, .int 0])), (b50, .inl (aC 0, 128, .inl (fun _ => 0))), (r51, .inl (aC 1, 128, .inl (fun _ => 0))), (q52, .inr (1, [.ref b55, .ref r56, .int 0])), (b55, .inl (aC 0, 128, .inl (fun _ => 0))), (r56, .inl (aC 1, 128, .inl (fun _ => 0))), (q57, .inr (1, [.ref b60, .ref r61, .int 0])), (b60, .inl (aC 0, 128, .inl (fun _ => 0))), (r61, .inl (aC 1, 128, .inl (fun _ => 0))), (q62, .inr (1, [.ref b65, .ref r66, .int 0])), (b65, .inl (aC 0, 128, .inl (fun _ => 0))), (r66, .inl (aC 1, 128, .inl (fun _ => 0))), (q67, .inr (1, [.ref b70, .ref r71, .int 0])), (b70, .inl (aC 0, 128, .inl (fun _ => 0))), (r71, .inl (aC 1, 128, .inl (fun _ => 0)))] := hD
  refine va_astq (r := (RX7, TX7, 3)) hx hb hK hP hD hS 3 4 28 1 rfl rfl rfl rfl (vp_in_nI (n := 4) (N := 5) (by decide) (by decide)) dX11_init_190 (fun H locs hP hD hS => ?_)
  have hP : va_P (dC, dI) rfCl [(h0, .inr (11, [.ref q1, .ref q4, .int 0, .ref q5, .ref q10, .ref q15, .ref q20, .ref q23, .ref q26, .ref q29, .ref q32, .ref q35, .ref q38, .ref q41, .ref q44])), (q1, .inr (0, [.ref u2, .int 0, .int 0])), (u2, .inl (aC 1, 7, .inl (fun _ => 0))), (q4, .inl (aC 4, 5, .inr (.inr (.inr (.inr (va_up (va_up (va_up (va_up (va_up (fun _ => none) ((0 : Int32)).toNatClampNeg (some q47)) ((1 : Int32)).toNatClampNeg (some q52)) ((2 : Int32)).toNatClampNeg (some q57)) ((3 : Int32)).toNatClampNeg (some q62)) ((4 : Int32)).toNatClampNeg (some q67))))))), (q5, .inr (1, [.ref b8, .ref r9, .int 0])), (b8, .inl (aC 0, 128, .inl (fun _ => 0))), (r9, .inl (aC 1, 128, .inl (fun _ => 0))), (q10, .inr (1, [.ref b13, .ref r14, .int 0])), (b13, .inl (aC 0, 128, .inl (fun _ => 0))), (r14, .inl (aC 1, 128, .inl (fun _ => 0))), (q15, .inr (1, [.ref b18, .ref r19, .int 0])), (b18, .inl (aC 0, 128, .inl (fun _ => 0))), (r19, .inl (aC 1, 128, .inl (fun _ => 0))), (q26, .inr (4, [.ref q20, .ref (u27.1), .ref (u27.2.1), .ref (u27.2.2.1), .ref (u27.2.2.2)])), ((u27.2.2.2), .inl (aC 2, 256, .inr (.inl (fun _ => 0)))), (q32, .inr (6, [.ref q29, .ref u33])), (q47, .inr (1, [.ref b50, .ref r51, .int 0])), (b50, .inl (aC 0, 128, .inl (fun _ => 0))), (r51, .inl (aC 1, 128, .inl (fun _ => 0))), (q52, .inr (1, [.ref b55, .ref r56, .int 0])), (b55, .inl (aC 0, 128, .inl (fun _ => 0))), (r56, .inl (aC 1, 128, .inl (fun _ => 0))), (q57, .inr (1, [.ref b60, .ref r61, .int 0])), (b60, .inl (aC 0, 128, .inl (fun _ => 0))), (r61, .inl (aC 1, 128, .inl (fun _ => 0))), (q62, .inr (1, [.ref b65, .ref r66, .int 0])), (b65, .inl (aC 0, 128, .inl (fun _ => 0))), (r66, .inl (aC 1, 128, .inl (fun _ => 0))), (q67, .inr (1, [.ref b70, .ref r71, .int 0])), (b70, .inl (aC 0, 128, .inl (fun _ => 0))), (r71, .inl (aC 1, 128, .inl (fun _ => 0)))] H := hP
  have hD : va_D A [(h0, .inr (11, [.ref q1, .ref q4, .int 0, .ref q5, .ref q10, .ref q15, .ref q20, .ref q23, .ref q26, .ref q29, .ref q32, .ref q35, .ref q38, .ref q41, .ref q44])), (q1, .inr (0, [.ref u2, .int 0, .int 0])), (u2, .inl (aC 1, 7, .inl (fun _ => 0))), (q4, .inl (aC 4, 5, .inr (.inr (.inr (.inr (va_up (va_up (va_up (va_up (va_up (fun _ => none) ((0 : Int32)).toNatClampNeg (some q47)) ((1 : Int32)).toNatClampNeg (some q52)) ((2 : Int32)).toNatClampNeg (some q57)) ((3 : Int32)).toNatClampNeg (some q62)) ((4 : Int32)).toNatClampNeg (some q67))))))), (q5, .inr (1, [.ref b8, .ref r9, .int 0])), (b8, .inl (aC 0, 128, .inl (fun _ => 0))), (r9, .inl (aC 1, 128, .inl (fun _ => 0))), (q10, .inr (1, [.ref b13, .ref r14, .int 0])), (b13, .inl (aC 0, 128, .inl (fun _ => 0))), (r14, .inl (aC 1, 128, .inl (fun _ => 0))), (q15, .inr (1, [.ref b18, .ref r19, .int 0])), (b18, .inl (aC 0, 128, .inl (fun _ => 0))), (r19, .inl (aC 1, 128, .inl (fun _ => 0))), (q26, .inr (4, [.ref q20, .ref (u27.1), .ref (u27.2.1), .ref (u27.2.2.1), .ref (u27.2.2.2)])), ((u27.2.2.2), .inl (aC 2, 256, .inr (.inl (fun _ => 0)))), (q32, .inr (6, [.ref q29, .ref u33])), (q47, .inr (1, [.ref b50, .ref r51, .int 0])), (b50, .inl (aC 0, 128, .inl (fun _ => 0))), (r51, .inl (aC 1, 128, .inl (fun _ => 0))), (q52, .inr (1, [.ref b55, .ref r56, .int 0])), (b55, .inl (aC 0, 128, .inl (fun _ => 0))), (r56, .inl (aC 1, 128, .inl (fun _ => 0))), (q57, .inr (1, [.ref b60, .ref r61, .int 0])), (b60, .inl (aC 0, 128, .inl (fun _ => 0))), (r61, .inl (aC 1, 128, .inl (fun _ => 0))), (q62, .inr (1, [.ref b65, .ref r66, .int 0])), (b65, .inl (aC 0, 128, .inl (fun _ => 0))), (r66, .inl (aC 1, 128, .inl (fun _ => 0))), (q67, .inr (1, [.ref b70, .ref r71, .int 0])), (b70, .inl (aC 0, 128, .inl (fun _ => 0))), (r71, .inl (aC 1, 128, .inl (fun _ => 0)))] := hD
  obtain ⟨i5, ei5⟩ : ∃ y : Int32, y = 4 + (1) := ⟨_, rfl⟩
  refine lv_iinc (v := i5) (lv' := [(1, .int i5), (0, .ref h0)]) hx hb dX11_init_191 hl (k := 0) rfl (by rw [ei5]; rfl) (by decide) rfl (fun ls hl => ?_)
  have hi9 : i5 = 5 := by rw [ei5]; decide
  subst hi9
  refine lv_goto (tgt := 169) hx hb dX11_init_194 (by decide) ?_
  refine lv_iload_n hx hb dX11_init_169 rfl (lv_at hl 0 rfl) ?_
  refine lv_aload_n hx hb dX11_init_170 rfl (lv_at hl 1 rfl) ?_
  refine va_get (D := (dC, dI)) (ci := 11) (v := .ref q4) (C := RX11) (T := TX11) (N := 15) hx hb hts (by decide +kernel) hown hK hP 0 rfl rfl 1 (by decide) (hts (.fieldLink RX11 18 "Transversary" "families" "[LTransversary$Sets;") (by decide +kernel)) (fun _ h9 => h9) rfl dX11_init_171 ?_
  refine va_alen (v := 5) hx hb hK hP 3 4 rfl rfl rfl dX11_init_174 ?_
  refine lv_icmp_ge (tgt := 197) hx hb dX11_init_175 (by decide) (fun _ => ?_) (fun c9 => absurd (by decide) c9)
  refine lv_aload_n hx hb dX11_init_197 rfl (lv_at hl 1 rfl) ?_
  refine va_get (D := (dC, dI)) (ci := 11) (v := .ref q1) (C := RX11) (T := TX11) (N := 15) hx hb hts (by decide +kernel) hown hK hP 0 rfl rfl 0 (by decide) (hts (.fieldLink RX11 12 "Transversary" "points" "LTransversary$Points;") (by decide +kernel)) (fun _ h9 => h9) rfl dX11_init_198 ?_
  refine lv_iconst (v := 4) hx hb dX11_init_201 (by decide) ?_
  have hPc := hP.sub (ws' := [(q1, .inr (0, [.ref u2, .int 0, .int 0])), (u2, .inl (aC 1, 7, .inl (fun _ => 0)))]) [1, 2] rfl
  have hDc := hD.sub (ws' := [(q1, .inr (0, [.ref u2, .int 0, .int 0])), (u2, .inl (aC 1, 7, .inl (fun _ => 0)))]) [1, 2] (by decide) rfl
  have hFc := va_free (wc := [(q1, .inr (0, [.ref u2, .int 0, .int 0])), (u2, .inl (aC 1, 7, .inl (fun _ => 0)))]) hD hS hA [1, 2] rfl
  refine va_callv (va_runV (As := [.int 4]) (rest := []) ⟨hx, hb, hml, hown, hts⟩ (c_X3_begin l dC dI aC H.size q1 u2 (fun _ => 0) 0 0 4 16 15 (by decide) (by decide)) (cwV 1 hts gX11_init_X3_begin rfl rfl rfl (by decide +kernel) ⟨Nat.le_of_ble_eq_true rfl, Nat.le_of_ble_eq_true rfl⟩) (rf_pv hK hN hPc hDc (va_recv hK hP (ci := 0) (q0 := 1) rfl rfl)) rfl rfl hl.1 rfl (lv_room (Nat.le_of_ble_eq_true rfl)) dX11_init_202 ⟨Nat.le_of_ble_eq_true rfl, Nat.le_of_ble_eq_true rfl⟩) hS (fun q _ h => hFc q h) hFc (fun u72 t H1 locs ht hvm hwu72 hB hz1 hk1 hS => ?_)
  obtain ⟨hP1, hD1⟩ := hB
  rw [ht] at hP1
  try dsimp only at hwu72 hP1 hD1
  obtain ⟨hP, hD⟩ := va_join (wr := [(h0, .inr (11, [.ref q1, .ref q4, .int 0, .ref q5, .ref q10, .ref q15, .ref q20, .ref q23, .ref q26, .ref q29, .ref q32, .ref q35, .ref q38, .ref q41, .ref q44])), (q4, .inl (aC 4, 5, .inr (.inr (.inr (.inr (va_up (va_up (va_up (va_up (va_up (fun _ => none) ((0 : Int32)).toNatClampNeg (some q47)) ((1 : Int32)).toNatClampNeg (some q52)) ((2 : Int32)).toNatClampNeg (some q57)) ((3 : Int32)).toNatClampNeg (some q62)) ((4 : Int32)).toNatClampNeg (some q67))))))), (q5, .inr (1, [.ref b8, .ref r9, .int 0])), (b8, .inl (aC 0, 128, .inl (fun _ => 0))), (r9, .inl (aC 1, 128, .inl (fun _ => 0))), (q10, .inr (1, [.ref b13, .ref r14, .int 0])), (b13, .inl (aC 0, 128, .inl (fun _ => 0))), (r14, .inl (aC 1, 128, .inl (fun _ => 0))), (q15, .inr (1, [.ref b18, .ref r19, .int 0])), (b18, .inl (aC 0, 128, .inl (fun _ => 0))), (r19, .inl (aC 1, 128, .inl (fun _ => 0))), (q26, .inr (4, [.ref q20, .ref (u27.1), .ref (u27.2.1), .ref (u27.2.2.1), .ref (u27.2.2.2)])), ((u27.2.2.2), .inl (aC 2, 256, .inr (.inl (fun _ => 0)))), (q32, .inr (6, [.ref q29, .ref u33])), (q47, .inr (1, [.ref b50, .ref r51, .int 0])), (b50, .inl (aC 0, 128, .inl (fun _ => 0))), (r51, .inl (aC 1, 128, .inl (fun _ => 0))), (q52, .inr (1, [.ref b55, .ref r56, .int 0])), (b55, .inl (aC 0, 128, .inl (fun _ => 0))), (r56, .inl (aC 1, 128, .inl (fun _ => 0))), (q57, .inr (1, [.ref b60, .ref r61, .int 0])), (b60, .inl (aC 0, 128, .inl (fun _ => 0))), (r61, .inl (aC 1, 128, .inl (fun _ => 0))), (q62, .inr (1, [.ref b65, .ref r66, .int 0])), (b65, .inl (aC 0, 128, .inl (fun _ => 0))), (r66, .inl (aC 1, 128, .inl (fun _ => 0))), (q67, .inr (1, [.ref b70, .ref r71, .int 0])), (b70, .inl (aC 0, 128, .inl (fun _ => 0))), (r71, .inl (aC 1, 128, .inl (fun _ => 0)))]) (w1 := [(q1, .inr (0, [.ref u2, .int 4, .int 15])), (u2, .inl (aC 1, 7, .inl u72))]) hP hD [1, 2] [0, 3, 4, 5, 6, 7, 8, 9, 10, 11, 12, 13, 14, 15, 16, 17, 18, 19, 20, 21, 22, 23, 24, 25, 26, 27, 28, 29, 30] rfl rfl (by decide) (by decide) hk1 hFc hP1 hD1
  clear hP1 hD1 hPc hDc hFc
  generalize H1 = H at hP hS ⊢
  have hP : va_P (dC, dI) rfCl [(h0, .inr (11, [.ref q1, .ref q4, .int 0, .ref q5, .ref q10, .ref q15, .ref q20, .ref q23, .ref q26, .ref q29, .ref q32, .ref q35, .ref q38, .ref q41, .ref q44])), (q4, .inl (aC 4, 5, .inr (.inr (.inr (.inr (va_up (va_up (va_up (va_up (va_up (fun _ => none) ((0 : Int32)).toNatClampNeg (some q47)) ((1 : Int32)).toNatClampNeg (some q52)) ((2 : Int32)).toNatClampNeg (some q57)) ((3 : Int32)).toNatClampNeg (some q62)) ((4 : Int32)).toNatClampNeg (some q67))))))), (q5, .inr (1, [.ref b8, .ref r9, .int 0])), (b8, .inl (aC 0, 128, .inl (fun _ => 0))), (r9, .inl (aC 1, 128, .inl (fun _ => 0))), (q10, .inr (1, [.ref b13, .ref r14, .int 0])), (b13, .inl (aC 0, 128, .inl (fun _ => 0))), (r14, .inl (aC 1, 128, .inl (fun _ => 0))), (q15, .inr (1, [.ref b18, .ref r19, .int 0])), (b18, .inl (aC 0, 128, .inl (fun _ => 0))), (r19, .inl (aC 1, 128, .inl (fun _ => 0))), (q26, .inr (4, [.ref q20, .ref (u27.1), .ref (u27.2.1), .ref (u27.2.2.1), .ref (u27.2.2.2)])), ((u27.2.2.2), .inl (aC 2, 256, .inr (.inl (fun _ => 0)))), (q32, .inr (6, [.ref q29, .ref u33])), (q47, .inr (1, [.ref b50, .ref r51, .int 0])), (b50, .inl (aC 0, 128, .inl (fun _ => 0))), (r51, .inl (aC 1, 128, .inl (fun _ => 0))), (q52, .inr (1, [.ref b55, .ref r56, .int 0])), (b55, .inl (aC 0, 128, .inl (fun _ => 0))), (r56, .inl (aC 1, 128, .inl (fun _ => 0))), (q57, .inr (1, [.ref b60, .ref r61, .int 0])), (b60, .inl (aC 0, 128, .inl (fun _ => 0))), (r61, .inl (aC 1, 128, .inl (fun _ => 0))), (q62, .inr (1, [.ref b65, .ref r66, .int 0])), (b65, .inl (aC 0, 128, .inl (fun _ => 0))), (r66, .inl (aC 1, 128, .inl (fun _ => 0))), (q67, .inr (1, [.ref b70, .ref r71, .int 0])), (b70, .inl (aC 0, 128, .inl (fun _ => 0))), (r71, .inl (aC 1, 128, .inl (fun _ => 0))), (q1, .inr (0, [.ref u2, .int 4, .int 15])), (u2, .inl (aC 1, 7, .inl u72))] H := hP
  have hD : va_D A [(h0, .inr (11, [.ref q1, .ref q4, .int 0, .ref q5, .ref q10, .ref q15, .ref q20, .ref q23, .ref q26, .ref q29, .ref q32, .ref q35, .ref q38, .ref q41, .ref q44])), (q4, .inl (aC 4, 5, .inr (.inr (.inr (.inr (va_up (va_up (va_up (va_up (va_up (fun _ => none) ((0 : Int32)).toNatClampNeg (some q47)) ((1 : Int32)).toNatClampNeg (some q52)) ((2 : Int32)).toNatClampNeg (some q57)) ((3 : Int32)).toNatClampNeg (some q62)) ((4 : Int32)).toNatClampNeg (some q67))))))), (q5, .inr (1, [.ref b8, .ref r9, .int 0])), (b8, .inl (aC 0, 128, .inl (fun _ => 0))), (r9, .inl (aC 1, 128, .inl (fun _ => 0))), (q10, .inr (1, [.ref b13, .ref r14, .int 0])), (b13, .inl (aC 0, 128, .inl (fun _ => 0))), (r14, .inl (aC 1, 128, .inl (fun _ => 0))), (q15, .inr (1, [.ref b18, .ref r19, .int 0])), (b18, .inl (aC 0, 128, .inl (fun _ => 0))), (r19, .inl (aC 1, 128, .inl (fun _ => 0))), (q26, .inr (4, [.ref q20, .ref (u27.1), .ref (u27.2.1), .ref (u27.2.2.1), .ref (u27.2.2.2)])), ((u27.2.2.2), .inl (aC 2, 256, .inr (.inl (fun _ => 0)))), (q32, .inr (6, [.ref q29, .ref u33])), (q47, .inr (1, [.ref b50, .ref r51, .int 0])), (b50, .inl (aC 0, 128, .inl (fun _ => 0))), (r51, .inl (aC 1, 128, .inl (fun _ => 0))), (q52, .inr (1, [.ref b55, .ref r56, .int 0])), (b55, .inl (aC 0, 128, .inl (fun _ => 0))), (r56, .inl (aC 1, 128, .inl (fun _ => 0))), (q57, .inr (1, [.ref b60, .ref r61, .int 0])), (b60, .inl (aC 0, 128, .inl (fun _ => 0))), (r61, .inl (aC 1, 128, .inl (fun _ => 0))), (q62, .inr (1, [.ref b65, .ref r66, .int 0])), (b65, .inl (aC 0, 128, .inl (fun _ => 0))), (r66, .inl (aC 1, 128, .inl (fun _ => 0))), (q67, .inr (1, [.ref b70, .ref r71, .int 0])), (b70, .inl (aC 0, 128, .inl (fun _ => 0))), (r71, .inl (aC 1, 128, .inl (fun _ => 0))), (q1, .inr (0, [.ref u2, .int 4, .int 15])), (u2, .inl (aC 1, 7, .inl u72))] := hD
  refine W.widen (k := 92) (n := 5959) (Nat.le_of_ble_eq_true rfl) (Nat.le_of_ble_eq_true rfl) ?_
  have hP9 := hP.sub (ws' := [(h0, .inr (11, [.ref q1, .ref q4, .int 0, .ref q5, .ref q10, .ref q15, .ref q20, .ref q23, .ref q26, .ref q29, .ref q32, .ref q35, .ref q38, .ref q41, .ref q44])), (q1, .inr (0, [.ref u2, .int 4, .int 15])), (u2, .inl (aC 1, 7, .inl u72)), (q4, .inl (aC 4, 5, .inr (.inr (.inr (.inr (va_up (va_up (va_up (va_up (va_up (fun _ => none) ((0 : Int32)).toNatClampNeg (some q47)) ((1 : Int32)).toNatClampNeg (some q52)) ((2 : Int32)).toNatClampNeg (some q57)) ((3 : Int32)).toNatClampNeg (some q62)) ((4 : Int32)).toNatClampNeg (some q67))))))), (q47, .inr (1, [.ref b50, .ref r51, .int 0])), (b50, .inl (aC 0, 128, .inl (fun _ => 0))), (q5, .inr (1, [.ref b8, .ref r9, .int 0])), (b8, .inl (aC 0, 128, .inl (fun _ => 0))), (q15, .inr (1, [.ref b18, .ref r19, .int 0])), (b18, .inl (aC 0, 128, .inl (fun _ => 0))), (q32, .inr (6, [.ref q29, .ref u33])), (q26, .inr (4, [.ref q20, .ref (u27.1), .ref (u27.2.1), .ref (u27.2.2.1), .ref (u27.2.2.2)])), ((u27.2.2.2), .inl (aC 2, 256, .inr (.inl (fun _ => 0))))]) [0, 29, 30, 1, 14, 15, 2, 3, 8, 9, 13, 11, 12] rfl
  have hD9 := hD.sub (ws' := [(h0, .inr (11, [.ref q1, .ref q4, .int 0, .ref q5, .ref q10, .ref q15, .ref q20, .ref q23, .ref q26, .ref q29, .ref q32, .ref q35, .ref q38, .ref q41, .ref q44])), (q1, .inr (0, [.ref u2, .int 4, .int 15])), (u2, .inl (aC 1, 7, .inl u72)), (q4, .inl (aC 4, 5, .inr (.inr (.inr (.inr (va_up (va_up (va_up (va_up (va_up (fun _ => none) ((0 : Int32)).toNatClampNeg (some q47)) ((1 : Int32)).toNatClampNeg (some q52)) ((2 : Int32)).toNatClampNeg (some q57)) ((3 : Int32)).toNatClampNeg (some q62)) ((4 : Int32)).toNatClampNeg (some q67))))))), (q47, .inr (1, [.ref b50, .ref r51, .int 0])), (b50, .inl (aC 0, 128, .inl (fun _ => 0))), (q5, .inr (1, [.ref b8, .ref r9, .int 0])), (b8, .inl (aC 0, 128, .inl (fun _ => 0))), (q15, .inr (1, [.ref b18, .ref r19, .int 0])), (b18, .inl (aC 0, 128, .inl (fun _ => 0))), (q32, .inr (6, [.ref q29, .ref u33])), (q26, .inr (4, [.ref q20, .ref (u27.1), .ref (u27.2.1), .ref (u27.2.2.1), .ref (u27.2.2.2)])), ((u27.2.2.2), .inl (aC 2, 256, .inr (.inl (fun _ => 0))))]) [0, 29, 30, 1, 14, 15, 2, 3, 8, 9, 13, 11, 12] (by decide) rfl
  refine W.widen (k := 92) (n := 5959) (Nat.le_of_ble_eq_true rfl) (Nat.le_of_ble_eq_true rfl) ?_
  exact W.vret hx hb hr (fun t ht hW => ⟨⟨((fun k => match k with | 0 => q1 | 1 => q4 | 2 => q5 | 3 => q15 | 4 => q26 | 5 => q32 | 6 => u2 | 7 => q47 | 8 => b50 | 9 => r51 | 10 => b8 | 11 => r9 | 12 => b18 | 13 => r19 | 14 => (u27.2.2.2) | 15 => q29 | 16 => u33 | 17 => q20 | 18 => (u27.1) | 19 => (u27.2.1) | 20 => (u27.2.2.1) | 21 => q10 | 22 => q20 | 23 => q23 | 24 => q29 | 25 => q35 | 26 => q38 | 27 => q41 | _ => q44), u72, (va_up (va_up (va_up (va_up (va_up (fun _ => none) ((0 : Int32)).toNatClampNeg (some q47)) ((1 : Int32)).toNatClampNeg (some q52)) ((2 : Int32)).toNatClampNeg (some q57)) ((3 : Int32)).toNatClampNeg (some q62)) ((4 : Int32)).toNatClampNeg (some q67))), rfl, rfl, by rw [ht]; exact hP9, hD9⟩, hS.F ht⟩) hS.2.2 dX11_init_205
end
section
set_option maxHeartbeats 4000000 in
set_option maxRecDepth 100000 in
theorem c_Jxa1e45_init_da8c8 (l : Launch) (dC : Nat → ClassId) (dI : Nat → Nat → Nat) (aC : Nat → ClassId) (sz : Nat) (h0 : Nat)  : Met l yJxa1e45_init_da8c8 wsJxa1e45_init_da8c8 ({ frames := 1, cells := 0, slots := 0, locals := 12 } : Room) (rf_Pc (dC, dI) aC [.ref h0] [] sz) (va_Sv (fun _ => True)) 0 0 (fun _ => False) := by
  refine Met.ofW (cc := cJxa1e45_init_da8c8) (maxL := 1) (ret := none) (by decide) rfl ?_
  intro p e s m args below meth c s₁ B hml hv
  obtain ⟨rfl, hsz, hP, hKN, hD0⟩ := hv
  obtain ⟨hK, hN⟩ := hKN
  have hx := B.exec
  have hb := B.bytes
  have hr := B.returns
  have hts := atoms_spec (ws := wsJxa1e45_init_da8c8) B.pre
  have hown : s.vm.findClass RJxa1e45 = some m.cls := findClass_of_methodNamed B.named
  have hlocks := B.notSynchronized
  have hin : meth.name = "<init>" := (name_of_methodNamed B.named B.method).1
  subst hsz
  have hD := hD0.self (sz := s.heap.size)
  generalize hAe : va_A [] s.heap.size = A at hD
  have hA : ∀ q : Nat, s.heap.size ≤ q → A q := fun q h => by rw [← hAe]; exact Or.inr h
  have hS : va_S A s.heap s.heap [] := va_S.rf
  have hP : va_P (dC, dI) rfCl [] s.heap := hP
  have hl := lv_entry ([.ref h0]) (n := 1) (Nat.le_of_ble_eq_true rfl)
  rw [lg_entry_eq]
  generalize (lg_sl ([.ref h0]) ++ List.replicate (1 - (lg_sl ([.ref h0])).length) Slot.unset).toArray = ls at hl ⊢
  have hl : lv_has ls 1 [(0, .ref h0)] := hl
  refine lv_aload_n hx hb dJxa1e45_init_da8c8_0 rfl (lv_at hl 0 rfl) ?_
  refine W.objInit hx hb hown (hts (.methodLink RJxa1e45 1 objectInit) (by decide +kernel)) (hts (.instanceMethod objectInit) (by decide +kernel)) (hts (.code objectInit ⟨#[0xb1]⟩ 1 none) (by decide +kernel)) rfl (by rw [hml]; exact hl.1) rfl dJxa1e45_init_da8c8_1 (Nat.le_of_ble_eq_true rfl) (Nat.le_of_ble_eq_true rfl) ?_
  refine W.eq (g2 := F0 m 4 ls []) rfl ?_
  exact W.vret hx hb hr (fun t ht hW => ⟨rfl, trivial, ht⟩) (fun q h => nomatch h) dJxa1e45_init_da8c8_4

set_option maxHeartbeats 4000000 in
set_option maxRecDepth 100000 in
theorem c_Jxc12de_init_da8c8 (l : Launch) (dC : Nat → ClassId) (dI : Nat → Nat → Nat) (aC : Nat → ClassId) (sz : Nat) (h0 : Nat) (mc : Int32) (ed : Value) (sz0 : Int32)  : Met l yJxc12de_init_da8c8 wsJxc12de_init_da8c8 ({ frames := 2, cells := 0, slots := 0, locals := 40 } : Room) (rf_Pc (dC, dI) aC [.ref h0] [(h0, .inr (13, [.int mc, ed, .int sz0]))] sz) (va_Qv (fun (u : Unit) => True) (fun (u : Unit) t => va_P (dC, dI) rfCl [(h0, .inr (13, [.int 0, ed, .int sz0]))] t.heap ∧ va_D (va_A [(h0, .inr (13, [.int mc, ed, .int sz0]))] sz) [(h0, .inr (13, [.int 0, ed, .int sz0]))]) (va_A [(h0, .inr (13, [.int mc, ed, .int sz0]))] sz)) 0 0 (va_A [(h0, .inr (13, [.int mc, ed, .int sz0]))] sz) := by
  refine Met.ofW (cc := cJxc12de_init_da8c8) (maxL := 1) (ret := none) (by decide) rfl ?_
  intro p e s m args below meth c s₁ B hml hv
  obtain ⟨rfl, hsz, hP, hKN, hD0⟩ := hv
  obtain ⟨hK, hN⟩ := hKN
  have hx := B.exec
  have hb := B.bytes
  have hr := B.returns
  have hts := atoms_spec (ws := wsJxc12de_init_da8c8) B.pre
  have hown : s.vm.findClass RJxc12de = some m.cls := findClass_of_methodNamed B.named
  have hlocks := B.notSynchronized
  have hin : meth.name = "<init>" := (name_of_methodNamed B.named B.method).1
  subst hsz
  have hD := hD0.self (sz := s.heap.size)
  generalize hAe : va_A [(h0, .inr (13, [.int mc, ed, .int sz0]))] s.heap.size = A at hD ⊢
  have hA : ∀ q : Nat, s.heap.size ≤ q → A q := fun q h => by rw [← hAe]; exact Or.inr h
  have hS : va_S A s.heap s.heap [] := va_S.rf
  have hP : va_P (dC, dI) rfCl [(h0, .inr (13, [.int mc, ed, .int sz0]))] s.heap := hP
  have hl := lv_entry ([.ref h0]) (n := 1) (Nat.le_of_ble_eq_true rfl)
  rw [lg_entry_eq]
  generalize (lg_sl ([.ref h0]) ++ List.replicate (1 - (lg_sl ([.ref h0])).length) Slot.unset).toArray = ls at hl ⊢
  have hl : lv_has ls 1 [(0, .ref h0)] := hl
  refine lv_aload_n hx hb dJxc12de_init_da8c8_0 rfl (lv_at hl 0 rfl) ?_
  have hPc := hP.sub (ws' := []) [] rfl
  have hDc := hD.sub (ws' := []) [] (by decide) rfl
  refine va_csv (rf_cr (va_runI (As := []) (rest := []) ⟨hx, hb, hml, hown, hts⟩ (c_Jxa1e45_init_da8c8 l dC dI aC s.heap.size h0) (cwI 0 hts gJxc12de_init_da8c8_Jxa1e45_init_da8c8 rfl rfl rfl (hts (.initialized RJxa1e45) (by decide +kernel)) (hts (.methodLink RJxc12de 1 yJxa1e45_init_da8c8) (by decide +kernel)) (hts (.instanceMethod yJxa1e45_init_da8c8) (by decide +kernel)) rfl (by decide +kernel) ⟨Nat.le_of_ble_eq_true rfl, Nat.le_of_ble_eq_true rfl⟩) (rf_ps hK hN hPc hDc) rfl rfl hl.1 rfl (lv_room (Nat.le_of_ble_eq_true rfl)) dJxc12de_init_da8c8_1 ⟨Nat.le_of_ble_eq_true rfl, Nat.le_of_ble_eq_true rfl⟩)) (fun _ => ?_)
  refine lv_aload_n hx hb dJxc12de_init_da8c8_4 rfl (lv_at hl 0 rfl) ?_
  refine lv_iconst (v := 0) hx hb dJxc12de_init_da8c8_5 (by decide) ?_
  refine va_put (D := (dC, dI)) (ci := 13) (v := .int 0) (ty := .int) (C := RJx4a65c) (T := TJx4a65c) (N := 3) hx hb hts (by decide +kernel) tyJx4a65c tyJx4a65c_ok nmJx4a65c hown hK hP hD hS 0 rfl rfl 0 (by decide) (hts (.fieldLink RJxc12de 7 "java/util/AbstractList" "modCount" "I") (by decide +kernel)) (fun _ h9 => h9) rfl (by decide +kernel) rfl rfl (Nat.le_of_ble_eq_true rfl) dJxc12de_init_da8c8_6 (fun H locs hP hD hS => ?_)
  have hP : va_P (dC, dI) rfCl [(h0, .inr (13, [.int 0, ed, .int sz0]))] H := hP
  have hD : va_D A [(h0, .inr (13, [.int 0, ed, .int sz0]))] := hD
  have hP9 := hP.sub (ws' := [(h0, .inr (13, [.int 0, ed, .int sz0]))]) [0] rfl
  have hD9 := hD.sub (ws' := [(h0, .inr (13, [.int 0, ed, .int sz0]))]) [0] (by decide) rfl
  refine W.widen (k := 0) (n := 0) (Nat.le_of_ble_eq_true rfl) (Nat.le_of_ble_eq_true rfl) ?_
  exact W.vret hx hb hr (fun t ht hW => ⟨⟨(), rfl, trivial, by rw [ht]; exact hP9, hD9⟩, hS.F ht⟩) hS.2.2 dJxc12de_init_da8c8_9

set_option maxHeartbeats 4000000 in
set_option maxRecDepth 100000 in
theorem c_Jx4a65c_init_da8c8 (l : Launch) (dC : Nat → ClassId) (dI : Nat → Nat → Nat) (aC : Nat → ClassId) (sz : Nat) (ev h0 : Nat)  : Met l yJx4a65c_init_da8c8 wsJx4a65c_init_da8c8 ({ frames := 3, cells := 0, slots := 0, locals := 80 } : Room) (rf_PcZ (dC, dI) aC [.ref h0] [(h0, .inr (13, [.int 0, .null, .int 0]))] sz ev) (va_Qv (fun (u : Unit) => True) (fun (u : Unit) t => va_P (dC, dI) rfCl [(h0, .inr (13, [.int 0, .ref ev, .int 0]))] t.heap ∧ va_D (va_A [(h0, .inr (13, [.int 0, .null, .int 0]))] sz) [(h0, .inr (13, [.int 0, .ref ev, .int 0]))]) (va_A [(h0, .inr (13, [.int 0, .null, .int 0]))] sz)) 0 0 (va_A [(h0, .inr (13, [.int 0, .null, .int 0]))] sz) := by
  refine Met.ofW (cc := cJx4a65c_init_da8c8) (maxL := 1) (ret := none) (by decide) rfl ?_
  intro p e s m args below meth c s₁ B hml hv
  obtain ⟨⟨rfl, hsz, hP, hKN, hD0⟩, hZ⟩ := hv
  obtain ⟨hK, hN⟩ := hKN
  have hx := B.exec
  have hb := B.bytes
  have hr := B.returns
  have hts := atoms_spec (ws := wsJx4a65c_init_da8c8) B.pre
  have hown : s.vm.findClass RJx4a65c = some m.cls := findClass_of_methodNamed B.named
  have hlocks := B.notSynchronized
  have hin : meth.name = "<init>" := (name_of_methodNamed B.named B.method).1
  subst hsz
  have hD := hD0.self (sz := s.heap.size)
  generalize hAe : va_A [(h0, .inr (13, [.int 0, .null, .int 0]))] s.heap.size = A at hD hZ ⊢
  have hA : ∀ q : Nat, s.heap.size ≤ q → A q := fun q h => by rw [← hAe]; exact Or.inr h
  have hS : va_S A s.heap s.heap [] := va_S.rf
  have hP : va_P (dC, dI) rfCl [(h0, .inr (13, [.int 0, .null, .int 0]))] s.heap := hP
  have hl := lv_entry ([.ref h0]) (n := 1) (Nat.le_of_ble_eq_true rfl)
  rw [lg_entry_eq]
  generalize (lg_sl ([.ref h0]) ++ List.replicate (1 - (lg_sl ([.ref h0])).length) Slot.unset).toArray = ls at hl ⊢
  have hl : lv_has ls 1 [(0, .ref h0)] := hl
  refine lv_aload_n hx hb dJx4a65c_init_da8c8_0 rfl (lv_at hl 0 rfl) ?_
  have hPc := hP.sub (ws' := [(h0, .inr (13, [.int 0, .null, .int 0]))]) [0] rfl
  have hDc := hD.sub (ws' := [(h0, .inr (13, [.int 0, .null, .int 0]))]) [0] (by decide) rfl
  have hFc := va_free (wc := [(h0, .inr (13, [.int 0, .null, .int 0]))]) hD hS hA [0] rfl
  refine va_callv (va_runI (As := []) (rest := []) ⟨hx, hb, hml, hown, hts⟩ (c_Jxc12de_init_da8c8 l dC dI aC s.heap.size h0 0 .null 0) (cwI 0 hts gJx4a65c_init_da8c8_Jxc12de_init_da8c8 rfl rfl rfl (hts (.initialized RJxc12de) (by decide +kernel)) (hts (.methodLink RJx4a65c 1 yJxc12de_init_da8c8) (by decide +kernel)) (hts (.instanceMethod yJxc12de_init_da8c8) (by decide +kernel)) rfl (by decide +kernel) ⟨Nat.le_of_ble_eq_true rfl, Nat.le_of_ble_eq_true rfl⟩) (rf_ps hK hN hPc hDc) rfl rfl hl.1 rfl (lv_room (Nat.le_of_ble_eq_true rfl)) dJx4a65c_init_da8c8_1 ⟨Nat.le_of_ble_eq_true rfl, Nat.le_of_ble_eq_true rfl⟩) hS (fun q _ h => hFc q h) hFc (fun u1 t H1 locs ht hvm hwu1 hB hz1 hk1 hS => ?_)
  obtain ⟨hP1, hD1⟩ := hB
  rw [ht] at hP1
  try dsimp only at hwu1 hP1 hD1
  obtain ⟨hP, hD⟩ := va_join (wr := []) (w1 := [(h0, .inr (13, [.int 0, .null, .int 0]))]) hP hD [0] [] rfl rfl (by decide) (by decide) hk1 hFc hP1 hD1
  clear hP1 hD1 hPc hDc hFc
  generalize H1 = H at hP hS ⊢
  have hP : va_P (dC, dI) rfCl [(h0, .inr (13, [.int 0, .null, .int 0]))] H := hP
  have hD : va_D A [(h0, .inr (13, [.int 0, .null, .int 0]))] := hD
  refine W.widen (k := 0) (n := 0) (Nat.le_of_ble_eq_true rfl) (Nat.le_of_ble_eq_true rfl) ?_
  refine lv_aload_n hx hb dJx4a65c_init_da8c8_4 rfl (lv_at hl 0 rfl) ?_
  refine va_gets (C := "java/util/ArrayList") (n := "DEFAULTCAPACITY_EMPTY_ELEMENTDATA") (d := "[Ljava/lang/Object;") (v := .ref ev) hx hb hZ hS hown (hts (.fieldLink RJx4a65c 39 "java/util/ArrayList" "DEFAULTCAPACITY_EMPTY_ELEMENTDATA" "[Ljava/lang/Object;") (by decide +kernel)) (fun _ h9 => h9) dJx4a65c_init_da8c8_5 ?_
  refine va_put (D := (dC, dI)) (ci := 13) (v := .ref ev) (ty := (.array (.object "java/lang/Object"))) (C := RJx4a65c) (T := TJx4a65c) (N := 3) hx hb hts (by decide +kernel) tyJx4a65c tyJx4a65c_ok nmJx4a65c hown hK hP hD hS 0 rfl rfl 1 (by decide) (hts (.fieldLink RJx4a65c 9 "java/util/ArrayList" "elementData" "[Ljava/lang/Object;") (by decide +kernel)) (fun _ h9 => h9) rfl (by decide +kernel) rfl rfl (Nat.le_of_ble_eq_true rfl) dJx4a65c_init_da8c8_8 (fun H locs hP hD hS => ?_)
  have hP : va_P (dC, dI) rfCl [(h0, .inr (13, [.int 0, .ref ev, .int 0]))] H := hP
  have hD : va_D A [(h0, .inr (13, [.int 0, .ref ev, .int 0]))] := hD
  have hP9 := hP.sub (ws' := [(h0, .inr (13, [.int 0, .ref ev, .int 0]))]) [0] rfl
  have hD9 := hD.sub (ws' := [(h0, .inr (13, [.int 0, .ref ev, .int 0]))]) [0] (by decide) rfl
  refine W.widen (k := 0) (n := 0) (Nat.le_of_ble_eq_true rfl) (Nat.le_of_ble_eq_true rfl) ?_
  exact W.vret hx hb hr (fun t ht hW => ⟨⟨(), rfl, trivial, by rw [ht]; exact hP9, hD9⟩, hS.F ht⟩) hS.2.2 dJx4a65c_init_da8c8_11

set_option maxHeartbeats 4000000 in
set_option maxRecDepth 100000 in
theorem c_Jx4a65c_size_8abf5 (l : Launch) (dC : Nat → ClassId) (dI : Nat → Nat → Nat) (aC : Nat → ClassId) (sz : Nat) (h0 : Nat) (mc : Int32) (ed : Value) (sz0 : Int32)  : Met l yJx4a65c_size_8abf5 wsJx4a65c_size_8abf5 ({ frames := 1, cells := 0, slots := 0, locals := 0 } : Room) (rf_Pc (dC, dI) aC [.ref h0] [(h0, .inr (13, [.int mc, ed, .int sz0]))] sz) (QcRead sz0) 0 0 (fun _ => False) := by
  refine Met.ofW (cc := cJx4a65c_size_8abf5) (maxL := 1) (ret := (some .int)) (by decide) rfl ?_
  intro p e s m args below meth c s₁ B hml hv
  obtain ⟨rfl, hsz, hP, hKN, hD0⟩ := hv
  obtain ⟨hK, hN⟩ := hKN
  have hx := B.exec
  have hb := B.bytes
  have hr := B.returns
  have hts := atoms_spec (ws := wsJx4a65c_size_8abf5) B.pre
  have hown : s.vm.findClass RJx4a65c = some m.cls := findClass_of_methodNamed B.named
  have hlocks := B.notSynchronized
  subst hsz
  have hD := hD0.self (sz := s.heap.size)
  generalize hAe : va_A [(h0, .inr (13, [.int mc, ed, .int sz0]))] s.heap.size = A at hD
  have hA : ∀ q : Nat, s.heap.size ≤ q → A q := fun q h => by rw [← hAe]; exact Or.inr h
  have hS : va_S A s.heap s.heap [] := va_S.rf
  have hP : va_P (dC, dI) rfCl [(h0, .inr (13, [.int mc, ed, .int sz0]))] s.heap := hP
  have hl := lv_entry ([.ref h0]) (n := 1) (Nat.le_of_ble_eq_true rfl)
  rw [lg_entry_eq]
  generalize (lg_sl ([.ref h0]) ++ List.replicate (1 - (lg_sl ([.ref h0])).length) Slot.unset).toArray = ls at hl ⊢
  have hl : lv_has ls 1 [(0, .ref h0)] := hl
  refine lv_aload_n hx hb dJx4a65c_size_8abf5_0 rfl (lv_at hl 0 rfl) ?_
  refine va_get (D := (dC, dI)) (ci := 13) (v := .int sz0) (C := RJx4a65c) (T := TJx4a65c) (N := 3) hx hb hts (by decide +kernel) hown hK hP 0 rfl rfl 2 (by decide) (hts (.fieldLink RJx4a65c 48 "java/util/ArrayList" "size" "I") (by decide +kernel)) (fun _ h9 => h9) rfl dJx4a65c_size_8abf5_1 ?_
  exact W.iret (v := sz0) hx hb hr (fun t ht hW => ⟨rfl, ht⟩) (fun q h => nomatch h) dJx4a65c_size_8abf5_4

set_option maxHeartbeats 4000000 in
set_option maxRecDepth 100000 in
theorem c_Jx4a65c_clear_da8c8 (l : Launch) (dC : Nat → ClassId) (dI : Nat → Nat → Nat) (aC : Nat → ClassId) (sz : Nat) (h0 : Nat) (mc : Int32) (ed : Nat)  : Met l yJx4a65c_clear_da8c8 wsJx4a65c_clear_da8c8 ({ frames := 1, cells := 0, slots := 0, locals := 0 } : Room) (rf_Pc (dC, dI) aC [.ref h0] [(h0, .inr (13, [.int mc, .ref ed, .int 0]))] sz) (va_Qv (fun (u : Int32) => True) (fun (u : Int32) t => va_P (dC, dI) rfCl [(h0, .inr (13, [.int u, .ref ed, .int 0]))] t.heap ∧ va_D (va_A [(h0, .inr (13, [.int mc, .ref ed, .int 0]))] sz) [(h0, .inr (13, [.int u, .ref ed, .int 0]))]) (va_A [(h0, .inr (13, [.int mc, .ref ed, .int 0]))] sz)) 0 0 (va_A [(h0, .inr (13, [.int mc, .ref ed, .int 0]))] sz) := by
  refine Met.ofW (cc := cJx4a65c_clear_da8c8) (maxL := 4) (ret := none) (by decide) rfl ?_
  intro p e s m args below meth c s₁ B hml hv
  obtain ⟨rfl, hsz, hP, hKN, hD0⟩ := hv
  obtain ⟨hK, hN⟩ := hKN
  have hx := B.exec
  have hb := B.bytes
  have hr := B.returns
  have hts := atoms_spec (ws := wsJx4a65c_clear_da8c8) B.pre
  have hown : s.vm.findClass RJx4a65c = some m.cls := findClass_of_methodNamed B.named
  have hlocks := B.notSynchronized
  subst hsz
  have hD := hD0.self (sz := s.heap.size)
  generalize hAe : va_A [(h0, .inr (13, [.int mc, .ref ed, .int 0]))] s.heap.size = A at hD ⊢
  have hA : ∀ q : Nat, s.heap.size ≤ q → A q := fun q h => by rw [← hAe]; exact Or.inr h
  have hS : va_S A s.heap s.heap [] := va_S.rf
  have hP : va_P (dC, dI) rfCl [(h0, .inr (13, [.int mc, .ref ed, .int 0]))] s.heap := hP
  have hl := lv_entry ([.ref h0]) (n := 4) (Nat.le_of_ble_eq_true rfl)
  rw [lg_entry_eq]
  generalize (lg_sl ([.ref h0]) ++ List.replicate (4 - (lg_sl ([.ref h0])).length) Slot.unset).toArray = ls at hl ⊢
  have hl : lv_has ls 4 [(0, .ref h0)] := hl
  refine lv_aload_n hx hb dJx4a65c_clear_da8c8_0 rfl (lv_at hl 0 rfl) ?_
  refine lv_dup hx hb dJx4a65c_clear_da8c8_1 rfl ?_
  refine va_get (D := (dC, dI)) (ci := 13) (v := .int mc) (C := RJx4a65c) (T := TJx4a65c) (N := 3) hx hb hts (by decide +kernel) hown hK hP 0 rfl rfl 0 (by decide) (hts (.fieldLink RJx4a65c 63 "java/util/ArrayList" "modCount" "I") (by decide +kernel)) (u_same (hts (.sameField "java/util/ArrayList" "java/util/AbstractList" "modCount" "I") (by decide +kernel))) rfl dJx4a65c_clear_da8c8_2 ?_
  refine lv_iconst (v := 1) hx hb dJx4a65c_clear_da8c8_5 (by decide) ?_
  refine lv_iadd hx hb dJx4a65c_clear_da8c8_6 ?_
  refine lv_topi (fun t1 et1 => ?_)
  refine va_put (D := (dC, dI)) (ci := 13) (v := .int t1) (ty := .int) (C := RJx4a65c) (T := TJx4a65c) (N := 3) hx hb hts (by decide +kernel) tyJx4a65c tyJx4a65c_ok nmJx4a65c hown hK hP hD hS 0 rfl rfl 0 (by decide) (hts (.fieldLink RJx4a65c 63 "java/util/ArrayList" "modCount" "I") (by decide +kernel)) (u_same (hts (.sameField "java/util/ArrayList" "java/util/AbstractList" "modCount" "I") (by decide +kernel))) rfl (by decide +kernel) rfl rfl (Nat.le_of_ble_eq_true rfl) dJx4a65c_clear_da8c8_7 (fun H locs hP hD hS => ?_)
  have hP : va_P (dC, dI) rfCl [(h0, .inr (13, [.int t1, .ref ed, .int 0]))] H := hP
  have hD : va_D A [(h0, .inr (13, [.int t1, .ref ed, .int 0]))] := hD
  refine lv_aload_n hx hb dJx4a65c_clear_da8c8_10 rfl (lv_at hl 0 rfl) ?_
  refine va_get (D := (dC, dI)) (ci := 13) (v := .ref ed) (C := RJx4a65c) (T := TJx4a65c) (N := 3) hx hb hts (by decide +kernel) hown hK hP 0 rfl rfl 1 (by decide) (hts (.fieldLink RJx4a65c 9 "java/util/ArrayList" "elementData" "[Ljava/lang/Object;") (by decide +kernel)) (fun _ h9 => h9) rfl dJx4a65c_clear_da8c8_11 ?_
  refine lv_astore_n (lv' := [(1, .ref ed), (0, .ref h0)]) hx hb dJx4a65c_clear_da8c8_14 rfl hl (by decide) rfl (fun ls hl => ?_)
  refine lv_aload_n hx hb dJx4a65c_clear_da8c8_15 rfl (lv_at hl 1 rfl) ?_
  refine va_get (D := (dC, dI)) (ci := 13) (v := .int 0) (C := RJx4a65c) (T := TJx4a65c) (N := 3) hx hb hts (by decide +kernel) hown hK hP 0 rfl rfl 2 (by decide) (hts (.fieldLink RJx4a65c 48 "java/util/ArrayList" "size" "I") (by decide +kernel)) (fun _ h9 => h9) rfl dJx4a65c_clear_da8c8_16 ?_
  refine lv_istore_n (lv' := [(2, .int 0), (1, .ref ed), (0, .ref h0)]) hx hb dJx4a65c_clear_da8c8_19 rfl hl (by decide) rfl (fun ls hl => ?_)
  refine lv_aload_n hx hb dJx4a65c_clear_da8c8_20 rfl (lv_at hl 2 rfl) ?_
  refine lv_iconst (v := 0) hx hb dJx4a65c_clear_da8c8_21 (by decide) ?_
  refine lv_dup_x1 hx hb dJx4a65c_clear_da8c8_22 rfl rfl ?_
  refine va_put (D := (dC, dI)) (ci := 13) (v := .int 0) (ty := .int) (C := RJx4a65c) (T := TJx4a65c) (N := 3) hx hb hts (by decide +kernel) tyJx4a65c tyJx4a65c_ok nmJx4a65c hown hK hP hD hS 0 rfl rfl 2 (by decide) (hts (.fieldLink RJx4a65c 48 "java/util/ArrayList" "size" "I") (by decide +kernel)) (fun _ h9 => h9) rfl (by decide +kernel) rfl rfl (Nat.le_of_ble_eq_true rfl) dJx4a65c_clear_da8c8_23 (fun H locs hP hD hS => ?_)
  have hP : va_P (dC, dI) rfCl [(h0, .inr (13, [.int t1, .ref ed, .int 0]))] H := hP
  have hD : va_D A [(h0, .inr (13, [.int t1, .ref ed, .int 0]))] := hD
  refine lv_istore_n (lv' := [(3, .int 0), (2, .int 0), (1, .ref ed), (0, .ref h0)]) hx hb dJx4a65c_clear_da8c8_26 rfl hl (by decide) rfl (fun ls hl => ?_)
  refine lv_iload_n hx hb dJx4a65c_clear_da8c8_27 rfl (lv_at hl 0 rfl) ?_
  refine lv_iload_n hx hb dJx4a65c_clear_da8c8_28 rfl (lv_at hl 1 rfl) ?_
  refine lv_icmp_ge (tgt := 42) hx hb dJx4a65c_clear_da8c8_29 (by decide) (fun _ => ?_) (fun c9 => absurd (by decide) c9)
  have hP9 := hP.sub (ws' := [(h0, .inr (13, [.int t1, .ref ed, .int 0]))]) [0] rfl
  have hD9 := hD.sub (ws' := [(h0, .inr (13, [.int t1, .ref ed, .int 0]))]) [0] (by decide) rfl
  refine W.widen (k := 0) (n := 0) (Nat.le_of_ble_eq_true rfl) (Nat.le_of_ble_eq_true rfl) ?_
  exact W.vret hx hb hr (fun t ht hW => ⟨⟨t1, rfl, trivial, by rw [ht]; exact hP9, hD9⟩, hS.F ht⟩) hS.2.2 dJx4a65c_clear_da8c8_42

set_option maxHeartbeats 4000000 in
set_option maxRecDepth 100000 in
theorem c_Jx4a65c_grow_92f84 (l : Launch) (dC : Nat → ClassId) (dI : Nat → Nat → Nat) (aC : Nat → ClassId) (sz : Nat) (ev h0 : Nat) (mc : Int32) (ef : Nat → Option Nat)  : Met l yJx4a65c_grow_92f84 wsJx4a65c_grow_92f84 ({ frames := 2, cells := 1, slots := 10, locals := 40 } : Room) (rf_PcZ (dC, dI) aC [.ref h0, .int 1] [(h0, .inr (13, [.int mc, .ref ev, .int 0])), (ev, .inl (aC 5, 0, .inr (.inr (.inr (.inr ef)))))] sz ev) (va_Qr (fun (u : Nat) => True) (fun (u : Nat) (ra : Nat) t => ra = u ∧ va_P (dC, dI) rfCl [(h0, .inr (13, [.int mc, .ref u, .int 0])), (ev, .inl (aC 5, 0, .inr (.inr (.inr (.inr ef))))), (u, .inl (aC 5, 10, .inr (.inr (.inr (.inr (fun _ => none))))))] t.heap ∧ va_D (va_A [(h0, .inr (13, [.int mc, .ref ev, .int 0])), (ev, .inl (aC 5, 0, .inr (.inr (.inr (.inr ef)))))] sz) [(h0, .inr (13, [.int mc, .ref u, .int 0])), (ev, .inl (aC 5, 0, .inr (.inr (.inr (.inr ef))))), (u, .inl (aC 5, 10, .inr (.inr (.inr (.inr (fun _ => none))))))]) (va_A [(h0, .inr (13, [.int mc, .ref ev, .int 0])), (ev, .inl (aC 5, 0, .inr (.inr (.inr (.inr ef)))))] sz)) 1 10 (va_A [(h0, .inr (13, [.int mc, .ref ev, .int 0])), (ev, .inl (aC 5, 0, .inr (.inr (.inr (.inr ef)))))] sz) := by
  refine Met.ofW (cc := cJx4a65c_grow_92f84) (maxL := 4) (ret := (some (.array (.object "java/lang/Object")))) (by decide) rfl ?_
  intro p e s m args below meth c s₁ B hml hv
  obtain ⟨⟨rfl, hsz, hP, hKN, hD0⟩, hZ⟩ := hv
  obtain ⟨hK, hN⟩ := hKN
  have hx := B.exec
  have hb := B.bytes
  have hr := B.returns
  have hts := atoms_spec (ws := wsJx4a65c_grow_92f84) B.pre
  have hown : s.vm.findClass RJx4a65c = some m.cls := findClass_of_methodNamed B.named
  have hlocks := B.notSynchronized
  subst hsz
  have hD := hD0.self (sz := s.heap.size)
  generalize hAe : va_A [(h0, .inr (13, [.int mc, .ref ev, .int 0])), (ev, .inl (aC 5, 0, .inr (.inr (.inr (.inr ef)))))] s.heap.size = A at hD hZ ⊢
  have hA : ∀ q : Nat, s.heap.size ≤ q → A q := fun q h => by rw [← hAe]; exact Or.inr h
  have hS : va_S A s.heap s.heap [] := va_S.rf
  have hP : va_P (dC, dI) rfCl [(h0, .inr (13, [.int mc, .ref ev, .int 0])), (ev, .inl (aC 5, 0, .inr (.inr (.inr (.inr ef)))))] s.heap := hP
  have hl := lv_entry ([.ref h0, .int 1]) (n := 4) (Nat.le_of_ble_eq_true rfl)
  rw [lg_entry_eq]
  generalize (lg_sl ([.ref h0, .int 1]) ++ List.replicate (4 - (lg_sl ([.ref h0, .int 1])).length) Slot.unset).toArray = ls at hl ⊢
  have hl : lv_has ls 4 [(0, .ref h0), (1, .int 1)] := hl
  refine lv_aload_n hx hb dJx4a65c_grow_92f84_0 rfl (lv_at hl 0 rfl) ?_
  refine va_get (D := (dC, dI)) (ci := 13) (v := .ref ev) (C := RJx4a65c) (T := TJx4a65c) (N := 3) hx hb hts (by decide +kernel) hown hK hP 0 rfl rfl 1 (by decide) (hts (.fieldLink RJx4a65c 9 "java/util/ArrayList" "elementData" "[Ljava/lang/Object;") (by decide +kernel)) (fun _ h9 => h9) rfl dJx4a65c_grow_92f84_1 ?_
  refine va_alen (v := 0) hx hb hK hP 1 5 rfl rfl rfl dJx4a65c_grow_92f84_4 ?_
  refine lv_istore_n (lv' := [(2, .int 0), (0, .ref h0), (1, .int 1)]) hx hb dJx4a65c_grow_92f84_5 rfl hl (by decide) rfl (fun ls hl => ?_)
  refine lv_iload_n hx hb dJx4a65c_grow_92f84_6 rfl (lv_at hl 0 rfl) ?_
  refine lv_if_gt (tgt := 20) hx hb dJx4a65c_grow_92f84_7 (by decide) (fun c9 => absurd c9 (by decide)) (fun _ => ?_)
  refine lv_aload_n hx hb dJx4a65c_grow_92f84_10 rfl (lv_at hl 1 rfl) ?_
  refine va_get (D := (dC, dI)) (ci := 13) (v := .ref ev) (C := RJx4a65c) (T := TJx4a65c) (N := 3) hx hb hts (by decide +kernel) hown hK hP 0 rfl rfl 1 (by decide) (hts (.fieldLink RJx4a65c 9 "java/util/ArrayList" "elementData" "[Ljava/lang/Object;") (by decide +kernel)) (fun _ h9 => h9) rfl dJx4a65c_grow_92f84_11 ?_
  refine va_gets (C := "java/util/ArrayList") (n := "DEFAULTCAPACITY_EMPTY_ELEMENTDATA") (d := "[Ljava/lang/Object;") (v := .ref ev) hx hb hZ hS hown (hts (.fieldLink RJx4a65c 39 "java/util/ArrayList" "DEFAULTCAPACITY_EMPTY_ELEMENTDATA" "[Ljava/lang/Object;") (by decide +kernel)) (fun _ h9 => h9) dJx4a65c_grow_92f84_14 ?_
  refine W.eq (g2 := F0 m 17 ls [va_rf (some ev), va_rf (some ev)]) rfl ?_
  refine lv_acmp_eq (tgt := 45) hx hb dJx4a65c_grow_92f84_17 (by decide) (fun _ => ?_) (fun c9 => absurd rfl c9)
  refine lv_aload_n hx hb dJx4a65c_grow_92f84_45 rfl (lv_at hl 1 rfl) ?_
  refine lv_bipush (v := 10) hx hb dJx4a65c_grow_92f84_46 (by decide) ?_
  refine lv_iload_n hx hb dJx4a65c_grow_92f84_48 rfl (lv_at hl 2 rfl) ?_
  refine va_mmax hx hb (by rw [hml]; exact hl.1.symm) hown (hts (.methodLink RJx4a65c 79 Lib.Math.max.name) (by decide +kernel)) (hts (.static Lib.Math.max.name) (by decide +kernel)) (hts (.initialized "java/lang/Math") (by decide +kernel)) (hts (.code Lib.Math.max.name Lib.Math.max.code 2 (some .int)) (by decide +kernel)) (Nat.le_of_ble_eq_true rfl) (Nat.le_of_ble_eq_true rfl) (Nat.le_of_ble_eq_true rfl) (Nat.le_of_ble_eq_true rfl) dJx4a65c_grow_92f84_49 ?_
  refine W.eq (g2 := F0 m 52 ls [.int 10, .ref h0]) (by rw [if_neg (by decide)]) ?_
  refine va_newq (C := "java/lang/Object") (N' := 10) hx hb hown (hts (.classLink RJx4a65c 7 "java/lang/Object") (by decide +kernel)) hN.2.2.1 hK hP hD hS hA (by decide) (by decide) (by decide) (Nat.le_of_ble_eq_true rfl) (Nat.le_of_ble_eq_true rfl) dJx4a65c_grow_92f84_52 (fun q1 cA9 H hK hP hD hS => ?_)
  obtain rfl : cA9 = aC 5 := rf_sameA hK 6 5 rfl rfl
  have hK := hK.sub (tys' := rfT aC) [0, 1, 2, 3, 4, 5] rfl
  have hP : va_P (dC, dI) rfCl [(h0, .inr (13, [.int mc, .ref ev, .int 0])), (ev, .inl (aC 5, 0, .inr (.inr (.inr (.inr ef))))), (q1, .inl (aC 5, 10, .inr (.inr (.inr (.inr (fun _ => none))))))] H := hP
  have hD : va_D A [(h0, .inr (13, [.int mc, .ref ev, .int 0])), (ev, .inl (aC 5, 0, .inr (.inr (.inr (.inr ef))))), (q1, .inl (aC 5, 10, .inr (.inr (.inr (.inr (fun _ => none))))))] := hD
  refine W.widen (k := 1) (n := 10) (Nat.le_of_ble_eq_true rfl) (Nat.le_of_ble_eq_true rfl) ?_
  refine lv_dup_x1 hx hb dJx4a65c_grow_92f84_55 rfl rfl ?_
  refine va_put (D := (dC, dI)) (ci := 13) (v := .ref q1) (ty := (.array (.object "java/lang/Object"))) (C := RJx4a65c) (T := TJx4a65c) (N := 3) hx hb hts (by decide +kernel) tyJx4a65c tyJx4a65c_ok nmJx4a65c hown hK hP hD hS 0 rfl rfl 1 (by decide) (hts (.fieldLink RJx4a65c 9 "java/util/ArrayList" "elementData" "[Ljava/lang/Object;") (by decide +kernel)) (fun _ h9 => h9) rfl (by decide +kernel) rfl rfl (Nat.le_of_ble_eq_true rfl) dJx4a65c_grow_92f84_56 (fun H locs hP hD hS => ?_)
  have hP : va_P (dC, dI) rfCl [(h0, .inr (13, [.int mc, .ref q1, .int 0])), (ev, .inl (aC 5, 0, .inr (.inr (.inr (.inr ef))))), (q1, .inl (aC 5, 10, .inr (.inr (.inr (.inr (fun _ => none))))))] H := hP
  have hD : va_D A [(h0, .inr (13, [.int mc, .ref q1, .int 0])), (ev, .inl (aC 5, 0, .inr (.inr (.inr (.inr ef))))), (q1, .inl (aC 5, 10, .inr (.inr (.inr (.inr (fun _ => none))))))] := hD
  have hP9 := hP.sub (ws' := [(h0, .inr (13, [.int mc, .ref q1, .int 0])), (ev, .inl (aC 5, 0, .inr (.inr (.inr (.inr ef))))), (q1, .inl (aC 5, 10, .inr (.inr (.inr (.inr (fun _ => none))))))]) [0, 1, 2] rfl
  have hD9 := hD.sub (ws' := [(h0, .inr (13, [.int mc, .ref q1, .int 0])), (ev, .inl (aC 5, 0, .inr (.inr (.inr (.inr ef))))), (q1, .inl (aC 5, 10, .inr (.inr (.inr (.inr (fun _ => none))))))]) [0, 1, 2] (by decide) rfl
  refine W.widen (k := 1) (n := 10) (Nat.le_of_ble_eq_true rfl) (Nat.le_of_ble_eq_true rfl) ?_
  exact W.aret (v := .ref q1) hx hb hr (Or.inr ⟨_, rfl⟩) (Or.inr ⟨_, rfl⟩) (fun t ht hW => ⟨⟨q1, q1, rfl, trivial, rfl, by rw [ht]; exact hP9, hD9⟩, hS.F ht⟩) hS.2.2 dJx4a65c_grow_92f84_59

set_option maxHeartbeats 4000000 in
set_option maxRecDepth 100000 in
theorem c_Jx4a65c_grow_d5877 (l : Launch) (dC : Nat → ClassId) (dI : Nat → Nat → Nat) (aC : Nat → ClassId) (sz : Nat) (ev h0 : Nat) (mc : Int32) (ef : Nat → Option Nat)  : Met l yJx4a65c_grow_d5877 wsJx4a65c_grow_d5877 ({ frames := 3, cells := 1, slots := 10, locals := 80 } : Room) (rf_PcZ (dC, dI) aC [.ref h0] [(h0, .inr (13, [.int mc, .ref ev, .int 0])), (ev, .inl (aC 5, 0, .inr (.inr (.inr (.inr ef)))))] sz ev) (va_Qr (fun (u : Nat) => True) (fun (u : Nat) (ra : Nat) t => ra = u ∧ va_P (dC, dI) rfCl [(h0, .inr (13, [.int mc, .ref u, .int 0])), (ev, .inl (aC 5, 0, .inr (.inr (.inr (.inr ef))))), (u, .inl (aC 5, 10, .inr (.inr (.inr (.inr (fun _ => none))))))] t.heap ∧ va_D (va_A [(h0, .inr (13, [.int mc, .ref ev, .int 0])), (ev, .inl (aC 5, 0, .inr (.inr (.inr (.inr ef)))))] sz) [(h0, .inr (13, [.int mc, .ref u, .int 0])), (ev, .inl (aC 5, 0, .inr (.inr (.inr (.inr ef))))), (u, .inl (aC 5, 10, .inr (.inr (.inr (.inr (fun _ => none))))))]) (va_A [(h0, .inr (13, [.int mc, .ref ev, .int 0])), (ev, .inl (aC 5, 0, .inr (.inr (.inr (.inr ef)))))] sz)) 1 10 (va_A [(h0, .inr (13, [.int mc, .ref ev, .int 0])), (ev, .inl (aC 5, 0, .inr (.inr (.inr (.inr ef)))))] sz) := by
  refine Met.ofW (cc := cJx4a65c_grow_d5877) (maxL := 1) (ret := (some (.array (.object "java/lang/Object")))) (by decide) rfl ?_
  intro p e s m args below meth c s₁ B hml hv
  obtain ⟨⟨rfl, hsz, hP, hKN, hD0⟩, hZ⟩ := hv
  obtain ⟨hK, hN⟩ := hKN
  have hx := B.exec
  have hb := B.bytes
  have hr := B.returns
  have hts := atoms_spec (ws := wsJx4a65c_grow_d5877) B.pre
  have hown : s.vm.findClass RJx4a65c = some m.cls := findClass_of_methodNamed B.named
  have hlocks := B.notSynchronized
  subst hsz
  have hD := hD0.self (sz := s.heap.size)
  generalize hAe : va_A [(h0, .inr (13, [.int mc, .ref ev, .int 0])), (ev, .inl (aC 5, 0, .inr (.inr (.inr (.inr ef)))))] s.heap.size = A at hD hZ ⊢
  have hA : ∀ q : Nat, s.heap.size ≤ q → A q := fun q h => by rw [← hAe]; exact Or.inr h
  have hS : va_S A s.heap s.heap [] := va_S.rf
  have hP : va_P (dC, dI) rfCl [(h0, .inr (13, [.int mc, .ref ev, .int 0])), (ev, .inl (aC 5, 0, .inr (.inr (.inr (.inr ef)))))] s.heap := hP
  have hl := lv_entry ([.ref h0]) (n := 1) (Nat.le_of_ble_eq_true rfl)
  rw [lg_entry_eq]
  generalize (lg_sl ([.ref h0]) ++ List.replicate (1 - (lg_sl ([.ref h0])).length) Slot.unset).toArray = ls at hl ⊢
  have hl : lv_has ls 1 [(0, .ref h0)] := hl
  refine lv_aload_n hx hb dJx4a65c_grow_d5877_0 rfl (lv_at hl 0 rfl) ?_
  refine lv_aload_n hx hb dJx4a65c_grow_d5877_1 rfl (lv_at hl 0 rfl) ?_
  refine va_get (D := (dC, dI)) (ci := 13) (v := .int 0) (C := RJx4a65c) (T := TJx4a65c) (N := 3) hx hb hts (by decide +kernel) hown hK hP 0 rfl rfl 2 (by decide) (hts (.fieldLink RJx4a65c 48 "java/util/ArrayList" "size" "I") (by decide +kernel)) (fun _ h9 => h9) rfl dJx4a65c_grow_d5877_2 ?_
  refine lv_iconst (v := 1) hx hb dJx4a65c_grow_d5877_5 (by decide) ?_
  refine lv_iadd hx hb dJx4a65c_grow_d5877_6 ?_
  refine lv_topi (fun t1 et1 => ?_)
  have hl9 : t1 = 1 := by rw [et1]; decide
  subst hl9
  have hPc := hP.sub (ws' := [(h0, .inr (13, [.int mc, .ref ev, .int 0])), (ev, .inl (aC 5, 0, .inr (.inr (.inr (.inr ef)))))]) [0, 1] rfl
  have hDc := hD.sub (ws' := [(h0, .inr (13, [.int mc, .ref ev, .int 0])), (ev, .inl (aC 5, 0, .inr (.inr (.inr (.inr ef)))))]) [0, 1] (by decide) rfl
  have hFc := va_free (wc := [(h0, .inr (13, [.int mc, .ref ev, .int 0])), (ev, .inl (aC 5, 0, .inr (.inr (.inr (.inr ef)))))]) hD hS hA [0, 1] rfl
  have hFc := va_free (wc := [(h0, .inr (13, [.int mc, .ref ev, .int 0])), (ev, .inl (aC 5, 0, .inr (.inr (.inr (.inr ef)))))]) hD hS hA [0, 1] rfl
  refine va_callr (va_runV (As := [.int 1]) (rest := []) ⟨hx, hb, hml, hown, hts⟩ (c_Jx4a65c_grow_92f84 l dC dI aC s.heap.size ev h0 mc ef) (cwV 1 hts gJx4a65c_grow_d5877_Jx4a65c_grow_92f84 rfl rfl rfl (by decide +kernel) ⟨Nat.le_of_ble_eq_true rfl, Nat.le_of_ble_eq_true rfl⟩) (rf_pvZ hK hN hPc hDc (va_recv hK hP (ci := 13) (q0 := 0) rfl rfl) hZ hS hFc) rfl rfl hl.1 rfl (lv_room (Nat.le_of_ble_eq_true rfl)) dJx4a65c_grow_d5877_7 ⟨Nat.le_of_ble_eq_true rfl, Nat.le_of_ble_eq_true rfl⟩) hS (fun q _ h => hFc q h) hFc (fun u2 r3 t H1 locs ht hvm hwu2 hB hz1 hk1 hS => ?_)
  obtain ⟨hra, hP1, hD1⟩ := hB
  rw [ht] at hP1
  try dsimp only at hwu2 hP1 hD1
  obtain ⟨hP, hD⟩ := va_join (wr := []) (w1 := [(h0, .inr (13, [.int mc, .ref u2, .int 0])), (ev, .inl (aC 5, 0, .inr (.inr (.inr (.inr ef))))), (u2, .inl (aC 5, 10, .inr (.inr (.inr (.inr (fun _ => none))))))]) hP hD [0, 1] [] rfl rfl (by decide) (by decide) hk1 hFc hP1 hD1
  clear hP1 hD1 hPc hDc hFc
  generalize H1 = H at hP hS ⊢
  rw [hra]
  have hP : va_P (dC, dI) rfCl [(h0, .inr (13, [.int mc, .ref u2, .int 0])), (ev, .inl (aC 5, 0, .inr (.inr (.inr (.inr ef))))), (u2, .inl (aC 5, 10, .inr (.inr (.inr (.inr (fun _ => none))))))] H := hP
  have hD : va_D A [(h0, .inr (13, [.int mc, .ref u2, .int 0])), (ev, .inl (aC 5, 0, .inr (.inr (.inr (.inr ef))))), (u2, .inl (aC 5, 10, .inr (.inr (.inr (.inr (fun _ => none))))))] := hD
  refine W.widen (k := 1) (n := 10) (Nat.le_of_ble_eq_true rfl) (Nat.le_of_ble_eq_true rfl) ?_
  have hP9 := hP.sub (ws' := [(h0, .inr (13, [.int mc, .ref u2, .int 0])), (ev, .inl (aC 5, 0, .inr (.inr (.inr (.inr ef))))), (u2, .inl (aC 5, 10, .inr (.inr (.inr (.inr (fun _ => none))))))]) [0, 1, 2] rfl
  have hD9 := hD.sub (ws' := [(h0, .inr (13, [.int mc, .ref u2, .int 0])), (ev, .inl (aC 5, 0, .inr (.inr (.inr (.inr ef))))), (u2, .inl (aC 5, 10, .inr (.inr (.inr (.inr (fun _ => none))))))]) [0, 1, 2] (by decide) rfl
  refine W.widen (k := 1) (n := 10) (Nat.le_of_ble_eq_true rfl) (Nat.le_of_ble_eq_true rfl) ?_
  exact W.aret (v := .ref u2) hx hb hr (Or.inr ⟨_, rfl⟩) (Or.inr ⟨_, rfl⟩) (fun t ht hW => ⟨⟨u2, u2, rfl, trivial, rfl, by rw [ht]; exact hP9, hD9⟩, hS.F ht⟩) hS.2.2 dJx4a65c_grow_d5877_10

set_option maxHeartbeats 4000000 in
set_option maxRecDepth 100000 in
theorem c_Jx4a65c_add_72be8 (l : Launch) (dC : Nat → ClassId) (dI : Nat → Nat → Nat) (aC : Nat → ClassId) (sz : Nat) (ev h0 : Nat) (mc : Int32) (ef : Nat → Option Nat) (ow : Nat) (of : Nat → Int32)  : Met l yJx4a65c_add_72be8 wsJx4a65c_add_72be8 ({ frames := 4, cells := 1, slots := 10, locals := 120 } : Room) (rf_PcZ (dC, dI) aC [.ref h0, .ref ow, .ref ev, .int 0] [(h0, .inr (13, [.int mc, .ref ev, .int 0])), (ev, .inl (aC 5, 0, .inr (.inr (.inr (.inr ef))))), (ow, .inl (aC 0, 128, .inl of))] sz ev) (va_Qv (fun (u : Nat × (Nat → Option Nat)) => u.2 0 = some ow) (fun (u : Nat × (Nat → Option Nat)) t => va_P (dC, dI) rfCl [(h0, .inr (13, [.int mc, .ref (u.1), .int 1])), (ev, .inl (aC 5, 0, .inr (.inr (.inr (.inr ef))))), (ow, .inl (aC 0, 128, .inl of)), ((u.1), .inl (aC 5, 10, .inr (.inr (.inr (.inr u.2)))))] t.heap ∧ va_D (va_A [(h0, .inr (13, [.int mc, .ref ev, .int 0])), (ev, .inl (aC 5, 0, .inr (.inr (.inr (.inr ef))))), (ow, .inl (aC 0, 128, .inl of))] sz) [(h0, .inr (13, [.int mc, .ref (u.1), .int 1])), (ev, .inl (aC 5, 0, .inr (.inr (.inr (.inr ef))))), (ow, .inl (aC 0, 128, .inl of)), ((u.1), .inl (aC 5, 10, .inr (.inr (.inr (.inr u.2)))))]) (va_A [(h0, .inr (13, [.int mc, .ref ev, .int 0])), (ev, .inl (aC 5, 0, .inr (.inr (.inr (.inr ef))))), (ow, .inl (aC 0, 128, .inl of))] sz)) 1 10 (va_A [(h0, .inr (13, [.int mc, .ref ev, .int 0])), (ev, .inl (aC 5, 0, .inr (.inr (.inr (.inr ef))))), (ow, .inl (aC 0, 128, .inl of))] sz) := by
  refine Met.ofW (cc := cJx4a65c_add_72be8) (maxL := 4) (ret := none) (by decide) rfl ?_
  intro p e s m args below meth c s₁ B hml hv
  obtain ⟨⟨rfl, hsz, hP, hKN, hD0⟩, hZ⟩ := hv
  obtain ⟨hK, hN⟩ := hKN
  have hx := B.exec
  have hb := B.bytes
  have hr := B.returns
  have hts := atoms_spec (ws := wsJx4a65c_add_72be8) B.pre
  have hown : s.vm.findClass RJx4a65c = some m.cls := findClass_of_methodNamed B.named
  have hlocks := B.notSynchronized
  subst hsz
  have hD := hD0.self (sz := s.heap.size)
  generalize hAe : va_A [(h0, .inr (13, [.int mc, .ref ev, .int 0])), (ev, .inl (aC 5, 0, .inr (.inr (.inr (.inr ef))))), (ow, .inl (aC 0, 128, .inl of))] s.heap.size = A at hD hZ ⊢
  have hA : ∀ q : Nat, s.heap.size ≤ q → A q := fun q h => by rw [← hAe]; exact Or.inr h
  have hS : va_S A s.heap s.heap [] := va_S.rf
  have hP : va_P (dC, dI) rfCl [(h0, .inr (13, [.int mc, .ref ev, .int 0])), (ev, .inl (aC 5, 0, .inr (.inr (.inr (.inr ef))))), (ow, .inl (aC 0, 128, .inl of))] s.heap := hP
  have hl := lv_entry ([.ref h0, .ref ow, .ref ev, .int 0]) (n := 4) (Nat.le_of_ble_eq_true rfl)
  rw [lg_entry_eq]
  generalize (lg_sl ([.ref h0, .ref ow, .ref ev, .int 0]) ++ List.replicate (4 - (lg_sl ([.ref h0, .ref ow, .ref ev, .int 0])).length) Slot.unset).toArray = ls at hl ⊢
  have hl : lv_has ls 4 [(0, .ref h0), (1, .ref ow), (2, .ref ev), (3, .int 0)] := hl
  refine lv_iload_n hx hb dJx4a65c_add_72be8_0 rfl (lv_at hl 3 rfl) ?_
  refine lv_aload_n hx hb dJx4a65c_add_72be8_1 rfl (lv_at hl 2 rfl) ?_
  refine va_alen (v := 0) hx hb hK hP 1 5 rfl rfl rfl dJx4a65c_add_72be8_2 ?_
  refine lv_icmp_ne (tgt := 11) hx hb dJx4a65c_add_72be8_3 (by decide) (fun c9 => absurd rfl c9) (fun _ => ?_)
  refine lv_aload_n hx hb dJx4a65c_add_72be8_6 rfl (lv_at hl 0 rfl) ?_
  have hPc := hP.sub (ws' := [(h0, .inr (13, [.int mc, .ref ev, .int 0])), (ev, .inl (aC 5, 0, .inr (.inr (.inr (.inr ef)))))]) [0, 1] rfl
  have hDc := hD.sub (ws' := [(h0, .inr (13, [.int mc, .ref ev, .int 0])), (ev, .inl (aC 5, 0, .inr (.inr (.inr (.inr ef)))))]) [0, 1] (by decide) rfl
  have hFc := va_free (wc := [(h0, .inr (13, [.int mc, .ref ev, .int 0])), (ev, .inl (aC 5, 0, .inr (.inr (.inr (.inr ef)))))]) hD hS hA [0, 1] rfl
  have hFc := va_free (wc := [(h0, .inr (13, [.int mc, .ref ev, .int 0])), (ev, .inl (aC 5, 0, .inr (.inr (.inr (.inr ef)))))]) hD hS hA [0, 1] rfl
  refine va_callr (va_runV (As := []) (rest := []) ⟨hx, hb, hml, hown, hts⟩ (c_Jx4a65c_grow_d5877 l dC dI aC s.heap.size ev h0 mc ef) (cwV 0 hts gJx4a65c_add_72be8_Jx4a65c_grow_d5877 rfl rfl rfl (by decide +kernel) ⟨Nat.le_of_ble_eq_true rfl, Nat.le_of_ble_eq_true rfl⟩) (rf_pvZ hK hN hPc hDc (va_recv hK hP (ci := 13) (q0 := 0) rfl rfl) hZ hS hFc) rfl rfl hl.1 rfl (lv_room (Nat.le_of_ble_eq_true rfl)) dJx4a65c_add_72be8_7 ⟨Nat.le_of_ble_eq_true rfl, Nat.le_of_ble_eq_true rfl⟩) hS (fun q _ h => hFc q h) hFc (fun u1 r2 t H1 locs ht hvm hwu1 hB hz1 hk1 hS => ?_)
  obtain ⟨hra, hP1, hD1⟩ := hB
  rw [ht] at hP1
  try dsimp only at hwu1 hP1 hD1
  obtain ⟨hP, hD⟩ := va_join (wr := [(ow, .inl (aC 0, 128, .inl of))]) (w1 := [(h0, .inr (13, [.int mc, .ref u1, .int 0])), (ev, .inl (aC 5, 0, .inr (.inr (.inr (.inr ef))))), (u1, .inl (aC 5, 10, .inr (.inr (.inr (.inr (fun _ => none))))))]) hP hD [0, 1] [2] rfl rfl (by decide) (by decide) hk1 hFc hP1 hD1
  clear hP1 hD1 hPc hDc hFc
  generalize H1 = H at hP hS ⊢
  rw [hra]
  have hP : va_P (dC, dI) rfCl [(ow, .inl (aC 0, 128, .inl of)), (h0, .inr (13, [.int mc, .ref u1, .int 0])), (ev, .inl (aC 5, 0, .inr (.inr (.inr (.inr ef))))), (u1, .inl (aC 5, 10, .inr (.inr (.inr (.inr (fun _ => none))))))] H := hP
  have hD : va_D A [(ow, .inl (aC 0, 128, .inl of)), (h0, .inr (13, [.int mc, .ref u1, .int 0])), (ev, .inl (aC 5, 0, .inr (.inr (.inr (.inr ef))))), (u1, .inl (aC 5, 10, .inr (.inr (.inr (.inr (fun _ => none))))))] := hD
  refine W.widen (k := 1) (n := 10) (Nat.le_of_ble_eq_true rfl) (Nat.le_of_ble_eq_true rfl) ?_
  refine lv_astore_n (lv' := [(2, .ref u1), (0, .ref h0), (1, .ref ow), (3, .int 0)]) hx hb dJx4a65c_add_72be8_10 rfl hl (by decide) rfl (fun ls hl => ?_)
  refine lv_aload_n hx hb dJx4a65c_add_72be8_11 rfl (lv_at hl 0 rfl) ?_
  refine lv_iload_n hx hb dJx4a65c_add_72be8_12 rfl (lv_at hl 3 rfl) ?_
  refine lv_aload_n hx hb dJx4a65c_add_72be8_13 rfl (lv_at hl 2 rfl) ?_
  refine va_astqM hx hb hK hP hD hS 3 5 rfl rfl (rf_anyZ hK hN hP 0 rfl) (vp_in_nI (n := 0) (N := 10) (by decide) (by decide)) dJx4a65c_add_72be8_14 (fun H locs hP hD hS => ?_)
  have hP : va_P (dC, dI) rfCl [(ow, .inl (aC 0, 128, .inl of)), (h0, .inr (13, [.int mc, .ref u1, .int 0])), (ev, .inl (aC 5, 0, .inr (.inr (.inr (.inr ef))))), (u1, .inl (aC 5, 10, .inr (.inr (.inr (.inr (va_up (fun _ => none) ((0 : Int32)).toNatClampNeg (some ow)))))))] H := hP
  have hD : va_D A [(ow, .inl (aC 0, 128, .inl of)), (h0, .inr (13, [.int mc, .ref u1, .int 0])), (ev, .inl (aC 5, 0, .inr (.inr (.inr (.inr ef))))), (u1, .inl (aC 5, 10, .inr (.inr (.inr (.inr (va_up (fun _ => none) ((0 : Int32)).toNatClampNeg (some ow)))))))] := hD
  refine lv_aload_n hx hb dJx4a65c_add_72be8_15 rfl (lv_at hl 1 rfl) ?_
  refine lv_iload_n hx hb dJx4a65c_add_72be8_16 rfl (lv_at hl 3 rfl) ?_
  refine lv_iconst (v := 1) hx hb dJx4a65c_add_72be8_17 (by decide) ?_
  refine lv_iadd hx hb dJx4a65c_add_72be8_18 ?_
  refine lv_topi (fun t3 et3 => ?_)
  have hl9 : t3 = 1 := by rw [et3]; decide
  subst hl9
  refine va_put (D := (dC, dI)) (ci := 13) (v := .int 1) (ty := .int) (C := RJx4a65c) (T := TJx4a65c) (N := 3) hx hb hts (by decide +kernel) tyJx4a65c tyJx4a65c_ok nmJx4a65c hown hK hP hD hS 1 rfl rfl 2 (by decide) (hts (.fieldLink RJx4a65c 48 "java/util/ArrayList" "size" "I") (by decide +kernel)) (fun _ h9 => h9) rfl (by decide +kernel) rfl rfl (Nat.le_of_ble_eq_true rfl) dJx4a65c_add_72be8_19 (fun H locs hP hD hS => ?_)
  have hP : va_P (dC, dI) rfCl [(ow, .inl (aC 0, 128, .inl of)), (h0, .inr (13, [.int mc, .ref u1, .int 1])), (ev, .inl (aC 5, 0, .inr (.inr (.inr (.inr ef))))), (u1, .inl (aC 5, 10, .inr (.inr (.inr (.inr (va_up (fun _ => none) ((0 : Int32)).toNatClampNeg (some ow)))))))] H := hP
  have hD : va_D A [(ow, .inl (aC 0, 128, .inl of)), (h0, .inr (13, [.int mc, .ref u1, .int 1])), (ev, .inl (aC 5, 0, .inr (.inr (.inr (.inr ef))))), (u1, .inl (aC 5, 10, .inr (.inr (.inr (.inr (va_up (fun _ => none) ((0 : Int32)).toNatClampNeg (some ow)))))))] := hD
  have hP9 := hP.sub (ws' := [(h0, .inr (13, [.int mc, .ref u1, .int 1])), (ev, .inl (aC 5, 0, .inr (.inr (.inr (.inr ef))))), (ow, .inl (aC 0, 128, .inl of)), (u1, .inl (aC 5, 10, .inr (.inr (.inr (.inr (va_up (fun _ => none) ((0 : Int32)).toNatClampNeg (some ow)))))))]) [1, 2, 0, 3] rfl
  have hD9 := hD.sub (ws' := [(h0, .inr (13, [.int mc, .ref u1, .int 1])), (ev, .inl (aC 5, 0, .inr (.inr (.inr (.inr ef))))), (ow, .inl (aC 0, 128, .inl of)), (u1, .inl (aC 5, 10, .inr (.inr (.inr (.inr (va_up (fun _ => none) ((0 : Int32)).toNatClampNeg (some ow)))))))]) [1, 2, 0, 3] (by decide) rfl
  refine W.widen (k := 1) (n := 10) (Nat.le_of_ble_eq_true rfl) (Nat.le_of_ble_eq_true rfl) ?_
  exact W.vret hx hb hr (fun t ht hW => ⟨⟨(u1, (va_up (fun _ => none) ((0 : Int32)).toNatClampNeg (some ow))), rfl, rfl, by rw [ht]; exact hP9, hD9⟩, hS.F ht⟩) hS.2.2 dJx4a65c_add_72be8_22

set_option maxHeartbeats 4000000 in
set_option maxRecDepth 100000 in
theorem c_Jx4a65c_add_9ea2d (l : Launch) (dC : Nat → ClassId) (dI : Nat → Nat → Nat) (aC : Nat → ClassId) (sz : Nat) (ev h0 : Nat) (mc : Int32) (ef : Nat → Option Nat) (ow : Nat) (of : Nat → Int32)  : Met l yJx4a65c_add_9ea2d wsJx4a65c_add_9ea2d ({ frames := 5, cells := 1, slots := 10, locals := 160 } : Room) (rf_PcZ (dC, dI) aC [.ref h0, .ref ow] [(h0, .inr (13, [.int mc, .ref ev, .int 0])), (ev, .inl (aC 5, 0, .inr (.inr (.inr (.inr ef))))), (ow, .inl (aC 0, 128, .inl of))] sz ev) (va_Qi (fun (r : Int32) (u : Int32 × Nat × (Nat → Option Nat)) => u.2.2 0 = some ow) (fun (u : Int32 × Nat × (Nat → Option Nat)) t => va_P (dC, dI) rfCl [(h0, .inr (13, [.int (u.1), .ref (u.2.1), .int 1])), (ev, .inl (aC 5, 0, .inr (.inr (.inr (.inr ef))))), (ow, .inl (aC 0, 128, .inl of)), ((u.2.1), .inl (aC 5, 10, .inr (.inr (.inr (.inr (u.2.2))))))] t.heap ∧ va_D (va_A [(h0, .inr (13, [.int mc, .ref ev, .int 0])), (ev, .inl (aC 5, 0, .inr (.inr (.inr (.inr ef))))), (ow, .inl (aC 0, 128, .inl of))] sz) [(h0, .inr (13, [.int (u.1), .ref (u.2.1), .int 1])), (ev, .inl (aC 5, 0, .inr (.inr (.inr (.inr ef))))), (ow, .inl (aC 0, 128, .inl of)), ((u.2.1), .inl (aC 5, 10, .inr (.inr (.inr (.inr (u.2.2))))))]) (va_A [(h0, .inr (13, [.int mc, .ref ev, .int 0])), (ev, .inl (aC 5, 0, .inr (.inr (.inr (.inr ef))))), (ow, .inl (aC 0, 128, .inl of))] sz)) 1 10 (va_A [(h0, .inr (13, [.int mc, .ref ev, .int 0])), (ev, .inl (aC 5, 0, .inr (.inr (.inr (.inr ef))))), (ow, .inl (aC 0, 128, .inl of))] sz) := by
  refine Met.ofW (cc := cJx4a65c_add_9ea2d) (maxL := 2) (ret := (some .boolean)) (by decide) rfl ?_
  intro p e s m args below meth c s₁ B hml hv
  obtain ⟨⟨rfl, hsz, hP, hKN, hD0⟩, hZ⟩ := hv
  obtain ⟨hK, hN⟩ := hKN
  have hx := B.exec
  have hb := B.bytes
  have hr := B.returns
  have hts := atoms_spec (ws := wsJx4a65c_add_9ea2d) B.pre
  have hown : s.vm.findClass RJx4a65c = some m.cls := findClass_of_methodNamed B.named
  have hlocks := B.notSynchronized
  subst hsz
  have hD := hD0.self (sz := s.heap.size)
  generalize hAe : va_A [(h0, .inr (13, [.int mc, .ref ev, .int 0])), (ev, .inl (aC 5, 0, .inr (.inr (.inr (.inr ef))))), (ow, .inl (aC 0, 128, .inl of))] s.heap.size = A at hD hZ ⊢
  have hA : ∀ q : Nat, s.heap.size ≤ q → A q := fun q h => by rw [← hAe]; exact Or.inr h
  have hS : va_S A s.heap s.heap [] := va_S.rf
  have hP : va_P (dC, dI) rfCl [(h0, .inr (13, [.int mc, .ref ev, .int 0])), (ev, .inl (aC 5, 0, .inr (.inr (.inr (.inr ef))))), (ow, .inl (aC 0, 128, .inl of))] s.heap := hP
  have hl := lv_entry ([.ref h0, .ref ow]) (n := 2) (Nat.le_of_ble_eq_true rfl)
  rw [lg_entry_eq]
  generalize (lg_sl ([.ref h0, .ref ow]) ++ List.replicate (2 - (lg_sl ([.ref h0, .ref ow])).length) Slot.unset).toArray = ls at hl ⊢
  have hl : lv_has ls 2 [(0, .ref h0), (1, .ref ow)] := hl
  refine lv_aload_n hx hb dJx4a65c_add_9ea2d_0 rfl (lv_at hl 0 rfl) ?_
  refine lv_dup hx hb dJx4a65c_add_9ea2d_1 rfl ?_
  refine va_get (D := (dC, dI)) (ci := 13) (v := .int mc) (C := RJx4a65c) (T := TJx4a65c) (N := 3) hx hb hts (by decide +kernel) hown hK hP 0 rfl rfl 0 (by decide) (hts (.fieldLink RJx4a65c 63 "java/util/ArrayList" "modCount" "I") (by decide +kernel)) (u_same (hts (.sameField "java/util/ArrayList" "java/util/AbstractList" "modCount" "I") (by decide +kernel))) rfl dJx4a65c_add_9ea2d_2 ?_
  refine lv_iconst (v := 1) hx hb dJx4a65c_add_9ea2d_5 (by decide) ?_
  refine lv_iadd hx hb dJx4a65c_add_9ea2d_6 ?_
  refine lv_topi (fun t1 et1 => ?_)
  refine va_put (D := (dC, dI)) (ci := 13) (v := .int t1) (ty := .int) (C := RJx4a65c) (T := TJx4a65c) (N := 3) hx hb hts (by decide +kernel) tyJx4a65c tyJx4a65c_ok nmJx4a65c hown hK hP hD hS 0 rfl rfl 0 (by decide) (hts (.fieldLink RJx4a65c 63 "java/util/ArrayList" "modCount" "I") (by decide +kernel)) (u_same (hts (.sameField "java/util/ArrayList" "java/util/AbstractList" "modCount" "I") (by decide +kernel))) rfl (by decide +kernel) rfl rfl (Nat.le_of_ble_eq_true rfl) dJx4a65c_add_9ea2d_7 (fun H locs hP hD hS => ?_)
  have hP : va_P (dC, dI) rfCl [(h0, .inr (13, [.int t1, .ref ev, .int 0])), (ev, .inl (aC 5, 0, .inr (.inr (.inr (.inr ef))))), (ow, .inl (aC 0, 128, .inl of))] H := hP
  have hD : va_D A [(h0, .inr (13, [.int t1, .ref ev, .int 0])), (ev, .inl (aC 5, 0, .inr (.inr (.inr (.inr ef))))), (ow, .inl (aC 0, 128, .inl of))] := hD
  refine lv_aload_n hx hb dJx4a65c_add_9ea2d_10 rfl (lv_at hl 0 rfl) ?_
  refine lv_aload_n hx hb dJx4a65c_add_9ea2d_11 rfl (lv_at hl 1 rfl) ?_
  refine lv_aload_n hx hb dJx4a65c_add_9ea2d_12 rfl (lv_at hl 0 rfl) ?_
  refine va_get (D := (dC, dI)) (ci := 13) (v := .ref ev) (C := RJx4a65c) (T := TJx4a65c) (N := 3) hx hb hts (by decide +kernel) hown hK hP 0 rfl rfl 1 (by decide) (hts (.fieldLink RJx4a65c 9 "java/util/ArrayList" "elementData" "[Ljava/lang/Object;") (by decide +kernel)) (fun _ h9 => h9) rfl dJx4a65c_add_9ea2d_13 ?_
  refine lv_aload_n hx hb dJx4a65c_add_9ea2d_16 rfl (lv_at hl 0 rfl) ?_
  refine va_get (D := (dC, dI)) (ci := 13) (v := .int 0) (C := RJx4a65c) (T := TJx4a65c) (N := 3) hx hb hts (by decide +kernel) hown hK hP 0 rfl rfl 2 (by decide) (hts (.fieldLink RJx4a65c 48 "java/util/ArrayList" "size" "I") (by decide +kernel)) (fun _ h9 => h9) rfl dJx4a65c_add_9ea2d_17 ?_
  have hPc := hP.sub (ws' := [(h0, .inr (13, [.int t1, .ref ev, .int 0])), (ev, .inl (aC 5, 0, .inr (.inr (.inr (.inr ef))))), (ow, .inl (aC 0, 128, .inl of))]) [0, 1, 2] rfl
  have hDc := hD.sub (ws' := [(h0, .inr (13, [.int t1, .ref ev, .int 0])), (ev, .inl (aC 5, 0, .inr (.inr (.inr (.inr ef))))), (ow, .inl (aC 0, 128, .inl of))]) [0, 1, 2] (by decide) rfl
  have hFc := va_free (wc := [(h0, .inr (13, [.int t1, .ref ev, .int 0])), (ev, .inl (aC 5, 0, .inr (.inr (.inr (.inr ef))))), (ow, .inl (aC 0, 128, .inl of))]) hD hS hA [0, 1, 2] rfl
  have hFc := va_free (wc := [(h0, .inr (13, [.int t1, .ref ev, .int 0])), (ev, .inl (aC 5, 0, .inr (.inr (.inr (.inr ef))))), (ow, .inl (aC 0, 128, .inl of))]) hD hS hA [0, 1, 2] rfl
  refine va_callv (va_runV (As := [.ref ow, .ref ev, .int 0]) (rest := []) ⟨hx, hb, hml, hown, hts⟩ (c_Jx4a65c_add_72be8 l dC dI aC H.size ev h0 t1 ef ow of) (cwV 3 hts gJx4a65c_add_9ea2d_Jx4a65c_add_72be8 rfl rfl rfl (by decide +kernel) ⟨Nat.le_of_ble_eq_true rfl, Nat.le_of_ble_eq_true rfl⟩) (rf_pvZ hK hN hPc hDc (va_recv hK hP (ci := 13) (q0 := 0) rfl rfl) hZ hS hFc) rfl rfl hl.1 rfl (lv_room (Nat.le_of_ble_eq_true rfl)) dJx4a65c_add_9ea2d_20 ⟨Nat.le_of_ble_eq_true rfl, Nat.le_of_ble_eq_true rfl⟩) hS (fun q _ h => hFc q h) hFc (fun u2 t H1 locs ht hvm hwu2 hB hz1 hk1 hS => ?_)
  obtain ⟨hP1, hD1⟩ := hB
  rw [ht] at hP1
  try dsimp only at hwu2 hP1 hD1
  obtain ⟨hP, hD⟩ := va_join (wr := []) (w1 := [(h0, .inr (13, [.int t1, .ref (u2.1), .int 1])), (ev, .inl (aC 5, 0, .inr (.inr (.inr (.inr ef))))), (ow, .inl (aC 0, 128, .inl of)), ((u2.1), .inl (aC 5, 10, .inr (.inr (.inr (.inr (u2.2))))))]) hP hD [0, 1, 2] [] rfl rfl (by decide) (by decide) hk1 hFc hP1 hD1
  clear hP1 hD1 hPc hDc hFc
  generalize H1 = H at hP hS ⊢
  have hP : va_P (dC, dI) rfCl [(h0, .inr (13, [.int t1, .ref (u2.1), .int 1])), (ev, .inl (aC 5, 0, .inr (.inr (.inr (.inr ef))))), (ow, .inl (aC 0, 128, .inl of)), ((u2.1), .inl (aC 5, 10, .inr (.inr (.inr (.inr (u2.2))))))] H := hP
  have hD : va_D A [(h0, .inr (13, [.int t1, .ref (u2.1), .int 1])), (ev, .inl (aC 5, 0, .inr (.inr (.inr (.inr ef))))), (ow, .inl (aC 0, 128, .inl of)), ((u2.1), .inl (aC 5, 10, .inr (.inr (.inr (.inr (u2.2))))))] := hD
  refine W.widen (k := 1) (n := 10) (Nat.le_of_ble_eq_true rfl) (Nat.le_of_ble_eq_true rfl) ?_
  refine lv_iconst (v := 1) hx hb dJx4a65c_add_9ea2d_23 (by decide) ?_
  have hP9 := hP.sub (ws' := [(h0, .inr (13, [.int t1, .ref (u2.1), .int 1])), (ev, .inl (aC 5, 0, .inr (.inr (.inr (.inr ef))))), (ow, .inl (aC 0, 128, .inl of)), ((u2.1), .inl (aC 5, 10, .inr (.inr (.inr (.inr (u2.2))))))]) [0, 1, 2, 3] rfl
  have hD9 := hD.sub (ws' := [(h0, .inr (13, [.int t1, .ref (u2.1), .int 1])), (ev, .inl (aC 5, 0, .inr (.inr (.inr (.inr ef))))), (ow, .inl (aC 0, 128, .inl of)), ((u2.1), .inl (aC 5, 10, .inr (.inr (.inr (.inr (u2.2))))))]) [0, 1, 2, 3] (by decide) rfl
  exact W.zret (v := 1) hx hb hr rfl (fun t ht hW => ⟨⟨1, (t1, u2.1, u2.2), rfl, hwu2, by rw [ht]; exact hP9, hD9⟩, hS.F ht⟩) hS.2.2 dJx4a65c_add_9ea2d_24

set_option maxHeartbeats 4000000 in
set_option maxRecDepth 100000 in
theorem c_Jx4a65c_elementData_915e3 (l : Launch) (dC : Nat → ClassId) (dI : Nat → Nat → Nat) (aC : Nat → ClassId) (sz : Nat) (h0 : Nat) (mc sz0 : Int32) (ed : Nat) (df : Nat → Option Nat) (ow : Nat) (hf : df 0 = some ow) : Met l yJx4a65c_elementData_915e3 wsJx4a65c_elementData_915e3 ({ frames := 1, cells := 0, slots := 0, locals := 0 } : Room) (rf_Pc (dC, dI) aC [.ref h0, .int 0] [(h0, .inr (13, [.int mc, .ref ed, .int sz0])), (ed, .inl (aC 5, 10, .inr (.inr (.inr (.inr df)))))] sz) (va_Sr (fun k => k = ow) (fun k => .ref k)) 0 0 (fun _ => False) := by
  refine Met.ofW (cc := cJx4a65c_elementData_915e3) (maxL := 2) (ret := (some (.object "java/lang/Object"))) (by decide) rfl ?_
  intro p e s m args below meth c s₁ B hml hv
  obtain ⟨rfl, hsz, hP, hKN, hD0⟩ := hv
  obtain ⟨hK, hN⟩ := hKN
  have hx := B.exec
  have hb := B.bytes
  have hr := B.returns
  have hts := atoms_spec (ws := wsJx4a65c_elementData_915e3) B.pre
  have hown : s.vm.findClass RJx4a65c = some m.cls := findClass_of_methodNamed B.named
  have hlocks := B.notSynchronized
  subst hsz
  have hD := hD0.self (sz := s.heap.size)
  generalize hAe : va_A [(h0, .inr (13, [.int mc, .ref ed, .int sz0])), (ed, .inl (aC 5, 10, .inr (.inr (.inr (.inr df)))))] s.heap.size = A at hD
  have hA : ∀ q : Nat, s.heap.size ≤ q → A q := fun q h => by rw [← hAe]; exact Or.inr h
  have hS : va_S A s.heap s.heap [] := va_S.rf
  have hP : va_P (dC, dI) rfCl [(h0, .inr (13, [.int mc, .ref ed, .int sz0])), (ed, .inl (aC 5, 10, .inr (.inr (.inr (.inr df)))))] s.heap := hP
  have hl := lv_entry ([.ref h0, .int 0]) (n := 2) (Nat.le_of_ble_eq_true rfl)
  rw [lg_entry_eq]
  generalize (lg_sl ([.ref h0, .int 0]) ++ List.replicate (2 - (lg_sl ([.ref h0, .int 0])).length) Slot.unset).toArray = ls at hl ⊢
  have hl : lv_has ls 2 [(0, .ref h0), (1, .int 0)] := hl
  refine lv_aload_n hx hb dJx4a65c_elementData_915e3_0 rfl (lv_at hl 0 rfl) ?_
  refine va_get (D := (dC, dI)) (ci := 13) (v := .ref ed) (C := RJx4a65c) (T := TJx4a65c) (N := 3) hx hb hts (by decide +kernel) hown hK hP 0 rfl rfl 1 (by decide) (hts (.fieldLink RJx4a65c 9 "java/util/ArrayList" "elementData" "[Ljava/lang/Object;") (by decide +kernel)) (fun _ h9 => h9) rfl dJx4a65c_elementData_915e3_1 ?_
  refine lv_iload_n hx hb dJx4a65c_elementData_915e3_4 rfl (lv_at hl 1 rfl) ?_
  refine va_aldq (C := "java/lang/Object") hx hb hK hP 1 5 rfl rfl (vp_in_nI (n := 0) (N := 10) (by decide) (by decide)) dJx4a65c_elementData_915e3_5 ?_
  refine W.eq (g2 := F0 m 6 ls [.ref ow]) (by rw [show ((0 : Int32)).toNatClampNeg = 0 from rfl, hf]; rfl) ?_
  exact W.aret (v := .ref ow) hx hb hr (Or.inl ⟨_, rfl⟩) (Or.inr ⟨_, rfl⟩) (fun t ht hW => ⟨_, rfl, rfl, ht⟩) (fun q h => nomatch h) dJx4a65c_elementData_915e3_6

set_option maxHeartbeats 4000000 in
set_option maxRecDepth 100000 in
theorem c_J3_checkIndex_8e157 (l : Launch) (dC : Nat → ClassId) (dI : Nat → Nat → Nat) (aC : Nat → ClassId) (sz : Nat)   : Met l yJ3_checkIndex_8e157 wsJ3_checkIndex_8e157 ({ frames := 1, cells := 0, slots := 0, locals := 0 } : Room) (rf_Pc (dC, dI) aC [.int 0, .int 1, .null] [] sz) (QcRead 0) 0 0 (fun _ => False) := by
  refine Met.ofW (cc := cJ3_checkIndex_8e157) (maxL := 3) (ret := (some .int)) (by decide) rfl ?_
  intro p e s m args below meth c s₁ B hml hv
  obtain ⟨rfl, hsz, hP, hKN, hD0⟩ := hv
  obtain ⟨hK, hN⟩ := hKN
  have hx := B.exec
  have hb := B.bytes
  have hr := B.returns
  have hts := atoms_spec (ws := wsJ3_checkIndex_8e157) B.pre
  have hown : s.vm.findClass RJ3 = some m.cls := findClass_of_methodNamed B.named
  have hlocks := B.notSynchronized
  subst hsz
  have hD := hD0.self (sz := s.heap.size)
  generalize hAe : va_A [] s.heap.size = A at hD
  have hA : ∀ q : Nat, s.heap.size ≤ q → A q := fun q h => by rw [← hAe]; exact Or.inr h
  have hS : va_S A s.heap s.heap [] := va_S.rf
  have hP : va_P (dC, dI) rfCl [] s.heap := hP
  have hl := lv_entry ([.int 0, .int 1, .null]) (n := 3) (Nat.le_of_ble_eq_true rfl)
  rw [lg_entry_eq]
  generalize (lg_sl ([.int 0, .int 1, .null]) ++ List.replicate (3 - (lg_sl ([.int 0, .int 1, .null])).length) Slot.unset).toArray = ls at hl ⊢
  have hl : lv_has ls 3 [(0, .int 0), (1, .int 1), (2, .null)] := hl
  refine lv_iload_n hx hb dJ3_checkIndex_8e157_0 rfl (lv_at hl 0 rfl) ?_
  refine lv_if_lt (tgt := 9) hx hb dJ3_checkIndex_8e157_1 (by decide) (fun c9 => absurd c9 (by decide)) (fun _ => ?_)
  refine lv_iload_n hx hb dJ3_checkIndex_8e157_4 rfl (lv_at hl 0 rfl) ?_
  refine lv_iload_n hx hb dJ3_checkIndex_8e157_5 rfl (lv_at hl 1 rfl) ?_
  refine lv_icmp_lt (tgt := 16) hx hb dJ3_checkIndex_8e157_6 (by decide) (fun _ => ?_) (fun c9 => absurd (by decide) c9)
  refine lv_iload_n hx hb dJ3_checkIndex_8e157_16 rfl (lv_at hl 0 rfl) ?_
  exact W.iret (v := 0) hx hb hr (fun t ht hW => ⟨rfl, ht⟩) (fun q h => nomatch h) dJ3_checkIndex_8e157_17

set_option maxHeartbeats 4000000 in
set_option maxRecDepth 100000 in
theorem c_J15_checkIndex_7cf53 (l : Launch) (dC : Nat → ClassId) (dI : Nat → Nat → Nat) (aC : Nat → ClassId) (sz : Nat)   : Met l yJ15_checkIndex_7cf53 wsJ15_checkIndex_7cf53 ({ frames := 2, cells := 0, slots := 0, locals := 40 } : Room) (rf_Pc (dC, dI) aC [.int 0, .int 1] [] sz) (QcRead 0) 0 0 (fun _ => False) := by
  refine Met.ofW (cc := cJ15_checkIndex_7cf53) (maxL := 2) (ret := (some .int)) (by decide) rfl ?_
  intro p e s m args below meth c s₁ B hml hv
  obtain ⟨rfl, hsz, hP, hKN, hD0⟩ := hv
  obtain ⟨hK, hN⟩ := hKN
  have hx := B.exec
  have hb := B.bytes
  have hr := B.returns
  have hts := atoms_spec (ws := wsJ15_checkIndex_7cf53) B.pre
  have hown : s.vm.findClass RJ15 = some m.cls := findClass_of_methodNamed B.named
  have hlocks := B.notSynchronized
  subst hsz
  have hD := hD0.self (sz := s.heap.size)
  generalize hAe : va_A [] s.heap.size = A at hD
  have hA : ∀ q : Nat, s.heap.size ≤ q → A q := fun q h => by rw [← hAe]; exact Or.inr h
  have hS : va_S A s.heap s.heap [] := va_S.rf
  have hP : va_P (dC, dI) rfCl [] s.heap := hP
  have hl := lv_entry ([.int 0, .int 1]) (n := 2) (Nat.le_of_ble_eq_true rfl)
  rw [lg_entry_eq]
  generalize (lg_sl ([.int 0, .int 1]) ++ List.replicate (2 - (lg_sl ([.int 0, .int 1])).length) Slot.unset).toArray = ls at hl ⊢
  have hl : lv_has ls 2 [(0, .int 0), (1, .int 1)] := hl
  refine lv_iload_n hx hb dJ15_checkIndex_7cf53_0 rfl (lv_at hl 0 rfl) ?_
  refine lv_iload_n hx hb dJ15_checkIndex_7cf53_1 rfl (lv_at hl 1 rfl) ?_
  refine lv_null hx hb dJ15_checkIndex_7cf53_2 ?_
  have hPc := hP.sub (ws' := []) [] rfl
  have hDc := hD.sub (ws' := []) [] (by decide) rfl
  refine W.callR (W.runS (As := [.int 0, .int 1, .null]) (rest := []) ⟨hx, hb, hml, hown, hts⟩ (c_J3_checkIndex_8e157 l dC dI aC s.heap.size ) (va_cwS 3 hts gJ15_checkIndex_7cf53_J3_checkIndex_8e157 rfl rfl rfl (by decide +kernel) ⟨Nat.le_of_ble_eq_true rfl, Nat.le_of_ble_eq_true rfl⟩) (rf_ps hK hN hPc hDc) rfl rfl hl.1 rfl (lv_room (Nat.le_of_ble_eq_true rfl)) dJ15_checkIndex_7cf53_3 ⟨Nat.le_of_ble_eq_true rfl, Nat.le_of_ble_eq_true rfl⟩) ?_
  refine W.eq (g2 := F0 m 6 ls [.int 0]) rfl ?_
  exact W.iret (v := 0) hx hb hr (fun t ht hW => ⟨rfl, ht⟩) (fun q h => nomatch h) dJ15_checkIndex_7cf53_6

set_option maxHeartbeats 4000000 in
set_option maxRecDepth 100000 in
theorem c_Jx4a65c_get_915e3 (l : Launch) (dC : Nat → ClassId) (dI : Nat → Nat → Nat) (aC : Nat → ClassId) (sz : Nat) (h0 : Nat) (mc : Int32) (ed : Nat) (df : Nat → Option Nat) (ow : Nat) (hf : df 0 = some ow) : Met l yJx4a65c_get_915e3 wsJx4a65c_get_915e3 ({ frames := 3, cells := 0, slots := 0, locals := 80 } : Room) (rf_Pc (dC, dI) aC [.ref h0, .int 0] [(h0, .inr (13, [.int mc, .ref ed, .int 1])), (ed, .inl (aC 5, 10, .inr (.inr (.inr (.inr df)))))] sz) (va_Sr (fun k => k = ow) (fun k => .ref k)) 0 0 (fun _ => False) := by
  refine Met.ofW (cc := cJx4a65c_get_915e3) (maxL := 2) (ret := (some (.object "java/lang/Object"))) (by decide) rfl ?_
  intro p e s m args below meth c s₁ B hml hv
  obtain ⟨rfl, hsz, hP, hKN, hD0⟩ := hv
  obtain ⟨hK, hN⟩ := hKN
  have hx := B.exec
  have hb := B.bytes
  have hr := B.returns
  have hts := atoms_spec (ws := wsJx4a65c_get_915e3) B.pre
  have hown : s.vm.findClass RJx4a65c = some m.cls := findClass_of_methodNamed B.named
  have hlocks := B.notSynchronized
  subst hsz
  have hD := hD0.self (sz := s.heap.size)
  generalize hAe : va_A [(h0, .inr (13, [.int mc, .ref ed, .int 1])), (ed, .inl (aC 5, 10, .inr (.inr (.inr (.inr df)))))] s.heap.size = A at hD
  have hA : ∀ q : Nat, s.heap.size ≤ q → A q := fun q h => by rw [← hAe]; exact Or.inr h
  have hS : va_S A s.heap s.heap [] := va_S.rf
  have hP : va_P (dC, dI) rfCl [(h0, .inr (13, [.int mc, .ref ed, .int 1])), (ed, .inl (aC 5, 10, .inr (.inr (.inr (.inr df)))))] s.heap := hP
  have hl := lv_entry ([.ref h0, .int 0]) (n := 2) (Nat.le_of_ble_eq_true rfl)
  rw [lg_entry_eq]
  generalize (lg_sl ([.ref h0, .int 0]) ++ List.replicate (2 - (lg_sl ([.ref h0, .int 0])).length) Slot.unset).toArray = ls at hl ⊢
  have hl : lv_has ls 2 [(0, .ref h0), (1, .int 0)] := hl
  refine lv_iload_n hx hb dJx4a65c_get_915e3_0 rfl (lv_at hl 1 rfl) ?_
  refine lv_aload_n hx hb dJx4a65c_get_915e3_1 rfl (lv_at hl 0 rfl) ?_
  refine va_get (D := (dC, dI)) (ci := 13) (v := .int 1) (C := RJx4a65c) (T := TJx4a65c) (N := 3) hx hb hts (by decide +kernel) hown hK hP 0 rfl rfl 2 (by decide) (hts (.fieldLink RJx4a65c 48 "java/util/ArrayList" "size" "I") (by decide +kernel)) (fun _ h9 => h9) rfl dJx4a65c_get_915e3_2 ?_
  have hPc := hP.sub (ws' := []) [] rfl
  have hDc := hD.sub (ws' := []) [] (by decide) rfl
  refine W.callR (W.runS (As := [.int 0, .int 1]) (rest := []) ⟨hx, hb, hml, hown, hts⟩ (c_J15_checkIndex_7cf53 l dC dI aC s.heap.size ) (va_cwS 2 hts gJx4a65c_get_915e3_J15_checkIndex_7cf53 rfl rfl rfl (by decide +kernel) ⟨Nat.le_of_ble_eq_true rfl, Nat.le_of_ble_eq_true rfl⟩) (rf_ps hK hN hPc hDc) rfl rfl hl.1 rfl (lv_room (Nat.le_of_ble_eq_true rfl)) dJx4a65c_get_915e3_5 ⟨Nat.le_of_ble_eq_true rfl, Nat.le_of_ble_eq_true rfl⟩) ?_
  refine W.eq (g2 := F0 m 8 ls [.int 0]) rfl ?_
  refine lv_pop hx hb dJx4a65c_get_915e3_8 rfl ?_
  refine lv_aload_n hx hb dJx4a65c_get_915e3_9 rfl (lv_at hl 0 rfl) ?_
  refine lv_iload_n hx hb dJx4a65c_get_915e3_10 rfl (lv_at hl 1 rfl) ?_
  have hPc := hP.sub (ws' := [(h0, .inr (13, [.int mc, .ref ed, .int 1])), (ed, .inl (aC 5, 10, .inr (.inr (.inr (.inr df)))))]) [0, 1] rfl
  have hDc := hD.sub (ws' := [(h0, .inr (13, [.int mc, .ref ed, .int 1])), (ed, .inl (aC 5, 10, .inr (.inr (.inr (.inr df)))))]) [0, 1] (by decide) rfl
  refine va_csr (W.runV (As := [.int 0]) (rest := []) ⟨hx, hb, hml, hown, hts⟩ (c_Jx4a65c_elementData_915e3 l dC dI aC s.heap.size h0 mc 1 ed df ow hf) (cwV 1 hts gJx4a65c_get_915e3_Jx4a65c_elementData_915e3 rfl rfl rfl (by decide +kernel) ⟨Nat.le_of_ble_eq_true rfl, Nat.le_of_ble_eq_true rfl⟩) (rf_pv hK hN hPc hDc (va_recv hK hP (ci := 13) (q0 := 0) rfl rfl)) rfl rfl hl.1 rfl (lv_room (Nat.le_of_ble_eq_true rfl)) dJx4a65c_get_915e3_11 ⟨Nat.le_of_ble_eq_true rfl, Nat.le_of_ble_eq_true rfl⟩) (fun k9 hk9 => ?_)
  rw [hk9]
  exact W.aret (v := .ref ow) hx hb hr (Or.inl ⟨_, rfl⟩) (Or.inr ⟨_, rfl⟩) (fun t ht hW => ⟨_, rfl, rfl, ht⟩) (fun q h => nomatch h) dJx4a65c_get_915e3_14
end
